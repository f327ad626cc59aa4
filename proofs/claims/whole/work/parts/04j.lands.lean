theorem row.ld {Z : gZ} {C C' : gC} {S : gS} {i k n q : Nat} (h : row Z C k n (S q)) (e : C' k 0 = C k 0) (hq : q ≠ 5) (hq6 : q ≠ 6) (hq0 : q ≠ 0) : row Z C' k n (ldS S i q) := by
  obtain ⟨F, h1, h2⟩ := h
  exact ⟨F, e.trans h1, fun j hj => by rw [ldS_o (by omega) (by omega) (by omega)]; exact h2 j hj⟩
theorem md.land {Z : gZ} {B : gB} {C C' : gC} {S : gS} {T : gTx} {th mg : Int} {i : Nat} {x : List Int} {F Fs F80 F81 : Nat → Int} (h : md Z B C S T th) (hgx : mg3 (T (1 + i)) (T 0) (prs S T i) = some x)
    (e0 : C' 70 0 = mdO B th (S 0 0 : Int) (S 0 1 : Int) (S 0 2 : Int) ((S 0 3 : Int) + 1) mg) (e1 : C' 71 0 = some (gJ Z 312 F)) (e2 : C' 72 0 = some (gJ Z 26 Fs)) (e3 : mtx F Fs (tu T 0 x))
    (h80 : ∀ j, j < 4 → F80 j = (S 5 j : Int)) (h81 : ∀ j, j < 4 → F81 j = (S 6 j : Int)) (e80 : C' 80 0 = some (gJ Z 4 (ju F80 i 1))) (e81 : C' 81 0 = some (gJ Z 4 (ju F81 (S 0 3) (i : Int))))
    (hf : ∀ k', 73 ≤ k' → k' ≤ 90 → k' ≠ 80 → k' ≠ 81 → C' k' 0 = C k' 0) : md Z B C' (ldS S i) (ldT S T i) th := by
  obtain ⟨-, -, b1, b2, b3, b4, b5, b6, b7, b8, b9, b10, b11, b12, b13, b14, c1, c2, c3, c4⟩ := h
  have k := fun (k' : Nat) (a : 73 ≤ k') (b : k' ≤ 90) (c : k' ≠ 80) (d : k' ≠ 81) => hf k' a b c d
  have eT : ldT S T i = tu T 0 x := by unfold ldT; rw [hgx]; rfl
  refine ⟨⟨mg, ?_⟩, ⟨F, Fs, e1, e2, by rw [eT]; exact e3⟩, b1.ld (k _ (by omega) (by omega) (by omega) (by omega)) (by omega) (by omega) (by omega), b2.ld (k _ (by omega) (by omega) (by omega) (by omega)) (by omega) (by omega) (by omega), b3.ld (k _ (by omega) (by omega) (by omega) (by omega)) (by omega) (by omega) (by omega), b4.ld (k _ (by omega) (by omega) (by omega) (by omega)) (by omega) (by omega) (by omega), b5.ld (k _ (by omega) (by omega) (by omega) (by omega)) (by omega) (by omega) (by omega), b6.ld (k _ (by omega) (by omega) (by omega) (by omega)) (by omega) (by omega) (by omega), b7.ld (k _ (by omega) (by omega) (by omega) (by omega)) (by omega) (by omega) (by omega), ⟨_, e80, fun j hj => ?_⟩, ⟨_, e81, fun j hj => ?_⟩, b10.ld (k _ (by omega) (by omega) (by omega) (by omega)) (by omega) (by omega) (by omega), b11.ld (k _ (by omega) (by omega) (by omega) (by omega)) (by omega) (by omega) (by omega), b12.ld (k _ (by omega) (by omega) (by omega) (by omega)) (by omega) (by omega) (by omega), b13.ld (k _ (by omega) (by omega) (by omega) (by omega)) (by omega) (by omega) (by omega), b14.ld (k _ (by omega) (by omega) (by omega) (by omega)) (by omega) (by omega) (by omega), c1.kept (k _ (by omega) (by omega) (by omega) (by omega)), c2.kept (k _ (by omega) (by omega) (by omega) (by omega)), c3.kept (k _ (by omega) (by omega) (by omega) (by omega)), c4.kept (k _ (by omega) (by omega) (by omega) (by omega))⟩
  · rw [ldS_o (by omega) (by omega) (by omega), ldS_o (by omega) (by omega) (by omega), ldS_o (by omega) (by omega) (by omega), ldS_3]; exact e0
  · by_cases e : j = i
    · subst e; rw [ju_s, ldS_5]; rfl
    · rw [ju_n e, ldS_o (by omega) (by omega) (by omega)]; exact h80 j hj
  · by_cases e : j = S 0 3
    · subst e; rw [ju_s, ldS_6]
    · rw [ju_n e, ldS_o (by omega) (by omega) (by omega)]; exact h81 j hj

theorem ds_X8_lands : yX8_lands.cls ≠ "java/lang/invoke/MethodHandle" ∧ yX8_lands.cls ≠ "java/lang/invoke/VarHandle" ∧ (parseMethodDescriptor yX8_lands.desc).map (fun d => d.parameters.length) = some 1 := by decide +kernel
theorem in_X8_lands_8 : ∀ w ∈ wsX80, w ∈ wsX8_lands := by decide +kernel
def rX8_lands : Room := { frames := 2, cells := 0, slots := 0, locals := 45 }
set_option maxHeartbeats 4000000 in
set_option maxRecDepth 100000 in
theorem k_X8_lands {l : Launch} {Z : gZ} {B : gB} {C0 : gC} {S : gS} {T : gTx} {th : Int} {i : Nat} {x : List Int} (hmd : md Z B C0 S T th) (hwf : wf S T) (hi : i < S 0 0) (h50 : S 5 i = 0) (hgx : mg3 (T (1 + i)) (T 0) (prs S T i) = some x) (hx12 : x.length ≤ 12) (hli : lies Z B C0 S T th x) : Met l yX8_lands wsX8_lands rX8_lands (gPc Z B C0 [.ref (B 70 0), .int (zI (i : Int))]) (gQv Z B (fun C1 => md Z B C1 (ldS S i) (ldT S T i) th ∧ fmd C0 C1)) 0 0 (gA Z) := by
  refine g_ofV (cc := cX8_lands) (maxL := 2) (by decide) rfl (Nat.le_of_ble_eq_true rfl) ?_
  intro p e s m args below meth c Q X kret hW hS ls hl
  have hx := X.1.1
  have hb := X.1.2.1
  have hts := X.1.2.2.2.2
  have hl : lv_has ls 2 [(0, .ref (B 70 0)), (1, .int (zI (i : Int)))] := hl
  obtain ⟨⟨mg, hm70⟩, ⟨F71, F72, hm71, hm72, hmt⟩, ⟨F73, hm73, ha73⟩, ⟨F74, hm74, ha74⟩, ⟨F75, hm75, ha75⟩, ⟨F76, hm76, ha76⟩, ⟨F77, hm77, ha77⟩, ⟨F78, hm78, ha78⟩, ⟨F79, hm79, ha79⟩, ⟨F80, hm80, ha80⟩, ⟨F81, hm81, ha81⟩, ⟨F82, hm82, ha82⟩, ⟨F83, hm83, ha83⟩, ⟨F84, hm84, ha84⟩, ⟨F85, hm85, ha85⟩, ⟨F86, hm86, ha86⟩, ⟨F87, hm87⟩, ⟨F88, hm88⟩, ⟨F89, hm89⟩, ⟨F90, hm90⟩⟩ := id hmd
  have hwn := hwf.n
  obtain ⟨hob, FX, FSX, hFX, hmx, hFS, hmtX⟩ := hli
  have hwi := hwf.ch hi
  have hld := hwf.ld' hi h50
  refine lv_aload_n hx hb dX8_lands_0 rfl (lv_at hl 0 rfl) ?_
  refine g_get (ci := 8) X in_X8_lands_8 rfl hW hob 6 (by decide) (hts _ (List.mem_of_getElem? (i := 1) rfl)) rfl dX8_lands_1 ?_
  refine lv_bipush (v := zI (25)) hx hb dX8_lands_4 (by decide) ?_
  refine lv_aload_n hx hb dX8_lands_6 rfl (lv_at hl 0 rfl) ?_
  refine g_get (ci := 8) X in_X8_lands_8 rfl hW hob 25 (by decide) (hts _ (List.mem_of_getElem? (i := 2) rfl)) rfl dX8_lands_7 ?_
  refine z_iast X hW hS hFS (by omega) (by omega) (by omega) dX8_lands_10 (fun C1 H locs hs2 hn3 hW hS => ?_)
  refine lv_aload_n hx hb dX8_lands_11 rfl (lv_at hl 0 rfl) ?_
  refine lv_bipush (v := zI (25)) hx hb dX8_lands_12 (by decide) ?_
  refine lv_iconst (v := zI (0)) hx hb dX8_lands_14 rfl ?_
  have f4 : C1 70 0 = some (.inr (8, [.int (zI th), .int (zI (S 0 0 : Int)), .int (zI (S 0 1 : Int)), .int (zI (S 0 2 : Int)), .int (zI (S 0 3 : Int)), .ref (B 71 0), .ref (B 72 0), .ref (B 73 0), .ref (B 74 0), .ref (B 75 0), .ref (B 76 0), .ref (B 77 0), .ref (B 78 0), .ref (B 79 0), .ref (B 80 0), .ref (B 81 0), .ref (B 82 0), .ref (B 83 0), .ref (B 84 0), .ref (B 85 0), .ref (B 86 0), .ref (B 87 0), .ref (B 88 0), .ref (B 89 0), .ref (B 90 0), .int (zI ((x.length : Nat) : Int))])) := ((hn3 70 0 (gk (by decide))).trans hob)
  have f5 : C1 71 0 = some (gJ Z 312 FX) := ((hn3 71 0 (gk (by decide))).trans hFX)
  refine g_cv (g_runV X (k_X8_copies (sa := 25) (sb := 0) (t := x) f4 f5 hs2 (by rw [show (25 : Nat) = (25 : Int).toNat from rfl, ju_s]) (fun k hk => by rw [show 12 * 25 + k = 300 + k by omega]; exact hmx k hk (by omega)) (by omega) (by omega) (by omega) (by omega)) (cwV 2 hts gX8_lands_X8_copies rfl rfl rfl ⟨rfl, ds_X8_copies⟩ ⟨Nat.le_of_ble_eq_true rfl, Nat.le_of_ble_eq_true rfl⟩) hW hS f4 rfl rfl hl.1 rfl (Nat.le_of_ble_eq_true rfl) dX8_lands_15 ⟨Nat.le_of_ble_eq_true rfl, Nat.le_of_ble_eq_true rfl⟩) hS (fun C6 H locs hp7 hW hS => ?_)
  obtain ⟨⟨F8, h9, hn10, ho11⟩, h12, hf13⟩ := hp7
  refine lv_aload_n hx hb dX8_lands_18 rfl (lv_at hl 0 rfl) ?_
  have f14 : C6 70 0 = some (.inr (8, [.int (zI th), .int (zI (S 0 0 : Int)), .int (zI (S 0 1 : Int)), .int (zI (S 0 2 : Int)), .int (zI (S 0 3 : Int)), .ref (B 71 0), .ref (B 72 0), .ref (B 73 0), .ref (B 74 0), .ref (B 75 0), .ref (B 76 0), .ref (B 77 0), .ref (B 78 0), .ref (B 79 0), .ref (B 80 0), .ref (B 81 0), .ref (B 82 0), .ref (B 83 0), .ref (B 84 0), .ref (B 85 0), .ref (B 86 0), .ref (B 87 0), .ref (B 88 0), .ref (B 89 0), .ref (B 90 0), .int (zI ((x.length : Nat) : Int))])) := ((hf13 70 0 (by omega)).trans f4)
  refine g_get (ci := 8) X in_X8_lands_8 rfl hW f14 14 (by decide) (hts _ (List.mem_of_getElem? (i := 3) rfl)) rfl dX8_lands_19 ?_
  refine lv_iload_n hx hb dX8_lands_22 rfl (lv_at hl 1 rfl) ?_
  refine lv_iconst (v := zI (1)) hx hb dX8_lands_23 rfl ?_
  have f15 : C6 80 0 = some (gJ Z 4 F80) := ((hf13 80 0 (by omega)).trans ((hn3 80 0 (gk (by decide))).trans hm80))
  refine z_iast X hW hS f15 (by omega) (by omega) (by omega) dX8_lands_24 (fun C16 H locs hs17 hn18 hW hS => ?_)
  refine lv_aload_n hx hb dX8_lands_25 rfl (lv_at hl 0 rfl) ?_
  have f19 : C16 70 0 = some (.inr (8, [.int (zI th), .int (zI (S 0 0 : Int)), .int (zI (S 0 1 : Int)), .int (zI (S 0 2 : Int)), .int (zI (S 0 3 : Int)), .ref (B 71 0), .ref (B 72 0), .ref (B 73 0), .ref (B 74 0), .ref (B 75 0), .ref (B 76 0), .ref (B 77 0), .ref (B 78 0), .ref (B 79 0), .ref (B 80 0), .ref (B 81 0), .ref (B 82 0), .ref (B 83 0), .ref (B 84 0), .ref (B 85 0), .ref (B 86 0), .ref (B 87 0), .ref (B 88 0), .ref (B 89 0), .ref (B 90 0), .int (zI ((x.length : Nat) : Int))])) := ((hn18 70 0 (gk (by decide))).trans f14)
  refine g_get (ci := 8) X in_X8_lands_8 rfl hW f19 15 (by decide) (hts _ (List.mem_of_getElem? (i := 4) rfl)) rfl dX8_lands_26 ?_
  refine lv_aload_n hx hb dX8_lands_29 rfl (lv_at hl 0 rfl) ?_
  refine g_get (ci := 8) X in_X8_lands_8 rfl hW f19 4 (by decide) (hts _ (List.mem_of_getElem? (i := 5) rfl)) rfl dX8_lands_30 ?_
  refine lv_iload_n hx hb dX8_lands_33 rfl (lv_at hl 1 rfl) ?_
  have f20 : C16 81 0 = some (gJ Z 4 F81) := ((hn18 81 0 (gk (by decide))).trans ((hf13 81 0 (by omega)).trans ((hn3 81 0 (gk (by decide))).trans hm81)))
  refine z_iast X hW hS f20 (by omega) (by omega) (by omega) dX8_lands_34 (fun C21 H locs hs22 hn23 hW hS => ?_)
  refine lv_aload_n hx hb dX8_lands_35 rfl (lv_at hl 0 rfl) ?_
  refine lv_dup hx hb dX8_lands_36 rfl ?_
  have f24 : C21 70 0 = some (.inr (8, [.int (zI th), .int (zI (S 0 0 : Int)), .int (zI (S 0 1 : Int)), .int (zI (S 0 2 : Int)), .int (zI (S 0 3 : Int)), .ref (B 71 0), .ref (B 72 0), .ref (B 73 0), .ref (B 74 0), .ref (B 75 0), .ref (B 76 0), .ref (B 77 0), .ref (B 78 0), .ref (B 79 0), .ref (B 80 0), .ref (B 81 0), .ref (B 82 0), .ref (B 83 0), .ref (B 84 0), .ref (B 85 0), .ref (B 86 0), .ref (B 87 0), .ref (B 88 0), .ref (B 89 0), .ref (B 90 0), .int (zI ((x.length : Nat) : Int))])) := ((hn23 70 0 (gk (by decide))).trans f19)
  refine g_get (ci := 8) X in_X8_lands_8 rfl hW f24 4 (by decide) (hts _ (List.mem_of_getElem? (i := 5) rfl)) rfl dX8_lands_37 ?_
  refine lv_iconst (v := zI (1)) hx hb dX8_lands_40 rfl ?_
  refine z_iadd hx hb dX8_lands_41 ?_
  refine g_put (ci := 8) (ty := .int) X in_X8_lands_8 tyX8 tyX8_ok nmX8 rfl hW hS f24 4 (by decide) (hts _ (List.mem_of_getElem? (i := 5) rfl)) rfl (by decide +kernel) (rfl) (rfl) (Nat.le_of_ble_eq_true rfl) dX8_lands_42 (fun C25 H locs hs26 hn27 hW hS => ?_)
  have f28 : C25 80 0 = some (gJ Z 4 (ju F80 (i : Int).toNat 1)) := ((hn27 80 0 (gk (by decide))).trans ((hn23 80 0 (gk (by decide))).trans hs17))
  have e80 : C25 80 0 = some (gJ Z 4 (ju F80 i 1)) := by have h9 := f28; rwa [show ((i : Int)).toNat = i by omega] at h9
  have f29 : C25 81 0 = some (gJ Z 4 (ju F81 (S 0 3 : Int).toNat (i : Int))) := ((hn27 81 0 (gk (by decide))).trans hs22)
  have e81 : C25 81 0 = some (gJ Z 4 (ju F81 (S 0 3) (i : Int))) := by have h9 := f29; rwa [show ((S 0 3 : Int)).toNat = S 0 3 by omega] at h9
  have e3 : mtx F8 (ju (ju FSX (25 : Int).toNat ((x.length : Nat) : Int)) 0 ((x.length : Nat) : Int)) (tu T 0 x) := by
    refine ⟨fun s1 h1 => ?_, fun s1 h1 k1 h2 => ?_⟩
    · by_cases e9 : s1 = 0
      · rw [e9, ju_s, tu_s]
      · rw [ju_n e9, ju_n (show ¬ s1 = (25 : Int).toNat by omega), tu_n e9]; exact hmtX.1 s1 h1
    · by_cases e9 : s1 = 0
      · subst e9; rw [tu_s] at h2 ⊢; exact hn10 k1 h2
      · rw [tu_n e9] at h2 ⊢; have h3 := hwf.tx s1; rw [ho11 _ (by omega)]; exact hmtX.2 s1 h1 k1 h2
  have f30 : C25 71 0 = some (gJ Z 312 F8) := ((hn27 71 0 (gk (by decide))).trans ((hn23 71 0 (gk (by decide))).trans ((hn18 71 0 (gk (by decide))).trans h9)))
  have f31 : C25 72 0 = some (gJ Z 26 (ju (ju FSX (25 : Int).toNat ((x.length : Nat) : Int)) 0 (x.length : Int))) := ((hn27 72 0 (gk (by decide))).trans ((hn23 72 0 (gk (by decide))).trans ((hn18 72 0 (gk (by decide))).trans h12)))
  exact kret _ _ _ _ _ _ _ (⟨md.land hmd hgx hs26 f30 f31 e3 ha80 ha81 e80 e81 (fun k' z1 z2 z3 z4 => ((hn27 k' 0 (by omega)).trans ((hn23 k' 0 (by omega)).trans ((hn18 k' 0 (by omega)).trans ((hf13 k' 0 (by omega)).trans ((hn3 k' 0 (by omega)).trans rfl)))))), fun k' i' h => (hn27 k' i' (by omega)).trans ((hn23 k' i' (by omega)).trans ((hn18 k' i' (by omega)).trans ((hf13 k' i' (by omega)).trans ((hn3 k' i' (by omega))))))⟩) hW hS (Nat.le_of_ble_eq_true rfl) (Nat.le_of_ble_eq_true rfl) dX8_lands_45
