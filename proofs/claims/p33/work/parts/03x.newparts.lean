theorem ds_X1_addRound : yX1_addRound.cls ≠ "java/lang/invoke/MethodHandle" ∧ yX1_addRound.cls ≠ "java/lang/invoke/VarHandle" ∧ (parseMethodDescriptor yX1_addRound.desc).map (fun d => d.parameters.length) = some 0 := by decide +kernel
theorem in_X1_addRound_1 : ∀ w ∈ wsX10, w ∈ wsX1_addRound := by decide +kernel
theorem in_X1_addRound_5 : ∀ w ∈ wsX50, w ∈ wsX1_addRound := by decide +kernel
def rX1_addRound : Room := { frames := 5, cells := 2, slots := 26, locals := 111 }
set_option maxHeartbeats 4000000 in
set_option maxRecDepth 100000 in
theorem k_X1_addRound {l : Launch} {Z : gZ} {B : gB} {C0 : gC} {S : gS} {T : gTx} {i : Nat} (hcs : cs Z B C0 S T) (hwf : wf S T) (hi : i < S 0 0) (hr4 : S 2 i < 4) : Met l yX1_addRound wsX1_addRound rX1_addRound (gPc Z B C0 [.ref (B 40 i)]) (gQvB Z (fun B1 C1 => chg Z B1 C1 (nS_lay S i) (nT_lay S T i) i ∧ (∀ k' i', ¬ ((k' = 46 ∨ k' = 47) ∧ i' = 4 * i + S 2 i) → B1 k' i' = B k' i') ∧ ∀ k' i', ¬ (((k' = 40 ∨ k' = 43 ∨ k' = 44 ∨ k' = 45) ∧ i' = i) ∨ ((k' = 46 ∨ k' = 47) ∧ i' = 4 * i + S 2 i)) → C1 k' i' = C0 k' i')) 2 26 (gA Z) := by
  refine g_ofVB (cc := cX1_addRound) (maxL := 2) (by decide) rfl (Nat.le_of_ble_eq_true rfl) ?_
  intro p e s m args below meth c Q X hin kret hW hS ls hl
  have hx := X.1.1
  have hb := X.1.2.1
  have hts := X.1.2.2.2.2
  have hl : lv_has ls 2 [(0, .ref (B 40 i))] := hl
  obtain ⟨hc0, hc1, hc2, ⟨f45, hc3, hc3a, hc3b⟩, hc4, hc4n, hc5, F50, hc6, hc6a⟩ := id (cs.ch hcs hi)
  have hwi := hwf.ch hi
  have hn4 := hwf.n.1
  refine lv_aload_n hx hb dX1_addRound_0 rfl (lv_at hl 0 rfl) ?_
  refine g_get (ci := 1) X in_X1_addRound_1 rfl hW hc0 6 (by decide) (hts _ (List.mem_of_getElem? (i := 1) rfl)) rfl dX1_addRound_1 ?_
  refine lv_aload_n hx hb dX1_addRound_4 rfl (lv_at hl 0 rfl) ?_
  refine g_get (ci := 1) X in_X1_addRound_1 rfl hW hc0 4 (by decide) (hts _ (List.mem_of_getElem? (i := 2) rfl)) rfl dX1_addRound_5 ?_
  refine z_alen (t := 3) X hW hc3 rfl dX1_addRound_8 ?_
  refine z_icmp_ge (tgt := 55) hx hb dX1_addRound_9 (by decide) (⟨by omega, by omega⟩) (⟨by omega, by omega⟩) (fun h_9 => absurd h_9 (by omega)) (fun h_9 => ?_)
  refine g_new (ci := 5) (fs := [.null, .int (zI 0)]) 46 (4 * i + S 2 i) X in_X1_addRound_5 tyX5 tyX5_ok (hts _ (List.mem_of_getElem? (i := 3) rfl)) (hts _ (List.mem_of_getElem? (i := 4) rfl)) (hts _ (List.mem_of_getElem? (i := 5) rfl)) rfl hW hS (hc4n (S 2 i) (Nat.le_refl _) hr4).1 (fun j hj => by rcases j with _ | _ | j; rfl; rfl; omega) (Nat.le_of_ble_eq_true rfl) (Nat.le_of_ble_eq_true rfl) dX1_addRound_12 (fun a1 B2 C3 H hB4 hBn5 hs6 hn7 hW hS => ?_)
  subst hB4
  have hl : lv_has ls 2 [(0, .ref (B2 40 i))] := by rw [hBn5 40 i (gk (by decide))]; exact hl
  have f8 : C3 40 i = some (.inr (1, [.int (zI (i : Int)), .int (zI (S 1 i : Int)), .ref (B 41 i), .ref (B 43 i), .ref (B 45 i), .ref (B 48 i), .int (zI (S 2 i : Int)), .int (zI (S 4 i : Int)), .int (zI (S 5 i : Int)), .int (zI (S 3 i : Int)), .ref (B 50 i)])) := ((hn7 40 i (gk (by decide))).trans hc0)
  have f9 : C3 40 i = some (.inr (1, [.int (zI (i : Int)), .int (zI (S 1 i : Int)), .ref (B2 41 i), .ref (B2 43 i), .ref (B2 45 i), .ref (B2 48 i), .int (zI (S 2 i : Int)), .int (zI (S 4 i : Int)), .int (zI (S 5 i : Int)), .int (zI (S 3 i : Int)), .ref (B2 50 i)])) := by rw [hBn5 41 i (gk (by decide)), hBn5 43 i (gk (by decide)), hBn5 45 i (gk (by decide)), hBn5 48 i (gk (by decide)), hBn5 50 i (gk (by decide))]; exact f8
  have ht10 : tx Z B C3 41 i (T (1 + i)) := (tx.kept hc1 (hn7 41 i (gk (by decide))) (hn7 42 i (gk (by decide))))
  have ht12 : tx Z B C3 43 i (T (5 + i)) := (tx.kept hc2 (hn7 43 i (gk (by decide))) (hn7 44 i (gk (by decide))))
  have f14 : C3 45 i = some (gR Z 3 4 f45) := ((hn7 45 i (gk (by decide))).trans hc3)
  have ht15 : tx Z B C3 48 i ([]) := (tx.kept hc5 (hn7 48 i (gk (by decide))) (hn7 49 i (gk (by decide))))
  have f17 : C3 50 i = some (gJ Z 5 F50) := ((hn7 50 i (gk (by decide))).trans hc6)
  refine lv_dup hx hb dX1_addRound_15 rfl ?_
  refine g_cvB (g_runIN X (k_X5_init hs6 (((hn7 47 (4 * i + S 2 i) (gk (by decide))).trans (hc4n (S 2 i) (Nat.le_refl _) hr4).2))) ⟨va_cnB 0 hts gX1_addRound_X5_init_n11 rfl rfl rfl (nmw_8 X.2.2.1) (hts _ (List.mem_of_getElem? (i := 5) rfl)) ds_X5_init ⟨Nat.le_of_ble_eq_true rfl, Nat.le_of_ble_eq_true rfl⟩, rfl, hts _ (List.mem_of_getElem? (i := 7) rfl)⟩ hW hS rfl hl.1 rfl (Nat.le_of_ble_eq_true rfl) dX1_addRound_16 ⟨Nat.le_of_ble_eq_true rfl, Nat.le_of_ble_eq_true rfl⟩) hS (fun B20 C18 H locs hp19 hW hS => ?_)
  obtain ⟨ht21, hB22, hf23⟩ := hp19
  have hl : lv_has ls 2 [(0, .ref (B20 40 i))] := by rw [hB22 40 i (by omega)]; exact hl
  rw [← hB22 46 (4 * i + S 2 i) (by omega)]
  have f24 : C18 40 i = some (.inr (1, [.int (zI (i : Int)), .int (zI (S 1 i : Int)), .ref (B2 41 i), .ref (B2 43 i), .ref (B2 45 i), .ref (B2 48 i), .int (zI (S 2 i : Int)), .int (zI (S 4 i : Int)), .int (zI (S 5 i : Int)), .int (zI (S 3 i : Int)), .ref (B2 50 i)])) := ((hf23 40 i (by omega)).trans f9)
  have f25 : C18 40 i = some (.inr (1, [.int (zI (i : Int)), .int (zI (S 1 i : Int)), .ref (B20 41 i), .ref (B20 43 i), .ref (B20 45 i), .ref (B20 48 i), .int (zI (S 2 i : Int)), .int (zI (S 4 i : Int)), .int (zI (S 5 i : Int)), .int (zI (S 3 i : Int)), .ref (B20 50 i)])) := by rw [hB22 41 i (by omega), hB22 43 i (by omega), hB22 45 i (by omega), hB22 48 i (by omega), hB22 50 i (by omega)]; exact f24
  have ht26 : tx Z B2 C18 41 i (T (1 + i)) := (tx.kept (tx.B ht10 (hBn5 42 i (gk (by decide)))) (hf23 41 i (by omega)) (hf23 42 i (by omega)))
  have ht28 : tx Z B2 C18 43 i (T (5 + i)) := (tx.kept (tx.B ht12 (hBn5 44 i (gk (by decide)))) (hf23 43 i (by omega)) (hf23 44 i (by omega)))
  have f30 : C18 45 i = some (gR Z 3 4 f45) := ((hf23 45 i (by omega)).trans f14)
  have ht31 : tx Z B2 C18 48 i ([]) := (tx.kept (tx.B ht15 (hBn5 49 i (gk (by decide)))) (hf23 48 i (by omega)) (hf23 49 i (by omega)))
  have f33 : C18 50 i = some (gJ Z 5 F50) := ((hf23 50 i (by omega)).trans f17)
  refine lv_astore_n (lv' := [(1, .ref (B20 46 (4 * i + S 2 i))), (0, .ref (B20 40 i))]) hx hb dX1_addRound_19 rfl hl (by decide) rfl (fun ls hl => ?_)
  refine lv_aload_n hx hb dX1_addRound_20 rfl (lv_at hl 0 rfl) ?_
  refine lv_aload_n hx hb dX1_addRound_21 rfl (lv_at hl 1 rfl) ?_
  refine g_get (ci := 1) X in_X1_addRound_1 rfl hW f25 3 (by decide) (hts _ (List.mem_of_getElem? (i := 6) rfl)) rfl dX1_addRound_22 ?_
  refine g_cv (g_runV X (k_X5_copy (t := []) (t2 := T (5 + i)) ht21 (tx.B ht28 (hB22 44 i (by omega))) (Or.inr (by decide)) ) (cwV 1 hts gX1_addRound_X5_copy rfl rfl rfl ⟨rfl, ds_X5_copy⟩ ⟨Nat.le_of_ble_eq_true rfl, Nat.le_of_ble_eq_true rfl⟩) hW hS ht21.2.2.1 rfl rfl hl.1 rfl (Nat.le_of_ble_eq_true rfl) dX1_addRound_25 ⟨Nat.le_of_ble_eq_true rfl, Nat.le_of_ble_eq_true rfl⟩) hS (fun C34 H locs hp35 hW hS => ?_)
  obtain ⟨ht36, hf37⟩ := hp35
  refine lv_aload_n hx hb dX1_addRound_28 rfl (lv_at hl 1 rfl) ?_
  have f38 : C34 40 i = some (.inr (1, [.int (zI (i : Int)), .int (zI (S 1 i : Int)), .ref (B20 41 i), .ref (B20 43 i), .ref (B20 45 i), .ref (B20 48 i), .int (zI (S 2 i : Int)), .int (zI (S 4 i : Int)), .int (zI (S 5 i : Int)), .int (zI (S 3 i : Int)), .ref (B20 50 i)])) := ((hf37 40 i (by omega)).trans f25)
  refine g_get (ci := 1) X in_X1_addRound_1 rfl hW f38 4 (by decide) (hts _ (List.mem_of_getElem? (i := 2) rfl)) rfl dX1_addRound_29 ?_
  refine lv_aload_n hx hb dX1_addRound_32 rfl (lv_at hl 1 rfl) ?_
  refine g_get (ci := 1) X in_X1_addRound_1 rfl hW f38 6 (by decide) (hts _ (List.mem_of_getElem? (i := 1) rfl)) rfl dX1_addRound_33 ?_
  refine lv_aload_n hx hb dX1_addRound_36 rfl (lv_at hl 0 rfl) ?_
  have f39 : C34 45 i = some (gR Z 3 4 f45) := ((hf37 45 i (by omega)).trans f30)
  refine z_aast (t := 3) (ci := 5) X hW hS f39 rfl ht36.2.2.1 rfl (by omega) (by omega) (by omega) dX1_addRound_37 (fun C40 H locs hs41 hn42 hW hS => ?_)
  refine lv_aload_n hx hb dX1_addRound_38 rfl (lv_at hl 1 rfl) ?_
  refine lv_dup hx hb dX1_addRound_39 rfl ?_
  have f43 : C40 40 i = some (.inr (1, [.int (zI (i : Int)), .int (zI (S 1 i : Int)), .ref (B20 41 i), .ref (B20 43 i), .ref (B20 45 i), .ref (B20 48 i), .int (zI (S 2 i : Int)), .int (zI (S 4 i : Int)), .int (zI (S 5 i : Int)), .int (zI (S 3 i : Int)), .ref (B20 50 i)])) := ((hn42 40 i (gk (by decide))).trans f38)
  refine g_get (ci := 1) X in_X1_addRound_1 rfl hW f43 6 (by decide) (hts _ (List.mem_of_getElem? (i := 1) rfl)) rfl dX1_addRound_40 ?_
  refine lv_iconst (v := zI (1)) hx hb dX1_addRound_43 rfl ?_
  refine z_iadd hx hb dX1_addRound_44 ?_
  refine g_put (ci := 1) (ty := .int) X in_X1_addRound_1 tyX1 tyX1_ok nmX1 rfl hW hS f43 6 (by decide) (hts _ (List.mem_of_getElem? (i := 1) rfl)) rfl (by decide +kernel) (rfl) (rfl) (Nat.le_of_ble_eq_true rfl) dX1_addRound_45 (fun C44 H locs hs45 hn46 hW hS => ?_)
  refine lv_aload_n hx hb dX1_addRound_48 rfl (lv_at hl 1 rfl) ?_
  refine g_get (ci := 1) X in_X1_addRound_1 rfl hW hs45 3 (by decide) (hts _ (List.mem_of_getElem? (i := 6) rfl)) rfl dX1_addRound_49 ?_
  have ht47 : tx Z B20 C44 43 i (T (5 + i)) := (tx.kept (tx.kept (tx.kept (tx.B ht28 (hB22 44 i (by omega))) (hf37 43 i (by omega)) (hf37 44 i (by omega))) (hn42 43 i (gk (by decide))) (hn42 44 i (gk (by decide)))) (hn46 43 i (gk (by decide))) (hn46 44 i (gk (by decide))))
  refine g_cv (g_runV X (k_X5_clear (t := T (5 + i)) ht47 ) (cwV 0 hts gX1_addRound_X5_clear rfl rfl rfl ⟨rfl, ds_X5_clear⟩ ⟨Nat.le_of_ble_eq_true rfl, Nat.le_of_ble_eq_true rfl⟩) hW hS ht47.2.2.1 rfl rfl hl.1 rfl (Nat.le_of_ble_eq_true rfl) dX1_addRound_52 ⟨Nat.le_of_ble_eq_true rfl, Nat.le_of_ble_eq_true rfl⟩) hS (fun C48 H locs hp49 hW hS => ?_)
  obtain ⟨ht50, hf51⟩ := hp49
  have hBf : ∀ k' i', ¬ ((k' = 46 ∨ k' = 47) ∧ i' = 4 * i + S 2 i) → B20 k' i' = B k' i' := fun k' i' h => (hB22 k' i' (by omega)).trans ((hBn5 k' i' (by omega)))
  have hCf : ∀ k' i', ¬ (((k' = 40 ∨ k' = 43 ∨ k' = 44 ∨ k' = 45) ∧ i' = i) ∨ ((k' = 46 ∨ k' = 47) ∧ i' = 4 * i + S 2 i)) → C48 k' i' = C0 k' i' := fun k' i' h1 => ((hf51 k' i' (by omega)).trans ((hn46 k' i' (by omega)).trans ((hn42 k' i' (by omega)).trans ((hf37 k' i' (by omega)).trans ((hf23 k' i' (by omega)).trans ((hn7 k' i' (by omega)).trans rfl))))))
  have f52 : C48 45 i = some (gR Z 3 4 (va_up f45 (S 2 i : Int).toNat (some (B20 46 (4 * i + S 2 i))))) := ((hf51 45 i (by omega)).trans ((hn46 45 i (gk (by decide))).trans hs41))
  have e45 := f52
  have f53 : C48 40 i = some (.inr (1, [.int (zI (i : Int)), .int (zI (S 1 i : Int)), .ref (B20 41 i), .ref (B20 43 i), .ref (B20 45 i), .ref (B20 48 i), .int (zI ((S 2 i : Int) + 1)), .int (zI (S 4 i : Int)), .int (zI (S 5 i : Int)), .int (zI (S 3 i : Int)), .ref (B20 50 i)])) := ((hf51 40 i (by omega)).trans hs45)
  have ht54 : tx Z B20 C48 46 (4 * i + S 2 i) (T (5 + i)) := (tx.kept (tx.kept (tx.kept ht36 (hn42 46 (4 * i + S 2 i) (gk (by decide))) (hn42 47 (4 * i + S 2 i) (gk (by decide)))) (hn46 46 (4 * i + S 2 i) (gk (by decide))) (hn46 47 (4 * i + S 2 i) (gk (by decide)))) (hf51 46 (4 * i + S 2 i) (by omega)) (hf51 47 (4 * i + S 2 i) (by omega)))
  exact kret _ _ _ _ _ _ _ _ (⟨chg.lay (cs.ch hcs hi) (by omega) hr4 f53 ht50 ht54 hc3a hc3b e45 hBf (fun k' i' z1 z2 => hCf k' i' (fun z => z.elim z1 z2)), hBf, hCf⟩) hW hS (Nat.le_of_ble_eq_true rfl) (Nat.le_of_ble_eq_true rfl) dX1_addRound_55

theorem ds_X7_lay : yX7_lay.cls ≠ "java/lang/invoke/MethodHandle" ∧ yX7_lay.cls ≠ "java/lang/invoke/VarHandle" ∧ (parseMethodDescriptor yX7_lay.desc).map (fun d => d.parameters.length) = some 1 := by decide +kernel
theorem in_X7_lay_1 : ∀ w ∈ wsX10, w ∈ wsX7_lay := by decide +kernel
def rX7_lay : Room := { frames := 7, cells := 4, slots := 38, locals := 132 }
set_option maxHeartbeats 4000000 in
set_option maxRecDepth 100000 in
theorem k_X7_lay {l : Launch} (hfl : l.stackTraces = false) {Z : gZ} {B : gB} {C0 : gC} {S : gS} {T : gTx} {cc : Int} (hcs : cs Z B C0 S T) (hcx : cx Z B C0) (hwf : wf S T) (rcc : zr cc) : vx_Met l yX7_lay wsX7_lay rX7_lay (gPc Z B C0 [.ref (B 0 0), .int (zI cc)]) (gQiB Z (fun r B1 C1 => (cd_lay S cc = 0 ∧ r = zI (S 2 cc.toNat : Int)) ∧ cs Z B1 C1 (nS_lay S cc.toNat) (nT_lay S T cc.toNat) ∧ cx Z B1 C1 ∧ gfo C0 C1 ∧ gfB B B1)) (gXC Z B (fun E C1 => (E = "java/lang/IndexOutOfBoundsException" ∧ cd_lay S cc = 1 ∨ E = "java/lang/IllegalStateException" ∧ cd_lay S cc = 2) ∧ cs Z B C1 S T ∧ cx Z B C1 ∧ gfo C0 C1)) 4 38 (gA Z) := by
  refine g_ofIBx (cc := cX7_lay) (maxL := 3) hfl (by decide) rfl rfl (Nat.le_of_ble_eq_true rfl) (Nat.le_of_ble_eq_true rfl) (Nat.le_of_ble_eq_true rfl) (Nat.le_of_ble_eq_true rfl) (Nat.le_of_ble_eq_true rfl) ?_
  intro p e s m args below meth c Q X kret ko kt hW hS ls hl
  have hx := X.1.1
  have hb := X.1.2.1
  have hts := X.1.2.2.2.2
  have hl : lv_has ls 3 [(0, .ref (B 0 0)), (1, .int (zI cc))] := hl
  obtain ⟨hb0, hb1, ⟨F3, hb3, hb3a⟩, ⟨f4, hb4, hb4a, hb4b⟩, ⟨f5, hb5, hb5a, hb5b⟩, ⟨F6, hb6, hb6a⟩, hb7, hb8, hb9, hb10, hb11⟩ := id hcs
  have hwn := hwf.n
  refine lv_aload_n hx hb dX7_lay_0 rfl (lv_at hl 0 rfl) ?_
  refine lv_iload_n hx hb dX7_lay_1 rfl (lv_at hl 1 rfl) ?_
  refine g_crx (g_runVx X (k_X7_changeOf hfl (a := cc) hcs hwf (rcc)) (cwV 1 hts gX7_lay_X7_changeOf rfl rfl rfl ⟨rfl, ds_X7_changeOf⟩ ⟨Nat.le_of_ble_eq_true rfl, Nat.le_of_ble_eq_true rfl⟩) hW hS hb0 rfl rfl hl.1 rfl (Nat.le_of_ble_eq_true rfl) dX7_lay_2 ⟨Nat.le_of_ble_eq_true rfl, Nat.le_of_ble_eq_true rfl⟩) hS (fun E9 ce9 q9 C9 H9 locs9 hp9 hW9 hS9 e1 e2 e3 => ko E9 ce9 q9 C9 H9 locs9 _ _ _ _ _ (pubx (Or.inl (⟨hp9.1, by unfold cd_lay; rw [if_pos (hp9.2.1)]⟩)) hcs hcx gfo.rfl' hp9.2.2) hW9 hS9 e1 e2 e3 (Nat.le_of_ble_eq_true rfl) (Nat.le_of_ble_eq_true rfl)) (fun r3 C1 H locs hp2 hW hS => ?_)
  obtain ⟨⟨hkc, rfl⟩, ehp2⟩ := hp2
  rw [ehp2] at hW
  have hicc : cc.toNat < S 0 0 := by omega
  obtain ⟨hc0, hc1, hc2, ⟨f45, hc3, hc3a, hc3b⟩, hc4, hc4n, hc5, F50, hc6, hc6a⟩ := id (cs.ch hcs hicc)
  have hwicc := hwf.ch hicc
  refine lv_astore_n (lv' := [(2, .ref (B 40 (cc.toNat))), (0, .ref (B 0 0)), (1, .int (zI cc))]) hx hb dX7_lay_5 rfl hl (by decide) rfl (fun ls hl => ?_)
  refine lv_aload_n hx hb dX7_lay_6 rfl (lv_at hl 0 rfl) ?_
  refine g_cvx (g_runSx X (k_X7_checkNotLanded hfl hcs hwf hicc) (va_cwS 1 hts gX7_lay_X7_checkNotLanded rfl rfl rfl ds_X7_checkNotLanded ⟨Nat.le_of_ble_eq_true rfl, Nat.le_of_ble_eq_true rfl⟩) hW hS rfl hl.1 rfl (Nat.le_of_ble_eq_true rfl) dX7_lay_7 ⟨Nat.le_of_ble_eq_true rfl, Nat.le_of_ble_eq_true rfl⟩) hS (fun E9 ce9 q9 C9 H9 locs9 hp9 hW9 hS9 e1 e2 e3 => ko E9 ce9 q9 C9 H9 locs9 _ _ _ _ _ (pubx (Or.inr (⟨hp9.1, by unfold cd_lay; rw [if_neg (fun z => z hkc), if_pos (Or.inl (by have := hp9.2.1; omega))]⟩)) hcs hcx gfo.rfl' hp9.2.2) hW9 hS9 e1 e2 e3 (Nat.le_of_ble_eq_true rfl) (Nat.le_of_ble_eq_true rfl)) (fun C5 H locs hp6 hW hS => ?_)
  obtain ⟨hkl, ehp6⟩ := hp6
  rw [ehp6] at hW
  refine lv_aload_n hx hb dX7_lay_10 rfl (lv_at hl 0 rfl) ?_
  refine g_getN (ci := 1) X in_X7_lay_1 rfl hW hc0 6 (by decide) _ nf_1 rfl rfl dX7_lay_11 ?_
  refine lv_iconst (v := zI (4)) hx hb dX7_lay_14 rfl ?_
  refine z_icmp_lt (tgt := 28) hx hb dX7_lay_15 (by decide) (⟨by omega, by omega⟩) (⟨by omega, by omega⟩) (fun h_15 => ?_) (fun h_15 => ?_)
  · refine lv_aload_n hx hb dX7_lay_28 rfl (lv_at hl 0 rfl) ?_
    refine g_cvB (g_runV X (k_X1_addRound hcs hwf hicc (by omega)) (cwV 0 hts gX7_lay_X1_addRound rfl rfl rfl ⟨rfl, ds_X1_addRound⟩ ⟨Nat.le_of_ble_eq_true rfl, Nat.le_of_ble_eq_true rfl⟩) hW hS hc0 rfl rfl hl.1 rfl (Nat.le_of_ble_eq_true rfl) dX7_lay_29 ⟨Nat.le_of_ble_eq_true rfl, Nat.le_of_ble_eq_true rfl⟩) hS (fun B10 C8 H locs hp9 hW hS => ?_)
    obtain ⟨hch11, hB12, hf13⟩ := hp9
    have hl : lv_has ls 3 [(2, .ref (B10 40 (cc.toNat))), (0, .ref (B10 0 0)), (1, .int (zI cc))] := by rw [hB12 0 0 (by omega), hB12 40 cc.toNat (by omega)]; exact hl
    have f14 : C8 0 0 = some (.inr (7, [.ref (B 1 0), .ref (B 3 0), .int (zI (S 0 1 : Int)), .ref (B 4 0), .int (zI (S 0 0 : Int)), .ref (B 5 0), .int (zI (S 0 2 : Int)), .ref (B 6 0), .int (zI (S 0 3 : Int)), .ref (B 10 0), .ref (B 14 0), .ref (B 16 0), .ref (B 18 0)])) := ((hf13 0 0 (by omega)).trans hb0)
    have f15 : C8 0 0 = some (.inr (7, [.ref (B10 1 0), .ref (B10 3 0), .int (zI (S 0 1 : Int)), .ref (B10 4 0), .int (zI (S 0 0 : Int)), .ref (B10 5 0), .int (zI (S 0 2 : Int)), .ref (B10 6 0), .int (zI (S 0 3 : Int)), .ref (B10 10 0), .ref (B10 14 0), .ref (B10 16 0), .ref (B10 18 0)])) := by rw [hB12 1 0 (by omega), hB12 10 0 (by omega), hB12 14 0 (by omega), hB12 16 0 (by omega), hB12 18 0 (by omega), hB12 3 0 (by omega), hB12 4 0 (by omega), hB12 5 0 (by omega), hB12 6 0 (by omega)]; exact f14
    refine lv_aload_n hx hb dX7_lay_32 rfl (lv_at hl 0 rfl) ?_
    refine g_getN (ci := 1) X in_X7_lay_1 rfl hW hch11.1 6 (by decide) _ nf_1 rfl rfl dX7_lay_33 ?_
    refine lv_iconst (v := zI (1)) hx hb dX7_lay_36 rfl ?_
    refine z_isub hx hb dX7_lay_37 ?_
    exact kret _ _ _ _ _ _ _ _ _ (⟨⟨by unfold cd_lay; rw [if_neg (fun z => z hkc), if_neg (by omega)], congrArg zI (by rw [show nS_lay S cc.toNat 2 cc.toNat = S 2 cc.toNat + 1 from su_s]; omega)⟩, (cs.lay hcs hwf hicc (by omega) hch11 hB12 (fun k' i' z1 z2 => hf13 k' i' (fun z => z.elim z1 z2))), (cx.B (cx.kept hcx (fun k' i' h1' h2' => hf13 (k') (i') (by omega))) (fun k' h1' h2' => hB12 (k') 0 (by omega))), (fun k' i' h => (hf13 k' i' (by omega))), fun k' i' h => (hB12 k' i' (by omega))⟩) hW hS (Nat.le_of_ble_eq_true rfl) (Nat.le_of_ble_eq_true rfl) dX7_lay_38
  · exact kt "java/lang/IllegalStateException" "the change has all its rounds" 87 127 91 _ _ _ _ _ _ _ _ (pubx (Or.inr (⟨rfl, by unfold cd_lay; rw [if_neg (fun z => z hkc), if_pos (Or.inr (by omega))]⟩)) hcs hcx gfo.rfl' rfl) hW hS hl ex_1 st_4 (by decide +kernel) (List.mem_of_getElem? (i := 1) rfl) (List.mem_of_getElem? (i := 2) rfl) (fun w hw => List.mem_cons_of_mem _ (List.mem_append_left _ (List.mem_append_right _ hw))) vxo_1_91 vxn_1_91 (Nat.le_of_ble_eq_true rfl) (Nat.le_of_ble_eq_true rfl) dX7_lay_18 dX7_lay_21 (Or.inl ⟨dX7_lay_22, dX7_lay_24, dX7_lay_27⟩)

theorem ds_X7_open : yX7_open.cls ≠ "java/lang/invoke/MethodHandle" ∧ yX7_open.cls ≠ "java/lang/invoke/VarHandle" ∧ (parseMethodDescriptor yX7_open.desc).map (fun d => d.parameters.length) = some 1 := by decide +kernel
theorem in_X7_open_1 : ∀ w ∈ wsX10, w ∈ wsX7_open := by decide +kernel
theorem in_X7_open_7 : ∀ w ∈ wsX70, w ∈ wsX7_open := by decide +kernel
def rX7_open : Room := { frames := 7, cells := 10, slots := 104, locals := 134 }
set_option maxHeartbeats 4000000 in
set_option maxRecDepth 100000 in
theorem k_X7_open {l : Launch} (hfl : l.stackTraces = false) {Z : gZ} {B : gB} {C0 : gC} {S : gS} {T : gTx} {a : Int} (hcs : cs Z B C0 S T) (hcx : cx Z B C0) (hwf : wf S T) (ra : zr a) (hz : wz S T) : vx_Met l yX7_open wsX7_open rX7_open (gPc Z B C0 [.ref (B 0 0), .int (zI a)]) (gQiB Z (fun r B1 C1 => (cd_open S a = 0 ∧ r = zI (S 0 0 : Int)) ∧ cs Z B1 C1 (nS_open S a) (nT_open S T) ∧ cx Z B1 C1 ∧ gfo C0 C1 ∧ gfB B B1)) (gXC Z B (fun E C1 => (E = "java/lang/IndexOutOfBoundsException" ∧ cd_open S a = 1 ∨ E = "java/lang/IllegalStateException" ∧ cd_open S a = 2) ∧ cs Z B C1 S T ∧ cx Z B C1 ∧ gfo C0 C1)) 10 104 (gA Z) := by
  refine g_ofIBx (cc := cX7_open) (maxL := 3) hfl (by decide) rfl rfl (Nat.le_of_ble_eq_true rfl) (Nat.le_of_ble_eq_true rfl) (Nat.le_of_ble_eq_true rfl) (Nat.le_of_ble_eq_true rfl) (Nat.le_of_ble_eq_true rfl) ?_
  intro p e s m args below meth c Q X kret ko kt hW hS ls hl
  have hx := X.1.1
  have hb := X.1.2.1
  have hts := X.1.2.2.2.2
  have hl : lv_has ls 3 [(0, .ref (B 0 0)), (1, .int (zI a))] := hl
  obtain ⟨hb0, hb1, ⟨F3, hb3, hb3a⟩, ⟨f4, hb4, hb4a, hb4b⟩, ⟨f5, hb5, hb5a, hb5b⟩, ⟨F6, hb6, hb6a⟩, hb7, hb8, hb9, hb10, hb11⟩ := id hcs
  have hwn := hwf.n
  refine lv_iload_n hx hb dX7_open_0 rfl (lv_at hl 1 rfl) ?_
  refine g_cvx (g_runSx X (k_X7_checkUser hfl (B := B) (C0 := C0) (a := a) (ra)) (va_cwS 1 hts gX7_open_X7_checkUser rfl rfl rfl ds_X7_checkUser ⟨Nat.le_of_ble_eq_true rfl, Nat.le_of_ble_eq_true rfl⟩) hW hS rfl hl.1 rfl (Nat.le_of_ble_eq_true rfl) dX7_open_1 ⟨Nat.le_of_ble_eq_true rfl, Nat.le_of_ble_eq_true rfl⟩) hS (fun E9 ce9 q9 C9 H9 locs9 hp9 hW9 hS9 e1 e2 e3 => ko E9 ce9 q9 C9 H9 locs9 _ _ _ _ _ (pubx (Or.inl (⟨hp9.1, by unfold cd_open; rw [if_pos (hp9.2.1)]⟩)) hcs hcx gfo.rfl' hp9.2.2) hW9 hS9 e1 e2 e3 (Nat.le_of_ble_eq_true rfl) (Nat.le_of_ble_eq_true rfl)) (fun C1 H locs hp2 hW hS => ?_)
  obtain ⟨hku, ehp2⟩ := hp2
  rw [ehp2] at hW
  refine lv_aload_n hx hb dX7_open_4 rfl (lv_at hl 0 rfl) ?_
  refine g_get (ci := 7) X in_X7_open_7 rfl hW hb0 4 (by decide) (hts _ (List.mem_of_getElem? (i := 3) rfl)) rfl dX7_open_5 ?_
  refine lv_aload_n hx hb dX7_open_8 rfl (lv_at hl 0 rfl) ?_
  refine g_get (ci := 7) X in_X7_open_7 rfl hW hb0 3 (by decide) (hts _ (List.mem_of_getElem? (i := 4) rfl)) rfl dX7_open_9 ?_
  refine z_alen (t := 1) X hW hb4 rfl dX7_open_12 ?_
  refine z_icmp_lt (tgt := 26) hx hb dX7_open_13 (by decide) (⟨by omega, by omega⟩) (⟨by omega, by omega⟩) (fun h_13 => ?_) (fun h_13 => ?_)
  · refine lv_aload_n hx hb dX7_open_26 rfl (lv_at hl 0 rfl) ?_
    refine g_get (ci := 7) X in_X7_open_7 rfl hW hb0 4 (by decide) (hts _ (List.mem_of_getElem? (i := 3) rfl)) rfl dX7_open_27 ?_
    refine lv_istore_n (lv' := [(2, .int (zI (S 0 0 : Int))), (0, .ref (B 0 0)), (1, .int (zI a))]) hx hb dX7_open_30 rfl hl (by decide) rfl (fun ls hl => ?_)
    refine lv_aload_n hx hb dX7_open_31 rfl (lv_at hl 1 rfl) ?_
    refine g_get (ci := 7) X in_X7_open_7 rfl hW hb0 3 (by decide) (hts _ (List.mem_of_getElem? (i := 4) rfl)) rfl dX7_open_32 ?_
    refine lv_iload_n hx hb dX7_open_35 rfl (lv_at hl 0 rfl) ?_
    refine g_new (ci := 1) (fs := [.int (zI 0), .int (zI 0), .null, .null, .null, .null, .int (zI 0), .int (zI 0), .int (zI 0), .int (zI 0), .null]) 40 (S 0 0) X in_X7_open_1 tyX1 tyX1_ok (hts _ (List.mem_of_getElem? (i := 5) rfl)) (hts _ (List.mem_of_getElem? (i := 6) rfl)) (hts _ (List.mem_of_getElem? (i := 7) rfl)) rfl hW hS (hb9 (S 0 0) 40 (Nat.le_refl _) (by decide) (by decide) (by decide) (by decide)) (fun j hj => by rcases j with _ | _ | _ | _ | _ | _ | _ | _ | _ | _ | _ | j; rfl; rfl; rfl; rfl; rfl; rfl; rfl; rfl; rfl; rfl; rfl; omega) (Nat.le_of_ble_eq_true rfl) (Nat.le_of_ble_eq_true rfl) dX7_open_36 (fun a4 B5 C6 H hB7 hBn8 hs9 hn10 hW hS => ?_)
    subst hB7
    have hl : lv_has ls 3 [(2, .int (zI (S 0 0 : Int))), (0, .ref (B5 0 0)), (1, .int (zI a))] := by rw [hBn8 0 0 (gk (by decide))]; exact hl
    rw [← hBn8 4 0 (gk (by decide))]
    have f11 : C6 0 0 = some (.inr (7, [.ref (B 1 0), .ref (B 3 0), .int (zI (S 0 1 : Int)), .ref (B 4 0), .int (zI (S 0 0 : Int)), .ref (B 5 0), .int (zI (S 0 2 : Int)), .ref (B 6 0), .int (zI (S 0 3 : Int)), .ref (B 10 0), .ref (B 14 0), .ref (B 16 0), .ref (B 18 0)])) := ((hn10 0 0 (gk (by decide))).trans hb0)
    have f12 : C6 0 0 = some (.inr (7, [.ref (B5 1 0), .ref (B5 3 0), .int (zI (S 0 1 : Int)), .ref (B5 4 0), .int (zI (S 0 0 : Int)), .ref (B5 5 0), .int (zI (S 0 2 : Int)), .ref (B5 6 0), .int (zI (S 0 3 : Int)), .ref (B5 10 0), .ref (B5 14 0), .ref (B5 16 0), .ref (B5 18 0)])) := by rw [hBn8 1 0 (gk (by decide)), hBn8 10 0 (gk (by decide)), hBn8 14 0 (gk (by decide)), hBn8 16 0 (gk (by decide)), hBn8 18 0 (gk (by decide)), hBn8 3 0 (gk (by decide)), hBn8 4 0 (gk (by decide)), hBn8 5 0 (gk (by decide)), hBn8 6 0 (gk (by decide))]; exact f11
    have ht13 : tx Z B C6 1 0 (T 0) := (tx.kept hb1 (hn10 1 0 (gk (by decide))) (hn10 2 0 (gk (by decide))))
    have f15 : C6 3 0 = some (gJ Z 100 F3) := ((hn10 3 0 (gk (by decide))).trans hb3)
    have f16 : C6 4 0 = some (gR Z 1 4 f4) := ((hn10 4 0 (gk (by decide))).trans hb4)
    have f17 : C6 5 0 = some (gR Z 2 12 f5) := ((hn10 5 0 (gk (by decide))).trans hb5)
    have f18 : C6 6 0 = some (gJ Z 4 F6) := ((hn10 6 0 (gk (by decide))).trans hb6)
    refine lv_dup hx hb dX7_open_39 rfl ?_
    refine lv_iload_n hx hb dX7_open_40 rfl (lv_at hl 0 rfl) ?_
    refine lv_iload_n hx hb dX7_open_41 rfl (lv_at hl 2 rfl) ?_
    refine lv_aload_n hx hb dX7_open_42 rfl (lv_at hl 1 rfl) ?_
    refine g_get (ci := 7) X in_X7_open_7 rfl hW f12 0 (by decide) (hts _ (List.mem_of_getElem? (i := 8) rfl)) rfl dX7_open_43 ?_
    refine g_cvB (g_runI X (k_X1_init (nm := (S 0 0 : Int)) (au := a) hs9 (fun k' a1 b1 c1 d1 => ((hn10 k' (S 0 0) (by omega)).trans (hb9 (S 0 0) k' (Nat.le_refl _) (by omega) b1 c1 d1))) (tx.B ht13 (hBn8 2 0 (gk (by decide)))) (by decide)) (cwI 3 hts gX7_open_X1_init rfl rfl rfl (hts _ (List.mem_of_getElem? (i := 7) rfl)) (hts _ (List.mem_of_getElem? (i := 15) rfl)) (hts _ (List.mem_of_getElem? (i := 16) rfl)) rfl ds_X1_init ⟨Nat.le_of_ble_eq_true rfl, Nat.le_of_ble_eq_true rfl⟩) hW hS rfl hl.1 rfl (Nat.le_of_ble_eq_true rfl) dX7_open_46 ⟨Nat.le_of_ble_eq_true rfl, Nat.le_of_ble_eq_true rfl⟩) hS (fun B21 C19 H locs hp20 hW hS => ?_)
    obtain ⟨hi22, hi23, hi24, hi25, hi26, hi27, hi28, hi29⟩ := hp20
    have hl : lv_has ls 3 [(2, .int (zI (S 0 0 : Int))), (0, .ref (B21 0 0)), (1, .int (zI a))] := by rw [hi28 0 0 (by omega)]; exact hl
    rw [← hi28 4 0 (by omega), ← hi28 40 (S 0 0) (by omega)]
    have f30 : C19 0 0 = some (.inr (7, [.ref (B5 1 0), .ref (B5 3 0), .int (zI (S 0 1 : Int)), .ref (B5 4 0), .int (zI (S 0 0 : Int)), .ref (B5 5 0), .int (zI (S 0 2 : Int)), .ref (B5 6 0), .int (zI (S 0 3 : Int)), .ref (B5 10 0), .ref (B5 14 0), .ref (B5 16 0), .ref (B5 18 0)])) := ((hi29 0 0 (by omega)).trans f12)
    have f31 : C19 0 0 = some (.inr (7, [.ref (B21 1 0), .ref (B21 3 0), .int (zI (S 0 1 : Int)), .ref (B21 4 0), .int (zI (S 0 0 : Int)), .ref (B21 5 0), .int (zI (S 0 2 : Int)), .ref (B21 6 0), .int (zI (S 0 3 : Int)), .ref (B21 10 0), .ref (B21 14 0), .ref (B21 16 0), .ref (B21 18 0)])) := by rw [hi28 1 0 (by omega), hi28 10 0 (by omega), hi28 14 0 (by omega), hi28 16 0 (by omega), hi28 18 0 (by omega), hi28 3 0 (by omega), hi28 4 0 (by omega), hi28 5 0 (by omega), hi28 6 0 (by omega)]; exact f30
    have ht32 : tx Z B5 C19 1 0 (T 0) := (tx.kept (tx.B ht13 (hBn8 2 0 (gk (by decide)))) (hi29 1 0 (by omega)) (hi29 2 0 (by omega)))
    have f34 : C19 3 0 = some (gJ Z 100 F3) := ((hi29 3 0 (by omega)).trans f15)
    have f35 : C19 4 0 = some (gR Z 1 4 f4) := ((hi29 4 0 (by omega)).trans f16)
    have f36 : C19 5 0 = some (gR Z 2 12 f5) := ((hi29 5 0 (by omega)).trans f17)
    have f37 : C19 6 0 = some (gJ Z 4 F6) := ((hi29 6 0 (by omega)).trans f18)
    refine z_aast (t := 1) (ci := 1) X hW hS f35 rfl hi22 rfl (by omega) (by omega) (by omega) dX7_open_49 (fun C38 H locs hs39 hn40 hW hS => ?_)
    refine lv_aload_n hx hb dX7_open_50 rfl (lv_at hl 1 rfl) ?_
    refine lv_dup hx hb dX7_open_51 rfl ?_
    have f41 : C38 0 0 = some (.inr (7, [.ref (B21 1 0), .ref (B21 3 0), .int (zI (S 0 1 : Int)), .ref (B21 4 0), .int (zI (S 0 0 : Int)), .ref (B21 5 0), .int (zI (S 0 2 : Int)), .ref (B21 6 0), .int (zI (S 0 3 : Int)), .ref (B21 10 0), .ref (B21 14 0), .ref (B21 16 0), .ref (B21 18 0)])) := ((hn40 0 0 (gk (by decide))).trans f31)
    refine g_get (ci := 7) X in_X7_open_7 rfl hW f41 4 (by decide) (hts _ (List.mem_of_getElem? (i := 3) rfl)) rfl dX7_open_52 ?_
    refine lv_iconst (v := zI (1)) hx hb dX7_open_55 rfl ?_
    refine z_iadd hx hb dX7_open_56 ?_
    refine g_put (ci := 7) (ty := .int) X in_X7_open_7 tyX7 tyX7_ok nmX7 rfl hW hS f41 4 (by decide) (hts _ (List.mem_of_getElem? (i := 3) rfl)) rfl (by decide +kernel) (rfl) (rfl) (Nat.le_of_ble_eq_true rfl) dX7_open_57 (fun C42 H locs hs43 hn44 hW hS => ?_)
    refine lv_iload_n hx hb dX7_open_60 rfl (lv_at hl 0 rfl) ?_
    have f45 : C42 4 0 = some (gR Z 1 4 (va_up f4 (S 0 0 : Int).toNat (some (B21 40 (S 0 0))))) := ((hn44 4 0 (gk (by decide))).trans hs39)
    have e4 := f45
    exact kret _ _ _ _ _ _ _ _ _ (⟨⟨by unfold cd_open; rw [if_neg (fun z => z hku), if_neg (by omega)], rfl⟩, (cs.newc (u := a) hcs hwf hz (by omega) (by omega) hs43 ((hn44 40 (S 0 0) (by omega)).trans ((hn40 40 (S 0 0) (by omega)).trans hi22)) (tx.kept (tx.kept hi23 (hn40 41 (S 0 0) (by omega)) (hn40 42 (S 0 0) (by omega))) (hn44 41 (S 0 0) (by omega)) (hn44 42 (S 0 0) (by omega))) (tx.kept (tx.kept hi24 (hn40 43 (S 0 0) (by omega)) (hn40 44 (S 0 0) (by omega))) (hn44 43 (S 0 0) (by omega)) (hn44 44 (S 0 0) (by omega))) ((hn44 45 (S 0 0) (by omega)).trans ((hn40 45 (S 0 0) (by omega)).trans hi25)) (tx.kept (tx.kept hi26 (hn40 48 (S 0 0) (by omega)) (hn40 49 (S 0 0) (by omega))) (hn44 48 (S 0 0) (by omega)) (hn44 49 (S 0 0) (by omega))) (hi27.imp fun F9 z9 => ⟨((hn44 50 (S 0 0) (by omega)).trans ((hn40 50 (S 0 0) (by omega)).trans z9.1)), z9.2⟩) hb4a hb4b e4 (fun k' i' h => (hi28 k' i' (by omega)).trans ((hBn8 k' i' (by omega)))) (fun k' i' z1 z2 z3 => ((hn44 k' i' (by omega)).trans ((hn40 k' i' (by omega)).trans ((hi29 k' i' (by omega)).trans ((hn10 k' i' (by omega)).trans rfl)))))), (cx.kept (cx.kept (cx.B (cx.kept (cx.B (cx.kept hcx (fun k' i' h1' h2' => hn10 (k') (i') (by omega))) (fun k' h1' h2' => hBn8 (k') 0 (by omega))) (fun k' i' h1' h2' => hi29 (k') (i') (by omega))) (fun k' h1' h2' => hi28 (k') 0 (by omega))) (fun k' i' h1' h2' => hn40 (k') (i') (by omega))) (fun k' i' h1' h2' => hn44 (k') (i') (by omega))), (fun k' i' h => (hn44 k' i' (by omega)).trans ((hn40 k' i' (by omega)).trans ((hi29 k' i' (by omega)).trans ((hn10 k' i' (by omega)))))), fun k' i' h => (hi28 k' i' (by omega)).trans ((hBn8 k' i' (by omega)))⟩) hW hS (Nat.le_of_ble_eq_true rfl) (Nat.le_of_ble_eq_true rfl) dX7_open_61
  · exact kt "java/lang/IllegalStateException" "all changes are open" 87 99 91 _ _ _ _ _ _ _ _ (pubx (Or.inr (⟨rfl, by unfold cd_open; rw [if_neg (fun z => z hku), if_pos (by omega)]⟩)) hcs hcx gfo.rfl' rfl) hW hS hl ex_1 st_2 (by decide +kernel) (List.mem_of_getElem? (i := 1) rfl) (List.mem_of_getElem? (i := 2) rfl) (fun w hw => List.mem_cons_of_mem _ (List.mem_append_left _ (List.mem_append_right _ hw))) vxo_1_91 vxn_1_91 (Nat.le_of_ble_eq_true rfl) (Nat.le_of_ble_eq_true rfl) dX7_open_16 dX7_open_19 (Or.inl ⟨dX7_open_20, dX7_open_22, dX7_open_25⟩)
