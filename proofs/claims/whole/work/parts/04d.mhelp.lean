theorem bitm' : ∀ n : Fin 32, ∀ j : Fin 5, (zI (n.val : Int) >>> (zI (j.val : Int) &&& 31)) &&& zI 1 = zI (if n.val.testBit j.val = true then 1 else 0) := by decide +kernel
theorem bitm {n j : Nat} (hn : n < 32) (hj : j < 5) : (zI (n : Int) >>> (zI (j : Int) &&& 31)) &&& zI 1 = zI (if n.testBit j = true then 1 else 0) := bitm' ⟨n, hn⟩ ⟨j, hj⟩
theorem md.rows {Z : gZ} {B : gB} {C : gC} {S : gS} {T : gTx} {th : Int} (h : md Z B C S T th) : scr Z C 90 12 := h.2.2.2.2.2.2.2.2.2.2.2.2.2.2.2.2.2.2.2
theorem al_nil {a b : List Int} (h : ed a b = 0) : al a b = [] := by
  have := al_length a b
  rw [h] at this
  exact List.length_eq_zero_iff.mp this
theorem tch_n {S : gS} {a b : List Int} {u : Nat} (h : ed a b = 0) : ¬ tch S a b u = true := by
  unfold tch
  rw [al_nil h]; simp
theorem tch_a {S : gS} {a b : List Int} {u k : Nat} (hk : k < a.length) (h : kt a b k = none) (e : ownf S (a.getD k (-1)) = (u : Int)) : tch S a b u = true := by
  unfold tch
  rw [List.any_eq_true]
  exact ⟨_, (al_mem a b _).mpr (Or.inl ⟨k, hk, h, rfl⟩), by show (ownf S (a.getD k (-1)) == (u : Int)) = true; rw [e]; simp⟩
theorem tch_b {S : gS} {a b : List Int} {u k : Nat} (hk : k < b.length) (h : kf a b k = none) (e : ownf S (b.getD k (-1)) = (u : Int)) : tch S a b u = true := by
  unfold tch
  rw [List.any_eq_true]
  exact ⟨_, (al_mem a b _).mpr (Or.inr ⟨k, hk, h, rfl⟩), by show (ownf S (b.getD k (-1)) == (u : Int)) = true; rw [e]; simp⟩
theorem tch_f {S : gS} {a b : List Int} {u : Nat} (h1 : ∀ k, k < a.length → kt a b k = none → ¬ ownf S (a.getD k (-1)) = (u : Int)) (h2 : ∀ k, k < b.length → kf a b k = none → ¬ ownf S (b.getD k (-1)) = (u : Int)) : ¬ tch S a b u = true := by
  unfold tch
  rw [List.any_eq_true]
  intro ⟨x, hx, he⟩
  have he' : ownf S x = (u : Int) := by simpa using he
  rcases (al_mem a b x).mp hx with ⟨k, hk, hn, rfl⟩ | ⟨k, hk, hn, rfl⟩
  · exact h1 k hk hn he'
  · exact h2 k hk hn he'
theorem nee_t {S : gS} {T : gTx} {i u : Nat} (hwf : wf S T) (hi : i < S 0 0) (hu : u < 5) : (nee S T i).testBit u = (decide (0 < S 2 i) && decide (¬ u = S 1 i) && tch S (T (1 + i)) (prs S T i) u) := by
  unfold nee
  split
  · rename_i h; simp [h]
  · rename_i h
    rw [bclr_t (albn_lt hwf.rg _) (hwf.ch hi).1 hu, albn_t hwf.rg _ u hu]
    rw [show decide (0 < S 2 i) = true by simp; omega, Bool.true_and, Bool.and_comm]
    congr 1
    by_cases q : u = S 1 i
    · simp [q]
    · simp [q]; omega
theorem enc_neg {o : Option Nat} (h : enc o < 0) : o = none := by
  cases o with
  | none => rfl
  | some p => simp only [enc] at h; omega
theorem enc_pos {o : Option Nat} (h : ¬ enc o < 0) : ¬ o = none := by
  intro z; rw [z] at h; exact h (by decide)

theorem ds_X8_present : yX8_present.cls ≠ "java/lang/invoke/MethodHandle" ∧ yX8_present.cls ≠ "java/lang/invoke/VarHandle" ∧ (parseMethodDescriptor yX8_present.desc).map (fun d => d.parameters.length) = some 1 := by decide +kernel
theorem in_X8_present_8 : ∀ w ∈ wsX80, w ∈ wsX8_present := by decide +kernel
def rX8_present : Room := { frames := 1, cells := 0, slots := 0, locals := 21 }
set_option maxHeartbeats 4000000 in
set_option maxRecDepth 100000 in
theorem k_X8_present {l : Launch} {Z : gZ} {B : gB} {C0 : gC} {S : gS} {T : gTx} {th : Int} {i : Nat} (hmd : md Z B C0 S T th) (hwf : wf S T) (hi : i < S 0 0) (hr : 0 < S 2 i) : Met l yX8_present wsX8_present rX8_present (gPc Z B C0 [.ref (B 70 0), .int (zI (i : Int))]) (gQi Z B (fun r C1 => r = zI ((9 + 4 * i + (S 2 i - 1) : Nat) : Int) ∧ C1 = C0)) 0 0 (gA Z) := by
  refine g_ofI (cc := cX8_present) (maxL := 2) (by decide) rfl (Nat.le_of_ble_eq_true rfl) ?_
  intro p e s m args below meth c Q X kret hW hS ls hl
  have hx := X.1.1
  have hb := X.1.2.1
  have hts := X.1.2.2.2.2
  have hl : lv_has ls 2 [(0, .ref (B 70 0)), (1, .int (zI (i : Int)))] := hl
  obtain ⟨⟨mg, hm70⟩, ⟨F71, F72, hm71, hm72, hmt⟩, ⟨F73, hm73, ha73⟩, ⟨F74, hm74, ha74⟩, ⟨F75, hm75, ha75⟩, ⟨F76, hm76, ha76⟩, ⟨F77, hm77, ha77⟩, ⟨F78, hm78, ha78⟩, ⟨F79, hm79, ha79⟩, ⟨F80, hm80, ha80⟩, ⟨F81, hm81, ha81⟩, ⟨F82, hm82, ha82⟩, ⟨F83, hm83, ha83⟩, ⟨F84, hm84, ha84⟩, ⟨F85, hm85, ha85⟩, ⟨F86, hm86, ha86⟩, ⟨F87, hm87⟩, ⟨F88, hm88⟩, ⟨F89, hm89⟩, ⟨F90, hm90⟩⟩ := id hmd
  have hwn := hwf.n
  have hwi := hwf.ch hi
  refine lv_iload_n hx hb dX8_present_0 rfl (lv_at hl 1 rfl) ?_
  refine lv_aload_n hx hb dX8_present_1 rfl (lv_at hl 0 rfl) ?_
  refine g_get (ci := 8) X in_X8_present_8 rfl hW hm70 11 (by decide) (hts _ (List.mem_of_getElem? (i := 1) rfl)) rfl dX8_present_2 ?_
  refine lv_iload_n hx hb dX8_present_5 rfl (lv_at hl 1 rfl) ?_
  refine z_iald X hW hm77 (by omega) (by omega) (by omega) dX8_present_6 ?_
  rw [show F77 (i : Int).toNat = (S 2 i : Int) from by rw [show (i : Int).toNat = i by omega]; exact ha77 _ (by omega)]
  refine lv_iconst (v := zI (1)) hx hb dX8_present_7 rfl ?_
  refine z_isub hx hb dX8_present_8 ?_
  refine g_ci (g_runS X (k_X8_slot (a := (i : Int)) (b := ((S 2 i : Int) - 1))) (va_cwS 2 hts gX8_present_X8_slot rfl rfl rfl ds_X8_slot ⟨Nat.le_of_ble_eq_true rfl, Nat.le_of_ble_eq_true rfl⟩) hW hS rfl hl.1 rfl (Nat.le_of_ble_eq_true rfl) dX8_present_9 ⟨Nat.le_of_ble_eq_true rfl, Nat.le_of_ble_eq_true rfl⟩) hS (fun r3 C1 H locs hp2 hW hS => ?_)
  obtain ⟨rfl, ehp2⟩ := hp2
  rw [ehp2] at hW
  exact kret _ _ _ _ _ _ _ _ (⟨congrArg zI (by omega), rfl⟩) hW hS (Nat.le_of_ble_eq_true rfl) (Nat.le_of_ble_eq_true rfl) dX8_present_12

theorem ds_X8_given : yX8_given.cls ≠ "java/lang/invoke/MethodHandle" ∧ yX8_given.cls ≠ "java/lang/invoke/VarHandle" ∧ (parseMethodDescriptor yX8_given.desc).map (fun d => d.parameters.length) = some 2 := by decide +kernel
theorem in_X8_given_8 : ∀ w ∈ wsX80, w ∈ wsX8_given := by decide +kernel
def rX8_given : Room := { frames := 0, cells := 0, slots := 0, locals := 0 }
set_option maxHeartbeats 4000000 in
set_option maxRecDepth 100000 in
theorem k_X8_given {l : Launch} {Z : gZ} {B : gB} {C0 : gC} {S : gS} {T : gTx} {th : Int} {i : Nat} {u : Nat} (hmd : md Z B C0 S T th) (hwf : wf S T) (hi : i < S 0 0) (hu : u < 5) : Met l yX8_given wsX8_given rX8_given (gPc Z B C0 [.ref (B 70 0), .int (zI (i : Int)), .int (zI (u : Int))]) (gQi Z B (fun r C1 => r = zI ((S 7 (5 * i + u) : Int) - 1) ∧ C1 = C0)) 0 0 (gA Z) := by
  refine g_ofI (cc := cX8_given) (maxL := 3) (by decide) rfl (Nat.le_of_ble_eq_true rfl) ?_
  intro p e s m args below meth c Q X kret hW hS ls hl
  have hx := X.1.1
  have hb := X.1.2.1
  have hts := X.1.2.2.2.2
  have hl : lv_has ls 3 [(0, .ref (B 70 0)), (1, .int (zI (i : Int))), (2, .int (zI (u : Int)))] := hl
  obtain ⟨⟨mg, hm70⟩, ⟨F71, F72, hm71, hm72, hmt⟩, ⟨F73, hm73, ha73⟩, ⟨F74, hm74, ha74⟩, ⟨F75, hm75, ha75⟩, ⟨F76, hm76, ha76⟩, ⟨F77, hm77, ha77⟩, ⟨F78, hm78, ha78⟩, ⟨F79, hm79, ha79⟩, ⟨F80, hm80, ha80⟩, ⟨F81, hm81, ha81⟩, ⟨F82, hm82, ha82⟩, ⟨F83, hm83, ha83⟩, ⟨F84, hm84, ha84⟩, ⟨F85, hm85, ha85⟩, ⟨F86, hm86, ha86⟩, ⟨F87, hm87⟩, ⟨F88, hm88⟩, ⟨F89, hm89⟩, ⟨F90, hm90⟩⟩ := id hmd
  have hwn := hwf.n
  have hwi := hwf.ch hi
  refine lv_aload_n hx hb dX8_given_0 rfl (lv_at hl 0 rfl) ?_
  refine g_get (ci := 8) X in_X8_given_8 rfl hW hm70 16 (by decide) (hts _ (List.mem_of_getElem? (i := 1) rfl)) rfl dX8_given_1 ?_
  refine lv_iconst (v := zI (5)) hx hb dX8_given_4 rfl ?_
  refine lv_iload_n hx hb dX8_given_5 rfl (lv_at hl 1 rfl) ?_
  refine z_imul hx hb dX8_given_6 ?_
  refine lv_iload_n hx hb dX8_given_7 rfl (lv_at hl 2 rfl) ?_
  refine z_iadd hx hb dX8_given_8 ?_
  refine z_iald X hW hm82 (by omega) (by omega) (by omega) dX8_given_9 ?_
  rw [show F82 ((5 * (i : Int)) + (u : Int)).toNat = (S 7 (5 * i + u) : Int) from by rw [show ((5 * (i : Int)) + (u : Int)).toNat = 5 * i + u by omega]; exact ha82 _ (by omega)]
  refine lv_iconst (v := zI (1)) hx hb dX8_given_10 rfl ?_
  refine z_isub hx hb dX8_given_11 ?_
  exact kret _ _ _ _ _ _ _ _ (⟨rfl, rfl⟩) hW hS (Nat.le_of_ble_eq_true rfl) (Nat.le_of_ble_eq_true rfl) dX8_given_12

theorem ds_X8_ownerFor : yX8_ownerFor.cls ≠ "java/lang/invoke/MethodHandle" ∧ yX8_ownerFor.cls ≠ "java/lang/invoke/VarHandle" ∧ (parseMethodDescriptor yX8_ownerFor.desc).map (fun d => d.parameters.length) = some 1 := by decide +kernel
theorem in_X8_ownerFor_8 : ∀ w ∈ wsX80, w ∈ wsX8_ownerFor := by decide +kernel
def rX8_ownerFor : Room := { frames := 0, cells := 0, slots := 0, locals := 0 }
set_option maxHeartbeats 4000000 in
set_option maxRecDepth 100000 in
theorem k_X8_ownerFor {l : Launch} {Z : gZ} {B : gB} {C0 : gC} {S : gS} {T : gTx} {th : Int} {x : Int} (hmd : md Z B C0 S T th) (hwf : wf S T) (rx : zr x) : Met l yX8_ownerFor wsX8_ownerFor rX8_ownerFor (gPc Z B C0 [.ref (B 70 0), .int (zI x)]) (gQi Z B (fun r C1 => r = zI (ownf S x) ∧ C1 = C0)) 0 0 (gA Z) := by
  refine g_ofI (cc := cX8_ownerFor) (maxL := 3) (by decide) rfl (Nat.le_of_ble_eq_true rfl) ?_
  intro p e s m args below meth c Q X kret hW hS ls hl
  have hx := X.1.1
  have hb := X.1.2.1
  have hts := X.1.2.2.2.2
  have hl : lv_has ls 3 [(0, .ref (B 70 0)), (1, .int (zI x))] := hl
  obtain ⟨⟨mg, hm70⟩, ⟨F71, F72, hm71, hm72, hmt⟩, ⟨F73, hm73, ha73⟩, ⟨F74, hm74, ha74⟩, ⟨F75, hm75, ha75⟩, ⟨F76, hm76, ha76⟩, ⟨F77, hm77, ha77⟩, ⟨F78, hm78, ha78⟩, ⟨F79, hm79, ha79⟩, ⟨F80, hm80, ha80⟩, ⟨F81, hm81, ha81⟩, ⟨F82, hm82, ha82⟩, ⟨F83, hm83, ha83⟩, ⟨F84, hm84, ha84⟩, ⟨F85, hm85, ha85⟩, ⟨F86, hm86, ha86⟩, ⟨F87, hm87⟩, ⟨F88, hm88⟩, ⟨F89, hm89⟩, ⟨F90, hm90⟩⟩ := id hmd
  have hwn := hwf.n
  refine lv_aload_n hx hb dX8_ownerFor_0 rfl (lv_at hl 0 rfl) ?_
  refine g_get (ci := 8) X in_X8_ownerFor_8 rfl hW hm70 2 (by decide) (hts _ (List.mem_of_getElem? (i := 1) rfl)) rfl dX8_ownerFor_1 ?_
  refine lv_iconst (v := zI (1)) hx hb dX8_ownerFor_4 rfl ?_
  refine z_isub hx hb dX8_ownerFor_5 ?_
  refine lv_istore_n (lv' := [(2, .int (zI ((S 0 1 : Int) - 1))), (0, .ref (B 70 0)), (1, .int (zI x))]) hx hb dX8_ownerFor_6 rfl hl (by decide) rfl (fun ls hl => ?_)
  have lp7 : ∀ (n : Nat) (k : Nat) (H : Heap) (locs : List Loc), (k < n) → (k ≤ S 0 1) → (ownr S k x = ownf S x) → gw Z B C0 H → va_S (gA Z) s.heap H locs → ∀ ls : Array Slot, lv_has ls 3 [(0, .ref (B 70 0)), (1, .int (zI x)), (2, .int (zI ((k : Int) - 1)))] → W p l e rX8_ownerFor s m args below meth c H locs 0 0 Q (F0 m 7 ls []) := by
    intro n
    induction n with
    | zero =>
      intro k  H locs hm hkr hov hW hS ls hl
      exact absurd hm (by omega)
    | succ n ih7 =>
      intro k  H locs hm hkr hov hW hS ls hl
      refine lv_iload_n hx hb dX8_ownerFor_7 rfl (lv_at hl 2 rfl) ?_
      refine z_if_lt (tgt := 44) hx hb dX8_ownerFor_8 (by decide) (⟨by omega, by omega⟩) (fun h_8 => ?_) (fun h_8 => ?_)
      · refine lv_iconst (v := zI (-1)) hx hb dX8_ownerFor_44 rfl ?_
        exact kret _ _ _ _ _ _ _ _ (⟨congrArg zI (by rw [← hov, show k = 0 by omega]; rfl), rfl⟩) hW hS (Nat.le_of_ble_eq_true rfl) (Nat.le_of_ble_eq_true rfl) dX8_ownerFor_45
      · refine lv_iload_n hx hb dX8_ownerFor_11 rfl (lv_at hl 1 rfl) ?_
        refine lv_aload_n hx hb dX8_ownerFor_12 rfl (lv_at hl 0 rfl) ?_
        refine g_get (ci := 8) X in_X8_ownerFor_8 rfl hW hm70 7 (by decide) (hts _ (List.mem_of_getElem? (i := 2) rfl)) rfl dX8_ownerFor_13 ?_
        refine lv_iload_n hx hb dX8_ownerFor_16 rfl (lv_at hl 2 rfl) ?_
        refine z_iald X hW hm73 (by omega) (by omega) (by omega) dX8_ownerFor_17 ?_
        rw [show F73 ((k : Int) - 1).toNat = (S 8 (k - 1) : Int) from by rw [show ((k : Int) - 1).toNat = k - 1 by omega]; exact ha73 _ (by omega)]
        have hrg73 := hwf.2.2.2.2.2.2.1 (k - 1) (by omega)
        refine z_icmp_lt (tgt := 38) hx hb dX8_ownerFor_18 (by decide) (rx) (⟨by omega, by omega⟩) (fun h_18 => ?_) (fun h_18 => ?_)
        · refine z_iinc (lv' := [(2, .int (zI (((k : Int) - 1) + (-1)))), (0, .ref (B 70 0)), (1, .int (zI x))]) hx hb dX8_ownerFor_38 hl (q := 2) rfl (by decide) rfl (fun ls hl => ?_)
          refine lv_goto (tgt := 7) hx hb dX8_ownerFor_41 (by decide) ?_
          rw [show ((k : Int) - 1 + -1) = ((k - 1 : Nat) : Int) - 1 by omega] at hl
          exact ih7 (k - 1) _ _ (by omega) (by omega) (by rw [← hov, show k = (k - 1) + 1 by omega, ownr_s, if_neg (by omega)]; rfl) hW hS _ (lv_sub hl [1, 2, 0] rfl)
        · refine lv_iload_n hx hb dX8_ownerFor_21 rfl (lv_at hl 1 rfl) ?_
          refine lv_aload_n hx hb dX8_ownerFor_22 rfl (lv_at hl 0 rfl) ?_
          refine g_get (ci := 8) X in_X8_ownerFor_8 rfl hW hm70 8 (by decide) (hts _ (List.mem_of_getElem? (i := 3) rfl)) rfl dX8_ownerFor_23 ?_
          refine lv_iload_n hx hb dX8_ownerFor_26 rfl (lv_at hl 2 rfl) ?_
          refine z_iald X hW hm74 (by omega) (by omega) (by omega) dX8_ownerFor_27 ?_
          rw [show F74 ((k : Int) - 1).toNat = (S 9 (k - 1) : Int) from by rw [show ((k : Int) - 1).toNat = k - 1 by omega]; exact ha74 _ (by omega)]
          have hrg74 := hwf.2.2.2.2.2.2.1 (k - 1) (by omega)
          refine z_icmp_gt (tgt := 38) hx hb dX8_ownerFor_28 (by decide) (rx) (⟨by omega, by omega⟩) (fun h_28 => ?_) (fun h_28 => ?_)
          · refine z_iinc (lv' := [(2, .int (zI (((k : Int) - 1) + (-1)))), (0, .ref (B 70 0)), (1, .int (zI x))]) hx hb dX8_ownerFor_38 hl (q := 2) rfl (by decide) rfl (fun ls hl => ?_)
            refine lv_goto (tgt := 7) hx hb dX8_ownerFor_41 (by decide) ?_
            rw [show ((k : Int) - 1 + -1) = ((k - 1 : Nat) : Int) - 1 by omega] at hl
            exact ih7 (k - 1) _ _ (by omega) (by omega) (by rw [← hov, show k = (k - 1) + 1 by omega, ownr_s, if_neg (by omega)]; rfl) hW hS _ (lv_sub hl [1, 2, 0] rfl)
          · refine lv_aload_n hx hb dX8_ownerFor_31 rfl (lv_at hl 0 rfl) ?_
            refine g_get (ci := 8) X in_X8_ownerFor_8 rfl hW hm70 9 (by decide) (hts _ (List.mem_of_getElem? (i := 4) rfl)) rfl dX8_ownerFor_32 ?_
            refine lv_iload_n hx hb dX8_ownerFor_35 rfl (lv_at hl 2 rfl) ?_
            refine z_iald X hW hm75 (by omega) (by omega) (by omega) dX8_ownerFor_36 ?_
            rw [show F75 ((k : Int) - 1).toNat = (S 10 (k - 1) : Int) from by rw [show ((k : Int) - 1).toNat = k - 1 by omega]; exact ha75 _ (by omega)]
            have hrg75 := hwf.2.2.2.2.2.2.1 (k - 1) (by omega)
            exact kret _ _ _ _ _ _ _ _ (⟨congrArg zI (by rw [← hov, show k = (k - 1) + 1 by omega, ownr_s, if_pos ⟨by omega, by omega⟩]; rfl), rfl⟩) hW hS (Nat.le_of_ble_eq_true rfl) (Nat.le_of_ble_eq_true rfl) dX8_ownerFor_37
  exact lp7 (S 0 1 + 1) (S 0 1) _ _ (by omega) (Nat.le_refl _) rfl hW hS _ (lv_sub hl [1, 2, 0] rfl)

theorem getD_rng {t : List Int} (h : ∀ x ∈ t, 0 ≤ x ∧ x < 100) (k : Nat) : -1 ≤ t.getD k (-1) ∧ t.getD k (-1) < 100 := by
  have := ta_rng h (k : Int)
  rwa [ta_nat] at this
theorem ownf_rng {S : gS} {T : gTx} (h : wf S T) (x : Int) : zr (ownf S x) := by
  have := ownr_rng (S := S) (S 0 1) h.rg x
  exact ⟨by show _ ≤ ownr S (S 0 1) x; omega, by show ownr S (S 0 1) x < _; omega⟩
theorem encr {o : Option Nat} (h : enc o < 100) : zr (enc o) := by have := enc_rng o; exact ⟨by omega, by omega⟩
theorem enc_ktr (a b : List Int) (k : Nat) (h : b.length ≤ 12) : zr (enc (kt a b k)) := by have := enc_rg2 a b k; exact ⟨by omega, by omega⟩
theorem enc_kfr (a b : List Int) (k : Nat) (h : a.length ≤ 12) : zr (enc (kf a b k)) := by
  cases e : kf a b k with
  | none => exact ⟨by decide, by decide⟩
  | some p => have := (kf_lt a b p k e).1; simp only [enc]; exact ⟨by omega, by omega⟩

theorem ds_X8_touches : yX8_touches.cls ≠ "java/lang/invoke/MethodHandle" ∧ yX8_touches.cls ≠ "java/lang/invoke/VarHandle" ∧ (parseMethodDescriptor yX8_touches.desc).map (fun d => d.parameters.length) = some 3 := by decide +kernel
theorem in_X8_touches_8 : ∀ w ∈ wsX80, w ∈ wsX8_touches := by decide +kernel
def rX8_touches : Room := { frames := 2, cells := 0, slots := 0, locals := 48 }
set_option maxHeartbeats 4000000 in
set_option maxRecDepth 100000 in
theorem k_X8_touches {l : Launch} {Z : gZ} {B : gB} {C0 : gC} {S : gS} {T : gTx} {th : Int} {sa sb u : Nat} (hmd : md Z B C0 S T th) (hwf : wf S T) (hsa : sa < 25) (hsb : sb < 25) (hu : u < 5) : Met l yX8_touches wsX8_touches rX8_touches (gPc Z B C0 [.ref (B 70 0), .int (zI (sa : Int)), .int (zI (sb : Int)), .int (zI (u : Int))]) (gQi Z B (fun r C1 => r = zI (if tch S (T sa) (T sb) u = true then 1 else 0) ∧ md Z B C1 S T th ∧ fmd C0 C1)) 0 0 (gA Z) := by
  refine g_ofZ (cc := cX8_touches) (maxL := 6) (by decide) rfl (Nat.le_of_ble_eq_true rfl) (fun r C1 h => by obtain ⟨h, -⟩ := h; rw [h]; split <;> rfl) ?_
  intro p e s m args below meth c Q X kret hW hS ls hl
  have hx := X.1.1
  have hb := X.1.2.1
  have hts := X.1.2.2.2.2
  have hl : lv_has ls 6 [(0, .ref (B 70 0)), (1, .int (zI (sa : Int))), (2, .int (zI (sb : Int))), (3, .int (zI (u : Int)))] := hl
  obtain ⟨⟨mg, hm70⟩, ⟨F71, F72, hm71, hm72, hmt⟩, ⟨F73, hm73, ha73⟩, ⟨F74, hm74, ha74⟩, ⟨F75, hm75, ha75⟩, ⟨F76, hm76, ha76⟩, ⟨F77, hm77, ha77⟩, ⟨F78, hm78, ha78⟩, ⟨F79, hm79, ha79⟩, ⟨F80, hm80, ha80⟩, ⟨F81, hm81, ha81⟩, ⟨F82, hm82, ha82⟩, ⟨F83, hm83, ha83⟩, ⟨F84, hm84, ha84⟩, ⟨F85, hm85, ha85⟩, ⟨F86, hm86, ha86⟩, ⟨F87, hm87⟩, ⟨F88, hm88⟩, ⟨F89, hm89⟩, ⟨F90, hm90⟩⟩ := id hmd
  have hwn := hwf.n
  refine lv_aload_n hx hb dX8_touches_0 rfl (lv_at hl 0 rfl) ?_
  refine lv_iload_n hx hb dX8_touches_1 rfl (lv_at hl 1 rfl) ?_
  refine lv_iload_n hx hb dX8_touches_2 rfl (lv_at hl 2 rfl) ?_
  refine g_ci (g_runV X (k_X8_scripts (sa := sa) (sb := sb) (A := T sa) (D := T sb) hm70 hm71 hm72 hm87 hm88 hm89 (hmt.1 _ (by omega)) (hmt.1 _ (by omega)) (hmt.2 _ (by omega)) (hmt.2 _ (by omega)) (hwf.tx _) (hwf.tx _) (hwf.tc _) (hwf.tc _) (by omega) (by omega)) (cwV 2 hts gX8_touches_X8_scripts rfl rfl rfl ⟨rfl, ds_X8_scripts⟩ ⟨Nat.le_of_ble_eq_true rfl, Nat.le_of_ble_eq_true rfl⟩) hW hS hm70 rfl rfl hl.1 rfl (Nat.le_of_ble_eq_true rfl) dX8_touches_3 ⟨Nat.le_of_ble_eq_true rfl, Nat.le_of_ble_eq_true rfl⟩) hS (fun r3 C1 H locs hp2 hW hS => ?_)
  obtain ⟨e4, ⟨⟨K5, hk6, hkv7⟩, ⟨M8, hm9, hmv10⟩⟩, ⟨R11, hr12⟩, hf13⟩ := hp2
  rw [e4]
  have hmd14 : md Z B C1 S T th := md.work hmd ⟨_, hr12⟩ ⟨_, hk6⟩ ⟨_, hm9⟩ ((md.rows hmd).kept (hf13 90 0 (by omega))) (fun k' z1 z2 => hf13 k' 0 (by omega))
  refine lv_istore (lv' := [(4, .int (zI (ed (T sa) (T sb) : Int))), (0, .ref (B 70 0)), (1, .int (zI (sa : Int))), (2, .int (zI (sb : Int))), (3, .int (zI (u : Int)))]) hx hb dX8_touches_6 hl (by decide) rfl (fun ls hl => ?_)
  refine lv_iload hx hb dX8_touches_8 (lv_at hl 0 rfl) ?_
  refine z_if_ne (tgt := 15) hx hb dX8_touches_10 (by decide) (⟨by omega, by have := ed_le (T sa) (T sb); have := hwf.tx sa; have := hwf.tx sb; omega⟩) (fun h_10 => ?_) (fun h_10 => ?_)
  · refine lv_iconst (v := zI (0)) hx hb dX8_touches_15 rfl ?_
    refine lv_istore (lv' := [(5, .int (zI 0)), (4, .int (zI (ed (T sa) (T sb) : Int))), (0, .ref (B 70 0)), (1, .int (zI (sa : Int))), (2, .int (zI (sb : Int))), (3, .int (zI (u : Int)))]) hx hb dX8_touches_16 hl (by decide) rfl (fun ls hl => ?_)
    have f15 : C1 70 0 = some (.inr (8, [.int (zI th), .int (zI (S 0 0 : Int)), .int (zI (S 0 1 : Int)), .int (zI (S 0 2 : Int)), .int (zI (S 0 3 : Int)), .ref (B 71 0), .ref (B 72 0), .ref (B 73 0), .ref (B 74 0), .ref (B 75 0), .ref (B 76 0), .ref (B 77 0), .ref (B 78 0), .ref (B 79 0), .ref (B 80 0), .ref (B 81 0), .ref (B 82 0), .ref (B 83 0), .ref (B 84 0), .ref (B 85 0), .ref (B 86 0), .ref (B 87 0), .ref (B 88 0), .ref (B 89 0), .ref (B 90 0), .int (zI mg)])) := ((hf13 70 0 (by omega)).trans hm70)
    have f16 : C1 71 0 = some (gJ Z 312 F71) := ((hf13 71 0 (by omega)).trans hm71)
    have f17 : C1 72 0 = some (gJ Z 26 F72) := ((hf13 72 0 (by omega)).trans hm72)
    have f18 : C1 73 0 = some (gJ Z 6 F73) := ((hf13 73 0 (by omega)).trans hm73)
    have f19 : C1 74 0 = some (gJ Z 6 F74) := ((hf13 74 0 (by omega)).trans hm74)
    have f20 : C1 75 0 = some (gJ Z 6 F75) := ((hf13 75 0 (by omega)).trans hm75)
    have f21 : C1 76 0 = some (gJ Z 4 F76) := ((hf13 76 0 (by omega)).trans hm76)
    have f22 : C1 77 0 = some (gJ Z 4 F77) := ((hf13 77 0 (by omega)).trans hm77)
    have f23 : C1 78 0 = some (gJ Z 4 F78) := ((hf13 78 0 (by omega)).trans hm78)
    have f24 : C1 79 0 = some (gJ Z 4 F79) := ((hf13 79 0 (by omega)).trans hm79)
    have f25 : C1 80 0 = some (gJ Z 4 F80) := ((hf13 80 0 (by omega)).trans hm80)
    have f26 : C1 81 0 = some (gJ Z 4 F81) := ((hf13 81 0 (by omega)).trans hm81)
    have f27 : C1 82 0 = some (gJ Z 20 F82) := ((hf13 82 0 (by omega)).trans hm82)
    have f28 : C1 83 0 = some (gJ Z 12 F83) := ((hf13 83 0 (by omega)).trans hm83)
    have f29 : C1 84 0 = some (gJ Z 12 F84) := ((hf13 84 0 (by omega)).trans hm84)
    have f30 : C1 85 0 = some (gJ Z 12 F85) := ((hf13 85 0 (by omega)).trans hm85)
    have f31 : C1 86 0 = some (gJ Z 12 F86) := ((hf13 86 0 (by omega)).trans hm86)
    have f32 : C1 90 0 = some (gJ Z 12 F90) := ((hf13 90 0 (by omega)).trans hm90)
    have lp18 : ∀ (n : Nat) (k : Nat) (H : Heap) (locs : List Loc), ((T sa).length - k < n) → (k ≤ (T sa).length) → (∀ q, q < k → kt (T sa) (T sb) q = none → ¬ ownf S ((T sa).getD q (-1)) = (u : Int)) → gw Z B C1 H → va_S (gA Z) s.heap H locs → ∀ ls : Array Slot, lv_has ls 6 [(0, .ref (B 70 0)), (1, .int (zI (sa : Int))), (2, .int (zI (sb : Int))), (3, .int (zI (u : Int))), (4, .int (zI (ed (T sa) (T sb) : Int))), (5, .int (zI (k : Int)))] → W p l e rX8_touches s m args below meth c H locs 0 0 Q (F0 m 18 ls []) := by
      intro n
      induction n with
      | zero =>
        intro k  H locs hm hkl hno hW hS ls hl
        exact absurd hm (by omega)
      | succ n ih18 =>
        intro k  H locs hm hkl hno hW hS ls hl
        have hsz := hwf.tx sa
        have hsy := hwf.tx sb
        refine lv_iload hx hb dX8_touches_18 (lv_at hl 5 rfl) ?_
        refine lv_aload_n hx hb dX8_touches_20 rfl (lv_at hl 0 rfl) ?_
        refine g_get (ci := 8) X in_X8_touches_8 rfl hW f15 6 (by decide) (hts _ (List.mem_of_getElem? (i := 1) rfl)) rfl dX8_touches_21 ?_
        refine lv_iload_n hx hb dX8_touches_24 rfl (lv_at hl 1 rfl) ?_
        refine z_iald X hW f17 (by omega) (by omega) (by omega) dX8_touches_25 ?_
        rw [show F72 ((sa : Int)).toNat = ((T sa).length : Int) from by rw [show ((sa : Int)).toNat = sa by omega]; exact hmt.1 _ (by omega)]
        refine z_icmp_ge (tgt := 62) hx hb dX8_touches_26 (by decide) (⟨by omega, by omega⟩) (⟨by omega, by omega⟩) (fun h_26 => ?_) (fun h_26 => ?_)
        · refine lv_iconst (v := zI (0)) hx hb dX8_touches_62 rfl ?_
          refine lv_istore (lv' := [(5, .int (zI 0)), (0, .ref (B 70 0)), (1, .int (zI (sa : Int))), (2, .int (zI (sb : Int))), (3, .int (zI (u : Int))), (4, .int (zI (ed (T sa) (T sb) : Int)))]) hx hb dX8_touches_63 hl (by decide) rfl (fun ls hl => ?_)
          have lp65 : ∀ (n : Nat) (k : Nat) (H : Heap) (locs : List Loc), ((T sb).length - k < n) → (k ≤ (T sb).length) → (∀ q, q < k → kf (T sa) (T sb) q = none → ¬ ownf S ((T sb).getD q (-1)) = (u : Int)) → gw Z B C1 H → va_S (gA Z) s.heap H locs → ∀ ls : Array Slot, lv_has ls 6 [(0, .ref (B 70 0)), (1, .int (zI (sa : Int))), (2, .int (zI (sb : Int))), (3, .int (zI (u : Int))), (4, .int (zI (ed (T sa) (T sb) : Int))), (5, .int (zI (k : Int)))] → W p l e rX8_touches s m args below meth c H locs 0 0 Q (F0 m 65 ls []) := by
            intro n
            induction n with
            | zero =>
              intro k  H locs hm hkl hn2 hW hS ls hl
              exact absurd hm (by omega)
            | succ n ih65 =>
              intro k  H locs hm hkl hn2 hW hS ls hl
              have hsz := hwf.tx sa
              have hsy := hwf.tx sb
              refine lv_iload hx hb dX8_touches_65 (lv_at hl 5 rfl) ?_
              refine lv_aload_n hx hb dX8_touches_67 rfl (lv_at hl 0 rfl) ?_
              refine g_get (ci := 8) X in_X8_touches_8 rfl hW f15 6 (by decide) (hts _ (List.mem_of_getElem? (i := 1) rfl)) rfl dX8_touches_68 ?_
              refine lv_iload_n hx hb dX8_touches_71 rfl (lv_at hl 2 rfl) ?_
              refine z_iald X hW f17 (by omega) (by omega) (by omega) dX8_touches_72 ?_
              rw [show F72 ((sb : Int)).toNat = ((T sb).length : Int) from by rw [show ((sb : Int)).toNat = sb by omega]; exact hmt.1 _ (by omega)]
              refine z_icmp_ge (tgt := 109) hx hb dX8_touches_73 (by decide) (⟨by omega, by omega⟩) (⟨by omega, by omega⟩) (fun h_73 => ?_) (fun h_73 => ?_)
              · refine lv_iconst (v := zI (0)) hx hb dX8_touches_109 rfl ?_
                exact kret _ _ _ _ _ _ _ _ (⟨by rw [if_neg (tch_f (fun q hq hn => hno q (by omega) hn) (fun q hq hn => hn2 q (by omega) hn))], hmd14, (fun k' i' h => ((hf13 k' i' (by omega)).trans rfl))⟩) hW hS (Nat.le_of_ble_eq_true rfl) (Nat.le_of_ble_eq_true rfl) dX8_touches_110
              · refine lv_aload_n hx hb dX8_touches_76 rfl (lv_at hl 0 rfl) ?_
                refine g_get (ci := 8) X in_X8_touches_8 rfl hW f15 23 (by decide) (hts _ (List.mem_of_getElem? (i := 3) rfl)) rfl dX8_touches_77 ?_
                refine lv_iload hx hb dX8_touches_80 (lv_at hl 5 rfl) ?_
                refine z_iald X hW hm9 (by omega) (by omega) (by omega) dX8_touches_82 ?_
                rw [show M8 ((k : Int)).toNat = enc (kf (T sa) (T sb) k) from by rw [show ((k : Int)).toNat = k by omega]; exact hmv10 _ (by omega)]
                refine z_if_ge (tgt := 103) hx hb dX8_touches_83 (by decide) (enc_kfr _ _ _ (hwf.tx _)) (fun h_83 => ?_) (fun h_83 => ?_)
                · refine z_iinc (lv' := [(5, .int (zI ((k : Int) + 1))), (0, .ref (B 70 0)), (1, .int (zI (sa : Int))), (2, .int (zI (sb : Int))), (3, .int (zI (u : Int))), (4, .int (zI (ed (T sa) (T sb) : Int)))]) hx hb dX8_touches_103 hl (q := 5) rfl (by decide) rfl (fun ls hl => ?_)
                  refine lv_goto (tgt := 65) hx hb dX8_touches_106 (by decide) ?_
                  exact ih65 (k + 1) _ _ (by omega) (by omega) (fun q hq hn => by by_cases e9 : q = k; (subst e9; exact absurd hn (enc_pos (by omega))); exact hn2 q (by omega) hn) hW hS _ (lv_sub hl [1, 2, 3, 4, 5, 0] rfl)
                · refine lv_aload_n hx hb dX8_touches_86 rfl (lv_at hl 0 rfl) ?_
                  refine lv_aload_n hx hb dX8_touches_87 rfl (lv_at hl 0 rfl) ?_
                  refine lv_iload_n hx hb dX8_touches_88 rfl (lv_at hl 2 rfl) ?_
                  refine lv_iload hx hb dX8_touches_89 (lv_at hl 5 rfl) ?_
                  refine g_ci (g_runV X (k_X8_line (a := (sb : Int)) (b := (k : Int)) f15 f16 (⟨by omega, by omega⟩) (⟨by omega, by omega⟩)) (cwV 2 hts gX8_touches_X8_line rfl rfl rfl ⟨rfl, ds_X8_line⟩ ⟨Nat.le_of_ble_eq_true rfl, Nat.le_of_ble_eq_true rfl⟩) hW hS f15 rfl rfl hl.1 rfl (Nat.le_of_ble_eq_true rfl) dX8_touches_91 ⟨Nat.le_of_ble_eq_true rfl, Nat.le_of_ble_eq_true rfl⟩) hS (fun r35 C33 H locs hp34 hW hS => ?_)
                  obtain ⟨rfl, ehp34⟩ := hp34
                  rw [ehp34] at hW
                  rw [show F71 (12 * ((sb : Nat) : Int) + (k : Int)).toNat = (T sb).getD k (-1) from by rw [show (12 * ((sb : Nat) : Int) + (k : Int)).toNat = 12 * sb + k by omega]; exact hmt.2 _ (by omega) _ (by omega)]
                  refine g_ci (g_runV X (k_X8_ownerFor (x := ((T sb).getD k (-1))) hmd14 hwf (⟨by have := getD_rng (hwf.tc sb) k; omega, by have := getD_rng (hwf.tc sb) k; omega⟩)) (cwV 1 hts gX8_touches_X8_ownerFor rfl rfl rfl ⟨rfl, ds_X8_ownerFor⟩ ⟨Nat.le_of_ble_eq_true rfl, Nat.le_of_ble_eq_true rfl⟩) hW hS f15 rfl rfl hl.1 rfl (Nat.le_of_ble_eq_true rfl) dX8_touches_94 ⟨Nat.le_of_ble_eq_true rfl, Nat.le_of_ble_eq_true rfl⟩) hS (fun r38 C36 H locs hp37 hW hS => ?_)
                  obtain ⟨rfl, ehp37⟩ := hp37
                  rw [ehp37] at hW
                  refine lv_iload_n hx hb dX8_touches_97 rfl (lv_at hl 3 rfl) ?_
                  refine z_icmp_ne (tgt := 103) hx hb dX8_touches_98 (by decide) (ownf_rng hwf _) (⟨by omega, by omega⟩) (fun h_98 => ?_) (fun h_98 => ?_)
                  · refine z_iinc (lv' := [(5, .int (zI ((k : Int) + 1))), (0, .ref (B 70 0)), (1, .int (zI (sa : Int))), (2, .int (zI (sb : Int))), (3, .int (zI (u : Int))), (4, .int (zI (ed (T sa) (T sb) : Int)))]) hx hb dX8_touches_103 hl (q := 5) rfl (by decide) rfl (fun ls hl => ?_)
                    refine lv_goto (tgt := 65) hx hb dX8_touches_106 (by decide) ?_
                    exact ih65 (k + 1) _ _ (by omega) (by omega) (fun q hq hn => by by_cases e9 : q = k; (subst e9; exact h_98); exact hn2 q (by omega) hn) hW hS _ (lv_sub hl [1, 2, 3, 4, 5, 0] rfl)
                  · refine lv_iconst (v := zI (1)) hx hb dX8_touches_101 rfl ?_
                    exact kret _ _ _ _ _ _ _ _ (⟨by rw [if_pos (tch_b (k := k) (by omega) (enc_neg (by omega)) h_98)], hmd14, (fun k' i' h => ((hf13 k' i' (by omega)).trans rfl))⟩) hW hS (Nat.le_of_ble_eq_true rfl) (Nat.le_of_ble_eq_true rfl) dX8_touches_102
          exact lp65 ((T sb).length + 1) 0 _ _ (by omega) (by omega) (fun q hq => by omega) hW hS _ (lv_sub hl [1, 2, 3, 4, 5, 0] rfl)
        · refine lv_aload_n hx hb dX8_touches_29 rfl (lv_at hl 0 rfl) ?_
          refine g_get (ci := 8) X in_X8_touches_8 rfl hW f15 22 (by decide) (hts _ (List.mem_of_getElem? (i := 2) rfl)) rfl dX8_touches_30 ?_
          refine lv_iload hx hb dX8_touches_33 (lv_at hl 5 rfl) ?_
          refine z_iald X hW hk6 (by omega) (by omega) (by omega) dX8_touches_35 ?_
          rw [show K5 ((k : Int)).toNat = enc (kt (T sa) (T sb) k) from by rw [show ((k : Int)).toNat = k by omega]; exact hkv7 _ (by omega)]
          refine z_if_ge (tgt := 56) hx hb dX8_touches_36 (by decide) (enc_ktr _ _ _ (hwf.tx _)) (fun h_36 => ?_) (fun h_36 => ?_)
          · refine z_iinc (lv' := [(5, .int (zI ((k : Int) + 1))), (0, .ref (B 70 0)), (1, .int (zI (sa : Int))), (2, .int (zI (sb : Int))), (3, .int (zI (u : Int))), (4, .int (zI (ed (T sa) (T sb) : Int)))]) hx hb dX8_touches_56 hl (q := 5) rfl (by decide) rfl (fun ls hl => ?_)
            refine lv_goto (tgt := 18) hx hb dX8_touches_59 (by decide) ?_
            exact ih18 (k + 1) _ _ (by omega) (by omega) (fun q hq hn => by by_cases e9 : q = k; (subst e9; exact absurd hn (enc_pos (by omega))); exact hno q (by omega) hn) hW hS _ (lv_sub hl [1, 2, 3, 4, 5, 0] rfl)
          · refine lv_aload_n hx hb dX8_touches_39 rfl (lv_at hl 0 rfl) ?_
            refine lv_aload_n hx hb dX8_touches_40 rfl (lv_at hl 0 rfl) ?_
            refine lv_iload_n hx hb dX8_touches_41 rfl (lv_at hl 1 rfl) ?_
            refine lv_iload hx hb dX8_touches_42 (lv_at hl 5 rfl) ?_
            refine g_ci (g_runV X (k_X8_line (a := (sa : Int)) (b := (k : Int)) f15 f16 (⟨by omega, by omega⟩) (⟨by omega, by omega⟩)) (cwV 2 hts gX8_touches_X8_line rfl rfl rfl ⟨rfl, ds_X8_line⟩ ⟨Nat.le_of_ble_eq_true rfl, Nat.le_of_ble_eq_true rfl⟩) hW hS f15 rfl rfl hl.1 rfl (Nat.le_of_ble_eq_true rfl) dX8_touches_44 ⟨Nat.le_of_ble_eq_true rfl, Nat.le_of_ble_eq_true rfl⟩) hS (fun r41 C39 H locs hp40 hW hS => ?_)
            obtain ⟨rfl, ehp40⟩ := hp40
            rw [ehp40] at hW
            rw [show F71 (12 * ((sa : Nat) : Int) + (k : Int)).toNat = (T sa).getD k (-1) from by rw [show (12 * ((sa : Nat) : Int) + (k : Int)).toNat = 12 * sa + k by omega]; exact hmt.2 _ (by omega) _ (by omega)]
            refine g_ci (g_runV X (k_X8_ownerFor (x := ((T sa).getD k (-1))) hmd14 hwf (⟨by have := getD_rng (hwf.tc sa) k; omega, by have := getD_rng (hwf.tc sa) k; omega⟩)) (cwV 1 hts gX8_touches_X8_ownerFor rfl rfl rfl ⟨rfl, ds_X8_ownerFor⟩ ⟨Nat.le_of_ble_eq_true rfl, Nat.le_of_ble_eq_true rfl⟩) hW hS f15 rfl rfl hl.1 rfl (Nat.le_of_ble_eq_true rfl) dX8_touches_47 ⟨Nat.le_of_ble_eq_true rfl, Nat.le_of_ble_eq_true rfl⟩) hS (fun r44 C42 H locs hp43 hW hS => ?_)
            obtain ⟨rfl, ehp43⟩ := hp43
            rw [ehp43] at hW
            refine lv_iload_n hx hb dX8_touches_50 rfl (lv_at hl 3 rfl) ?_
            refine z_icmp_ne (tgt := 56) hx hb dX8_touches_51 (by decide) (ownf_rng hwf _) (⟨by omega, by omega⟩) (fun h_51 => ?_) (fun h_51 => ?_)
            · refine z_iinc (lv' := [(5, .int (zI ((k : Int) + 1))), (0, .ref (B 70 0)), (1, .int (zI (sa : Int))), (2, .int (zI (sb : Int))), (3, .int (zI (u : Int))), (4, .int (zI (ed (T sa) (T sb) : Int)))]) hx hb dX8_touches_56 hl (q := 5) rfl (by decide) rfl (fun ls hl => ?_)
              refine lv_goto (tgt := 18) hx hb dX8_touches_59 (by decide) ?_
              exact ih18 (k + 1) _ _ (by omega) (by omega) (fun q hq hn => by by_cases e9 : q = k; (subst e9; exact h_51); exact hno q (by omega) hn) hW hS _ (lv_sub hl [1, 2, 3, 4, 5, 0] rfl)
            · refine lv_iconst (v := zI (1)) hx hb dX8_touches_54 rfl ?_
              exact kret _ _ _ _ _ _ _ _ (⟨by rw [if_pos (tch_a (k := k) (by omega) (enc_neg (by omega)) h_51)], hmd14, (fun k' i' h => ((hf13 k' i' (by omega)).trans rfl))⟩) hW hS (Nat.le_of_ble_eq_true rfl) (Nat.le_of_ble_eq_true rfl) dX8_touches_55
    exact lp18 ((T sa).length + 1) 0 _ _ (by omega) (by omega) (fun q hq => by omega) hW hS _ (lv_sub hl [2, 3, 4, 5, 1, 0] rfl)
  · refine lv_iconst (v := zI (0)) hx hb dX8_touches_13 rfl ?_
    exact kret _ _ _ _ _ _ _ _ (⟨by rw [if_neg (tch_n (by omega))], hmd14, (fun k' i' h => (hf13 k' i' (by omega)))⟩) hW hS (Nat.le_of_ble_eq_true rfl) (Nat.le_of_ble_eq_true rfl) dX8_touches_14
