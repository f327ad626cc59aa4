/-! THE REFERENCE'S TEXTS: copied, compared, merged -/
def mac (F : Nat → Int) (acc : List Int) : Prop := ∀ q, q < acc.length → q < 12 → F (300 + q) = acc.getD q (-1)
theorem mac_0 (F : Nat → Int) : mac F [] := fun q hq => absurd hq (by simp)
theorem mac_lt {F : Nat → Int} {acc : List Int} {v : Int} (h : mac F acc) : mac (ju F (300 + acc.length) v) (acc ++ [v]) := by
  intro q hq h12
  rw [getD_app1]
  simp only [List.length_append, List.length_singleton] at hq
  by_cases e : q = acc.length
  · subst e; rw [if_pos rfl, ju_s]
  · rw [if_neg e, ju_n (by omega)]; exact h q (by omega) h12
theorem mac_ge {F : Nat → Int} {acc : List Int} {v : Int} (h : mac F acc) (hl : 12 ≤ acc.length) : mac F (acc ++ [v]) := by
  intro q hq h12
  rw [getD_app1, if_neg (by omega)]
  exact h q (by omega) h12
theorem seg_get {t : List Int} {a b q : Nat} (hq : a + q < b) (hb : b ≤ t.length) : (seg t a b).getD q (-1) = t.getD (a + q) (-1) := by
  unfold seg
  rw [List.getD_eq_getElem?_getD, List.getD_eq_getElem?_getD, List.getElem?_take, if_pos (by omega), List.getElem?_drop]
theorem seg_ext {t u : List Int} {a b f l : Nat} (hb : b ≤ t.length) (hl : l ≤ u.length) (hab : a ≤ b) (hfl : f ≤ l) (h1 : b - a = l - f) (h2 : ∀ q, a + q < b → t.getD (a + q) (-1) = u.getD (f + q) (-1)) : seg t a b = seg u f l := by
  apply List.ext_getElem (by rw [seg_len hb, seg_len hl]; exact h1)
  intro q h3 h4
  rw [seg_len hb] at h3
  have e := h2 q (by omega)
  rw [← seg_get (by omega) hb, ← seg_get (a := f) (by omega) hl, List.getD_eq_getElem?_getD, List.getD_eq_getElem?_getD] at e
  rw [List.getElem?_eq_getElem (by rw [seg_len hb]; omega), List.getElem?_eq_getElem h4] at e
  simpa using e
theorem seg_ne {t u : List Int} {a b f l q : Nat} (hb : b ≤ t.length) (hl : l ≤ u.length) (hab : a ≤ b) (hfl : f ≤ l) (hq : a + q < b) (h : ¬ t.getD (a + q) (-1) = u.getD (f + q) (-1)) : ¬ seg t a b = seg u f l := by
  intro e
  have h1 := congrArg List.length e
  rw [seg_len hb, seg_len hl] at h1
  apply h
  rw [← seg_get hq hb, ← seg_get (a := f) (by omega) hl, e]

theorem ds_X8_copies : yX8_copies.cls ≠ "java/lang/invoke/MethodHandle" ∧ yX8_copies.cls ≠ "java/lang/invoke/VarHandle" ∧ (parseMethodDescriptor yX8_copies.desc).map (fun d => d.parameters.length) = some 2 := by decide +kernel
theorem in_X8_copies_8 : ∀ w ∈ wsX80, w ∈ wsX8_copies := by decide +kernel
def rX8_copies : Room := { frames := 1, cells := 0, slots := 0, locals := 22 }
set_option maxHeartbeats 4000000 in
set_option maxRecDepth 100000 in
theorem k_X8_copies {l : Launch} {Z : gZ} {B : gB} {C0 : gC} {th nc rg cm ld mg : Int} {FT FS : Nat → Int} {sa sb : Nat} {t : List Int} (h0 : C0 70 0 = mdO B th nc rg cm ld mg) (h71 : C0 71 0 = some (gJ Z 312 FT)) (h72 : C0 72 0 = some (gJ Z 26 FS)) (hsz : FS sa = (t.length : Int)) (hT : ∀ k, k < t.length → FT (12 * sa + k) = t.getD k (-1)) (ht12 : t.length ≤ 12) (hsa : sa < 26) (hsb : sb < 26) (hne : sa ≠ sb) : Met l yX8_copies wsX8_copies rX8_copies (gPc Z B C0 [.ref (B 70 0), .int (zI (sa : Int)), .int (zI (sb : Int))]) (gQv Z B (fun C1 => (∃ F, C1 71 0 = some (gJ Z 312 F) ∧ (∀ q, q < t.length → F (12 * sb + q) = t.getD q (-1)) ∧ ∀ y, ¬ (12 * sb ≤ y ∧ y < 12 * sb + 12) → F y = FT y) ∧ C1 72 0 = some (gJ Z 26 (ju FS sb (t.length : Int))) ∧ ∀ k' i', ¬ ((k' = 71 ∨ k' = 72) ∧ i' = 0) → C1 k' i' = C0 k' i')) 0 0 (gA Z) := by
  refine g_ofV (cc := cX8_copies) (maxL := 4) (by decide) rfl (Nat.le_of_ble_eq_true rfl) ?_
  intro p e s m args below meth c Q X kret hW hS ls hl
  have hx := X.1.1
  have hb := X.1.2.1
  have hts := X.1.2.2.2.2
  have hl : lv_has ls 4 [(0, .ref (B 70 0)), (1, .int (zI (sa : Int))), (2, .int (zI (sb : Int)))] := hl
  refine lv_iconst (v := zI (0)) hx hb dX8_copies_0 rfl ?_
  refine lv_istore_n (lv' := [(3, .int (zI 0)), (0, .ref (B 70 0)), (1, .int (zI (sa : Int))), (2, .int (zI (sb : Int)))]) hx hb dX8_copies_1 rfl hl (by decide) rfl (fun ls hl => ?_)
  have lp2 : ∀ (n : Nat) (k : Nat) (F : Nat → Int) (Cl : gC) (H : Heap) (locs : List Loc), (t.length - k < n) → (k ≤ t.length) → (∀ q, q < k → F (12 * sb + q) = t.getD q (-1)) → (∀ y, ¬ (12 * sb ≤ y ∧ y < 12 * sb + 12) → F y = FT y) → (Cl 71 0 = some (gJ Z 312 F)) → (∀ k' i', ¬ (k' = 71 ∧ i' = 0) → Cl k' i' = C0 k' i') → gw Z B Cl H → va_S (gA Z) s.heap H locs → ∀ ls : Array Slot, lv_has ls 4 [(0, .ref (B 70 0)), (1, .int (zI (sa : Int))), (2, .int (zI (sb : Int))), (3, .int (zI (k : Int)))] → W p l e rX8_copies s m args below meth c H locs 0 0 Q (F0 m 2 ls []) := by
    intro n
    induction n with
    | zero =>
      intro k F Cl H locs hm hkt hFn hFo h71l hfl hW hS ls hl
      exact absurd hm (by omega)
    | succ n ih2 =>
      intro k F Cl H locs hm hkt hFn hFo h71l hfl hW hS ls hl
      refine lv_iload_n hx hb dX8_copies_2 rfl (lv_at hl 3 rfl) ?_
      refine lv_aload_n hx hb dX8_copies_3 rfl (lv_at hl 0 rfl) ?_
      refine g_get (ci := 8) X in_X8_copies_8 rfl hW ((hfl 70 0 (by omega)).trans h0) 6 (by decide) (hts _ (List.mem_of_getElem? (i := 1) rfl)) rfl dX8_copies_4 ?_
      refine lv_iload_n hx hb dX8_copies_7 rfl (lv_at hl 1 rfl) ?_
      refine z_iald X hW ((hfl 72 0 (by omega)).trans h72) (by omega) (by omega) (by omega) dX8_copies_8 ?_
      rw [show FS ((sa : Int)).toNat = (t.length : Int) from by rw [show ((sa : Int)).toNat = sa by omega]; exact hsz]
      refine z_icmp_ge (tgt := 35) hx hb dX8_copies_9 (by decide) (⟨by omega, by omega⟩) (⟨by omega, by omega⟩) (fun h_9 => ?_) (fun h_9 => ?_)
      · refine lv_aload_n hx hb dX8_copies_35 rfl (lv_at hl 0 rfl) ?_
        refine g_get (ci := 8) X in_X8_copies_8 rfl hW ((hfl 70 0 (by omega)).trans h0) 6 (by decide) (hts _ (List.mem_of_getElem? (i := 1) rfl)) rfl dX8_copies_36 ?_
        refine lv_iload_n hx hb dX8_copies_39 rfl (lv_at hl 2 rfl) ?_
        refine lv_aload_n hx hb dX8_copies_40 rfl (lv_at hl 0 rfl) ?_
        refine g_get (ci := 8) X in_X8_copies_8 rfl hW ((hfl 70 0 (by omega)).trans h0) 6 (by decide) (hts _ (List.mem_of_getElem? (i := 1) rfl)) rfl dX8_copies_41 ?_
        refine lv_iload_n hx hb dX8_copies_44 rfl (lv_at hl 1 rfl) ?_
        refine z_iald X hW ((hfl 72 0 (by omega)).trans h72) (by omega) (by omega) (by omega) dX8_copies_45 ?_
        rw [show FS ((sa : Int)).toNat = (t.length : Int) from by rw [show ((sa : Int)).toNat = sa by omega]; exact hsz]
        refine z_iast X hW hS ((hfl 72 0 (by omega)).trans h72) (by omega) (by omega) (by omega) dX8_copies_46 (fun C1 H locs hs2 hn3 hW hS => ?_)
        have f4 : C1 71 0 = some (gJ Z 312 F) := ((hn3 71 0 (gk (by decide))).trans h71l)
        exact kret _ _ _ _ _ _ _ (⟨⟨F, f4, fun q hq => hFn q (by omega), hFo⟩, by have h9 := hs2; rwa [show ((sb : Int)).toNat = sb by omega] at h9, fun k' i' h => ((hn3 k' i' (by omega)).trans (hfl k' i' (by omega)))⟩) hW hS (Nat.le_of_ble_eq_true rfl) (Nat.le_of_ble_eq_true rfl) dX8_copies_47
      · refine lv_aload_n hx hb dX8_copies_12 rfl (lv_at hl 0 rfl) ?_
        refine g_get (ci := 8) X in_X8_copies_8 rfl hW ((hfl 70 0 (by omega)).trans h0) 5 (by decide) (hts _ (List.mem_of_getElem? (i := 2) rfl)) rfl dX8_copies_13 ?_
        refine lv_bipush (v := zI (12)) hx hb dX8_copies_16 (by decide) ?_
        refine lv_iload_n hx hb dX8_copies_18 rfl (lv_at hl 2 rfl) ?_
        refine z_imul hx hb dX8_copies_19 ?_
        refine lv_iload_n hx hb dX8_copies_20 rfl (lv_at hl 3 rfl) ?_
        refine z_iadd hx hb dX8_copies_21 ?_
        refine lv_aload_n hx hb dX8_copies_22 rfl (lv_at hl 0 rfl) ?_
        refine lv_iload_n hx hb dX8_copies_23 rfl (lv_at hl 1 rfl) ?_
        refine lv_iload_n hx hb dX8_copies_24 rfl (lv_at hl 3 rfl) ?_
        refine g_ci (g_runV X (k_X8_line (a := (sa : Int)) (b := (k : Int)) ((hfl 70 0 (by omega)).trans h0) h71l (⟨by omega, by omega⟩) (⟨by omega, by omega⟩)) (cwV 2 hts gX8_copies_X8_line rfl rfl rfl ⟨rfl, ds_X8_line⟩ ⟨Nat.le_of_ble_eq_true rfl, Nat.le_of_ble_eq_true rfl⟩) hW hS ((hfl 70 0 (by omega)).trans h0) rfl rfl hl.1 rfl (Nat.le_of_ble_eq_true rfl) dX8_copies_25 ⟨Nat.le_of_ble_eq_true rfl, Nat.le_of_ble_eq_true rfl⟩) hS (fun r7 C5 H locs hp6 hW hS => ?_)
        obtain ⟨rfl, ehp6⟩ := hp6
        rw [ehp6] at hW
        rw [show F (12 * (sa : Int) + (k : Int)).toNat = t.getD k (-1) from by rw [show (12 * (sa : Int) + (k : Int)).toNat = 12 * sa + k by omega]; exact (hFo _ (by omega)).trans (hT k (by omega))]
        refine z_iast X hW hS h71l (by omega) (by omega) (by omega) dX8_copies_28 (fun C8 H locs hs9 hn10 hW hS => ?_)
        refine z_iinc (lv' := [(3, .int (zI ((k : Int) + 1))), (0, .ref (B 70 0)), (1, .int (zI (sa : Int))), (2, .int (zI (sb : Int)))]) hx hb dX8_copies_29 hl (q := 3) rfl (by decide) rfl (fun ls hl => ?_)
        refine lv_goto (tgt := 2) hx hb dX8_copies_32 (by decide) ?_
        exact ih2 (k + 1) _ _ _ _ (by omega) (by omega) (fun q hq => by rw [show (12 * (sb : Int) + (k : Int)).toNat = 12 * sb + k by omega]; by_cases e9 : q = k; (rw [e9, ju_s]); (rw [ju_n (by omega)]; exact hFn q (by omega))) (fun y hy => by rw [show (12 * (sb : Int) + (k : Int)).toNat = 12 * sb + k by omega, ju_n (by omega)]; exact hFo y hy) hs9 (fun k' i' h => (hn10 k' i' (by omega)).trans (hfl k' i' h)) hW hS _ (lv_sub hl [1, 2, 3, 0] rfl)
  exact lp2 (t.length + 1) 0 FT _ _ _ (by omega) (by omega) (fun q hq => by omega) (fun y _ => rfl) h71 (fun _ _ _ => rfl) hW hS _ (lv_sub hl [1, 2, 3, 0] rfl)

theorem ds_X8_isSame : yX8_isSame.cls ≠ "java/lang/invoke/MethodHandle" ∧ yX8_isSame.cls ≠ "java/lang/invoke/VarHandle" ∧ (parseMethodDescriptor yX8_isSame.desc).map (fun d => d.parameters.length) = some 6 := by decide +kernel
def rX8_isSame : Room := { frames := 1, cells := 0, slots := 0, locals := 22 }
set_option maxHeartbeats 4000000 in
set_option maxRecDepth 100000 in
theorem k_X8_isSame {l : Launch} {Z : gZ} {B : gB} {C0 : gC} {th nc rg cm ld mg : Int} {FT FS : Nat → Int} {sa sb be en fi la : Nat} {t v : List Int} (h0 : C0 70 0 = mdO B th nc rg cm ld mg) (h71 : C0 71 0 = some (gJ Z 312 FT)) (hT : ∀ k, k < t.length → FT (12 * sa + k) = t.getD k (-1)) (hV : ∀ k, k < v.length → FT (12 * sb + k) = v.getD k (-1)) (ht12 : t.length ≤ 12) (hv12 : v.length ≤ 12) (htr : ∀ x ∈ t, 0 ≤ x ∧ x < 100) (hvr : ∀ x ∈ v, 0 ≤ x ∧ x < 100) (hsa : sa < 25) (hsb : sb < 25) (hbe : be ≤ en) (hen : en ≤ t.length) (hfi : fi ≤ la) (hla : la ≤ v.length) : Met l yX8_isSame wsX8_isSame rX8_isSame (gPc Z B C0 [.ref (B 70 0), .int (zI (sa : Int)), .int (zI (be : Int)), .int (zI (en : Int)), .int (zI (sb : Int)), .int (zI (fi : Int)), .int (zI (la : Int))]) (gQi Z B (fun r C1 => r = zI (if seg t be en = seg v fi la then 1 else 0) ∧ C1 = C0)) 0 0 (gA Z) := by
  refine g_ofZ (cc := cX8_isSame) (maxL := 8) (by decide) rfl (Nat.le_of_ble_eq_true rfl) (fun r C1 h => by obtain ⟨h, -⟩ := h; rw [h]; split <;> rfl) ?_
  intro p e s m args below meth c Q X kret hW hS ls hl
  have hx := X.1.1
  have hb := X.1.2.1
  have hts := X.1.2.2.2.2
  have hl : lv_has ls 8 [(0, .ref (B 70 0)), (1, .int (zI (sa : Int))), (2, .int (zI (be : Int))), (3, .int (zI (en : Int))), (4, .int (zI (sb : Int))), (5, .int (zI (fi : Int))), (6, .int (zI (la : Int)))] := hl
  refine lv_iload_n hx hb dX8_isSame_0 rfl (lv_at hl 3 rfl) ?_
  refine lv_iload_n hx hb dX8_isSame_1 rfl (lv_at hl 2 rfl) ?_
  refine z_isub hx hb dX8_isSame_2 ?_
  refine lv_iload hx hb dX8_isSame_3 (lv_at hl 6 rfl) ?_
  refine lv_iload hx hb dX8_isSame_5 (lv_at hl 5 rfl) ?_
  refine z_isub hx hb dX8_isSame_7 ?_
  refine z_icmp_eq (tgt := 13) hx hb dX8_isSame_8 (by decide) (⟨by omega, by omega⟩) (⟨by omega, by omega⟩) (fun h_8 => ?_) (fun h_8 => ?_)
  · refine lv_iconst (v := zI (0)) hx hb dX8_isSame_13 rfl ?_
    refine lv_istore (lv' := [(7, .int (zI 0)), (0, .ref (B 70 0)), (1, .int (zI (sa : Int))), (2, .int (zI (be : Int))), (3, .int (zI (en : Int))), (4, .int (zI (sb : Int))), (5, .int (zI (fi : Int))), (6, .int (zI (la : Int)))]) hx hb dX8_isSame_14 hl (by decide) rfl (fun ls hl => ?_)
    have lp16 : ∀ (n : Nat) (k : Nat) (H : Heap) (locs : List Loc), (en - be - k < n) → (be + k ≤ en) → (∀ q, q < k → t.getD (be + q) (-1) = v.getD (fi + q) (-1)) → gw Z B C0 H → va_S (gA Z) s.heap H locs → ∀ ls : Array Slot, lv_has ls 8 [(0, .ref (B 70 0)), (1, .int (zI (sa : Int))), (2, .int (zI (be : Int))), (3, .int (zI (en : Int))), (4, .int (zI (sb : Int))), (5, .int (zI (fi : Int))), (6, .int (zI (la : Int))), (7, .int (zI (k : Int)))] → W p l e rX8_isSame s m args below meth c H locs 0 0 Q (F0 m 16 ls []) := by
      intro n
      induction n with
      | zero =>
        intro k  H locs hm hkb heq hW hS ls hl
        exact absurd hm (by omega)
      | succ n ih16 =>
        intro k  H locs hm hkb heq hW hS ls hl
        refine lv_iload_n hx hb dX8_isSame_16 rfl (lv_at hl 2 rfl) ?_
        refine lv_iload hx hb dX8_isSame_17 (lv_at hl 7 rfl) ?_
        refine z_iadd hx hb dX8_isSame_19 ?_
        refine lv_iload_n hx hb dX8_isSame_20 rfl (lv_at hl 3 rfl) ?_
        refine z_icmp_ge (tgt := 55) hx hb dX8_isSame_21 (by decide) (⟨by omega, by omega⟩) (⟨by omega, by omega⟩) (fun h_21 => ?_) (fun h_21 => ?_)
        · refine lv_iconst (v := zI (1)) hx hb dX8_isSame_55 rfl ?_
          exact kret _ _ _ _ _ _ _ _ (⟨by rw [if_pos (seg_ext hen hla (by omega) (by omega) (by omega) (fun q hq => heq q (by omega)))], rfl⟩) hW hS (Nat.le_of_ble_eq_true rfl) (Nat.le_of_ble_eq_true rfl) dX8_isSame_56
        · refine lv_aload_n hx hb dX8_isSame_24 rfl (lv_at hl 0 rfl) ?_
          refine lv_iload_n hx hb dX8_isSame_25 rfl (lv_at hl 1 rfl) ?_
          refine lv_iload_n hx hb dX8_isSame_26 rfl (lv_at hl 2 rfl) ?_
          refine lv_iload hx hb dX8_isSame_27 (lv_at hl 7 rfl) ?_
          refine z_iadd hx hb dX8_isSame_29 ?_
          refine g_ci (g_runV X (k_X8_line (a := (sa : Int)) (b := ((be : Int) + (k : Int))) h0 h71 (⟨by omega, by omega⟩) (⟨by omega, by omega⟩)) (cwV 2 hts gX8_isSame_X8_line rfl rfl rfl ⟨rfl, ds_X8_line⟩ ⟨Nat.le_of_ble_eq_true rfl, Nat.le_of_ble_eq_true rfl⟩) hW hS h0 rfl rfl hl.1 rfl (Nat.le_of_ble_eq_true rfl) dX8_isSame_30 ⟨Nat.le_of_ble_eq_true rfl, Nat.le_of_ble_eq_true rfl⟩) hS (fun r3 C1 H locs hp2 hW hS => ?_)
          obtain ⟨rfl, ehp2⟩ := hp2
          rw [ehp2] at hW
          rw [show FT (12 * (sa : Int) + ((be : Int) + (k : Int))).toNat = t.getD (be + k) (-1) from by rw [show (12 * (sa : Int) + ((be : Int) + (k : Int))).toNat = 12 * sa + (be + k) by omega]; exact hT _ (by omega)]
          refine lv_aload_n hx hb dX8_isSame_33 rfl (lv_at hl 0 rfl) ?_
          refine lv_iload hx hb dX8_isSame_34 (lv_at hl 4 rfl) ?_
          refine lv_iload hx hb dX8_isSame_36 (lv_at hl 5 rfl) ?_
          refine lv_iload hx hb dX8_isSame_38 (lv_at hl 7 rfl) ?_
          refine z_iadd hx hb dX8_isSame_40 ?_
          refine g_ci (g_runV X (k_X8_line (a := (sb : Int)) (b := ((fi : Int) + (k : Int))) h0 h71 (⟨by omega, by omega⟩) (⟨by omega, by omega⟩)) (cwV 2 hts gX8_isSame_X8_line rfl rfl rfl ⟨rfl, ds_X8_line⟩ ⟨Nat.le_of_ble_eq_true rfl, Nat.le_of_ble_eq_true rfl⟩) hW hS h0 rfl rfl hl.1 rfl (Nat.le_of_ble_eq_true rfl) dX8_isSame_41 ⟨Nat.le_of_ble_eq_true rfl, Nat.le_of_ble_eq_true rfl⟩) hS (fun r6 C4 H locs hp5 hW hS => ?_)
          obtain ⟨rfl, ehp5⟩ := hp5
          rw [ehp5] at hW
          rw [show FT (12 * (sb : Int) + ((fi : Int) + (k : Int))).toNat = v.getD (fi + k) (-1) from by rw [show (12 * (sb : Int) + ((fi : Int) + (k : Int))).toNat = 12 * sb + (fi + k) by omega]; exact hV _ (by omega)]
          refine z_icmp_eq (tgt := 49) hx hb dX8_isSame_44 (by decide) (⟨by have := getD_rng htr (be + k); omega, by have := getD_rng htr (be + k); omega⟩) (⟨by have := getD_rng hvr (fi + k); omega, by have := getD_rng hvr (fi + k); omega⟩) (fun h_44 => ?_) (fun h_44 => ?_)
          · refine z_iinc (lv' := [(7, .int (zI ((k : Int) + 1))), (0, .ref (B 70 0)), (1, .int (zI (sa : Int))), (2, .int (zI (be : Int))), (3, .int (zI (en : Int))), (4, .int (zI (sb : Int))), (5, .int (zI (fi : Int))), (6, .int (zI (la : Int)))]) hx hb dX8_isSame_49 hl (q := 7) rfl (by decide) rfl (fun ls hl => ?_)
            refine lv_goto (tgt := 16) hx hb dX8_isSame_52 (by decide) ?_
            exact ih16 (k + 1) _ _ (by omega) (by omega) (fun q hq => by by_cases e9 : q = k; (subst e9; exact h_44); exact heq q (by omega)) hW hS _ (lv_sub hl [1, 2, 3, 4, 5, 6, 7, 0] rfl)
          · refine lv_iconst (v := zI (0)) hx hb dX8_isSame_47 rfl ?_
            exact kret _ _ _ _ _ _ _ _ (⟨by rw [if_neg (seg_ne (q := k) hen hla (by omega) (by omega) (by omega) h_44)], rfl⟩) hW hS (Nat.le_of_ble_eq_true rfl) (Nat.le_of_ble_eq_true rfl) dX8_isSame_48
    exact lp16 (en - be + 1) 0 _ _ (by omega) (by omega) (fun q hq => by omega) hW hS _ (lv_sub hl [1, 2, 3, 4, 5, 6, 7, 0] rfl)
  · refine lv_iconst (v := zI (0)) hx hb dX8_isSame_11 rfl ?_
    exact kret _ _ _ _ _ _ _ _ (⟨by rw [if_neg (fun z9 => h_8 (by have := congrArg List.length z9; rw [seg_len hen, seg_len hla] at this; omega))], rfl⟩) hW hS (Nat.le_of_ble_eq_true rfl) (Nat.le_of_ble_eq_true rfl) dX8_isSame_12

theorem ds_X8_adds : yX8_adds.cls ≠ "java/lang/invoke/MethodHandle" ∧ yX8_adds.cls ≠ "java/lang/invoke/VarHandle" ∧ (parseMethodDescriptor yX8_adds.desc).map (fun d => d.parameters.length) = some 3 := by decide +kernel
theorem in_X8_adds_8 : ∀ w ∈ wsX80, w ∈ wsX8_adds := by decide +kernel
def rX8_adds : Room := { frames := 1, cells := 0, slots := 0, locals := 22 }
set_option maxHeartbeats 4000000 in
set_option maxRecDepth 100000 in
theorem k_X8_adds {l : Launch} {Z : gZ} {B : gB} {C0 : gC} {th nc rg cm ld : Int} {FT : Nat → Int} {sa be en : Nat} {t acc : List Int} (h0 : C0 70 0 = mdO B th nc rg cm ld ((acc.length : Nat) : Int)) (h71 : C0 71 0 = some (gJ Z 312 FT)) (hac : mac FT acc) (hT : ∀ k, k < t.length → FT (12 * sa + k) = t.getD k (-1)) (ht12 : t.length ≤ 12) (hac24 : acc.length ≤ 1000) (hsa : sa < 25) (hbe : be ≤ en) (hen : en ≤ t.length) : Met l yX8_adds wsX8_adds rX8_adds (gPc Z B C0 [.ref (B 70 0), .int (zI (sa : Int)), .int (zI (be : Int)), .int (zI (en : Int))]) (gQv Z B (fun C1 => (∃ F, C1 71 0 = some (gJ Z 312 F) ∧ mac F (acc ++ seg t be en) ∧ ∀ y, y < 300 → F y = FT y) ∧ C1 70 0 = mdO B th nc rg cm ld (((acc ++ seg t be en).length : Nat) : Int) ∧ ∀ k' i', ¬ ((k' = 70 ∨ k' = 71) ∧ i' = 0) → C1 k' i' = C0 k' i')) 0 0 (gA Z) := by
  refine g_ofV (cc := cX8_adds) (maxL := 5) (by decide) rfl (Nat.le_of_ble_eq_true rfl) ?_
  intro p e s m args below meth c Q X kret hW hS ls hl
  have hx := X.1.1
  have hb := X.1.2.1
  have hts := X.1.2.2.2.2
  have hl : lv_has ls 5 [(0, .ref (B 70 0)), (1, .int (zI (sa : Int))), (2, .int (zI (be : Int))), (3, .int (zI (en : Int)))] := hl
  refine lv_iload_n hx hb dX8_adds_0 rfl (lv_at hl 2 rfl) ?_
  refine lv_istore (lv' := [(4, .int (zI (be : Int))), (0, .ref (B 70 0)), (1, .int (zI (sa : Int))), (2, .int (zI (be : Int))), (3, .int (zI (en : Int)))]) hx hb dX8_adds_1 hl (by decide) rfl (fun ls hl => ?_)
  have lp3 : ∀ (n : Nat) (k : Nat) (F : Nat → Int) (Cl : gC) (H : Heap) (locs : List Loc), (en - k < n) → (be ≤ k ∧ k ≤ en) → (mac F (acc ++ seg t be k)) → (∀ y, y < 300 → F y = FT y) → (Cl 71 0 = some (gJ Z 312 F)) → (Cl 70 0 = mdO B th nc rg cm ld (((acc ++ seg t be k).length : Nat) : Int)) → (∀ k' i', ¬ ((k' = 70 ∨ k' = 71) ∧ i' = 0) → Cl k' i' = C0 k' i') → gw Z B Cl H → va_S (gA Z) s.heap H locs → ∀ ls : Array Slot, lv_has ls 5 [(0, .ref (B 70 0)), (1, .int (zI (sa : Int))), (2, .int (zI (be : Int))), (3, .int (zI (en : Int))), (4, .int (zI (k : Int)))] → W p l e rX8_adds s m args below meth c H locs 0 0 Q (F0 m 3 ls []) := by
    intro n
    induction n with
    | zero =>
      intro k F Cl H locs hm hkb hmac hFo h71l h0l hfl hW hS ls hl
      exact absurd hm (by omega)
    | succ n ih3 =>
      intro k F Cl H locs hm hkb hmac hFo h71l h0l hfl hW hS ls hl
      have hsl : (acc ++ seg t be k).length ≤ acc.length + 12 := by rw [List.length_append, seg_len (by omega)]; omega
      refine lv_iload hx hb dX8_adds_3 (lv_at hl 4 rfl) ?_
      refine lv_iload_n hx hb dX8_adds_5 rfl (lv_at hl 3 rfl) ?_
      refine z_icmp_ge (tgt := 54) hx hb dX8_adds_6 (by decide) (⟨by omega, by omega⟩) (⟨by omega, by omega⟩) (fun h_6 => ?_) (fun h_6 => ?_)
      · exact kret _ _ _ _ _ _ _ (⟨⟨F, h71l, (show k = en by omega) ▸ hmac, hFo⟩, (show k = en by omega) ▸ h0l, hfl⟩) hW hS (Nat.le_of_ble_eq_true rfl) (Nat.le_of_ble_eq_true rfl) dX8_adds_54
      · refine lv_aload_n hx hb dX8_adds_9 rfl (lv_at hl 0 rfl) ?_
        refine g_get (ci := 8) X in_X8_adds_8 rfl hW h0l 25 (by decide) (hts _ (List.mem_of_getElem? (i := 1) rfl)) rfl dX8_adds_10 ?_
        refine lv_bipush (v := zI (12)) hx hb dX8_adds_13 (by decide) ?_
        refine z_icmp_ge (tgt := 38) hx hb dX8_adds_15 (by decide) (⟨by omega, by omega⟩) (⟨by omega, by omega⟩) (fun h_15 => ?_) (fun h_15 => ?_)
        · refine lv_aload_n hx hb dX8_adds_38 rfl (lv_at hl 0 rfl) ?_
          refine lv_dup hx hb dX8_adds_39 rfl ?_
          refine g_get (ci := 8) X in_X8_adds_8 rfl hW h0l 25 (by decide) (hts _ (List.mem_of_getElem? (i := 1) rfl)) rfl dX8_adds_40 ?_
          refine lv_iconst (v := zI (1)) hx hb dX8_adds_43 rfl ?_
          refine z_iadd hx hb dX8_adds_44 ?_
          refine g_put (ci := 8) (ty := .int) X in_X8_adds_8 tyX8 tyX8_ok nmX8 rfl hW hS h0l 25 (by decide) (hts _ (List.mem_of_getElem? (i := 1) rfl)) rfl (by decide +kernel) (rfl) (rfl) (Nat.le_of_ble_eq_true rfl) dX8_adds_45 (fun C1 H locs hs2 hn3 hW hS => ?_)
          refine z_iinc (lv' := [(4, .int (zI ((k : Int) + 1))), (0, .ref (B 70 0)), (1, .int (zI (sa : Int))), (2, .int (zI (be : Int))), (3, .int (zI (en : Int)))]) hx hb dX8_adds_48 hl (q := 4) rfl (by decide) rfl (fun ls hl => ?_)
          refine lv_goto (tgt := 3) hx hb dX8_adds_51 (by decide) ?_
          have f4 : C1 71 0 = some (gJ Z 312 F) := ((hn3 71 0 (gk (by decide))).trans h71l)
          have hsg : acc ++ seg t be (k + 1) = (acc ++ seg t be k) ++ [t.getD k (-1)] := by rw [seg_s (by omega) (by omega), List.append_assoc]
          exact ih3 (k + 1) _ _ _ _ (by omega) (by omega) (by rw [hsg]; exact mac_ge hmac (by omega)) hFo f4 (by rw [hsg, List.length_append]; exact hs2) (fun k' i' h => (hn3 k' i' (by omega)).trans (hfl k' i' h)) hW hS _ (lv_sub hl [1, 2, 3, 4, 0] rfl)
        · refine lv_aload_n hx hb dX8_adds_18 rfl (lv_at hl 0 rfl) ?_
          refine g_get (ci := 8) X in_X8_adds_8 rfl hW h0l 5 (by decide) (hts _ (List.mem_of_getElem? (i := 2) rfl)) rfl dX8_adds_19 ?_
          refine lv_sipush (v := zI (300)) hx hb dX8_adds_22 (by decide) ?_
          refine lv_aload_n hx hb dX8_adds_25 rfl (lv_at hl 0 rfl) ?_
          refine g_get (ci := 8) X in_X8_adds_8 rfl hW h0l 25 (by decide) (hts _ (List.mem_of_getElem? (i := 1) rfl)) rfl dX8_adds_26 ?_
          refine z_iadd hx hb dX8_adds_29 ?_
          refine lv_aload_n hx hb dX8_adds_30 rfl (lv_at hl 0 rfl) ?_
          refine lv_iload_n hx hb dX8_adds_31 rfl (lv_at hl 1 rfl) ?_
          refine lv_iload hx hb dX8_adds_32 (lv_at hl 4 rfl) ?_
          refine g_ci (g_runV X (k_X8_line (a := (sa : Int)) (b := (k : Int)) h0l h71l (⟨by omega, by omega⟩) (⟨by omega, by omega⟩)) (cwV 2 hts gX8_adds_X8_line rfl rfl rfl ⟨rfl, ds_X8_line⟩ ⟨Nat.le_of_ble_eq_true rfl, Nat.le_of_ble_eq_true rfl⟩) hW hS h0l rfl rfl hl.1 rfl (Nat.le_of_ble_eq_true rfl) dX8_adds_34 ⟨Nat.le_of_ble_eq_true rfl, Nat.le_of_ble_eq_true rfl⟩) hS (fun r7 C5 H locs hp6 hW hS => ?_)
          obtain ⟨rfl, ehp6⟩ := hp6
          rw [ehp6] at hW
          rw [show F (12 * (sa : Int) + (k : Int)).toNat = t.getD k (-1) from by rw [show (12 * (sa : Int) + (k : Int)).toNat = 12 * sa + k by omega]; exact (hFo _ (by omega)).trans (hT k (by omega))]
          refine z_iast X hW hS h71l (by omega) (by omega) (by omega) dX8_adds_37 (fun C8 H locs hs9 hn10 hW hS => ?_)
          refine lv_aload_n hx hb dX8_adds_38 rfl (lv_at hl 0 rfl) ?_
          refine lv_dup hx hb dX8_adds_39 rfl ?_
          have f11 : C8 70 0 = some (.inr (8, [.int (zI th), .int (zI nc), .int (zI rg), .int (zI cm), .int (zI ld), .ref (B 71 0), .ref (B 72 0), .ref (B 73 0), .ref (B 74 0), .ref (B 75 0), .ref (B 76 0), .ref (B 77 0), .ref (B 78 0), .ref (B 79 0), .ref (B 80 0), .ref (B 81 0), .ref (B 82 0), .ref (B 83 0), .ref (B 84 0), .ref (B 85 0), .ref (B 86 0), .ref (B 87 0), .ref (B 88 0), .ref (B 89 0), .ref (B 90 0), .int (zI (((acc ++ seg t be k).length : Nat) : Int))])) := ((hn10 70 0 (gk (by decide))).trans h0l)
          refine g_get (ci := 8) X in_X8_adds_8 rfl hW f11 25 (by decide) (hts _ (List.mem_of_getElem? (i := 1) rfl)) rfl dX8_adds_40 ?_
          refine lv_iconst (v := zI (1)) hx hb dX8_adds_43 rfl ?_
          refine z_iadd hx hb dX8_adds_44 ?_
          refine g_put (ci := 8) (ty := .int) X in_X8_adds_8 tyX8 tyX8_ok nmX8 rfl hW hS f11 25 (by decide) (hts _ (List.mem_of_getElem? (i := 1) rfl)) rfl (by decide +kernel) (rfl) (rfl) (Nat.le_of_ble_eq_true rfl) dX8_adds_45 (fun C12 H locs hs13 hn14 hW hS => ?_)
          refine z_iinc (lv' := [(4, .int (zI ((k : Int) + 1))), (0, .ref (B 70 0)), (1, .int (zI (sa : Int))), (2, .int (zI (be : Int))), (3, .int (zI (en : Int)))]) hx hb dX8_adds_48 hl (q := 4) rfl (by decide) rfl (fun ls hl => ?_)
          refine lv_goto (tgt := 3) hx hb dX8_adds_51 (by decide) ?_
          have f15 : C12 71 0 = some (gJ Z 312 (ju F (300 + (((acc ++ seg t be k).length : Nat) : Int)).toNat (t.getD k (-1)))) := ((hn14 71 0 (gk (by decide))).trans hs9)
          have hsg : acc ++ seg t be (k + 1) = (acc ++ seg t be k) ++ [t.getD k (-1)] := by rw [seg_s (by omega) (by omega), List.append_assoc]
          exact ih3 (k + 1) _ _ _ _ (by omega) (by omega) (by rw [hsg]; rw [show (300 + (((acc ++ seg t be k).length : Nat) : Int)).toNat = 300 + (acc ++ seg t be k).length by omega]; exact mac_lt hmac) (fun y hy => by rw [show (300 + (((acc ++ seg t be k).length : Nat) : Int)).toNat = 300 + (acc ++ seg t be k).length by omega, ju_n (by omega)]; exact hFo y hy) f15 (by rw [hsg, List.length_append]; exact hs13) (fun k' i' h => (hn14 k' i' (by omega)).trans ((hn10 k' i' (by omega)).trans (hfl k' i' h))) hW hS _ (lv_sub hl [1, 2, 3, 4, 0] rfl)
  exact lp3 (en - be + 1) be FT _ _ _ (by omega) (by omega) (by rw [seg_0, List.append_nil]; exact hac) (fun y _ => rfl) h71 (by rw [seg_0, List.append_nil]; exact h0) (fun _ _ _ => rfl) hW hS _ (lv_sub hl [1, 2, 3, 4, 0] rfl)
