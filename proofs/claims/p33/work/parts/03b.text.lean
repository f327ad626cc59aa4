theorem ds_X7_cell : yX7_cell.cls ≠ "java/lang/invoke/MethodHandle" ∧ yX7_cell.cls ≠ "java/lang/invoke/VarHandle" ∧ (parseMethodDescriptor yX7_cell.desc).map (fun d => d.parameters.length) = some 2 := by decide +kernel
def rX7_cell : Room := { frames := 0, cells := 0, slots := 0, locals := 0 }
set_option maxHeartbeats 4000000 in
set_option maxRecDepth 100000 in
theorem k_X7_cell {l : Launch} {Z : gZ} {B : gB} {C0 : gC} {k i n : Nat} {F : Nat → Int} {a : Int} (he : C0 k i = some (gJ Z n F)) (hn : (n : Int) < 2147483648) (ra : zr a) : Met l yX7_cell wsX7_cell rX7_cell (gPc Z B C0 [.ref (B k i), .int (zI a)]) (gQi Z B (fun r C1 => r = zI (if 0 ≤ a ∧ a < (n : Int) then F a.toNat else -1) ∧ C1 = C0)) 0 0 (gA Z) := by
  refine g_ofI (cc := cX7_cell) (maxL := 2) (by decide) rfl (Nat.le_of_ble_eq_true rfl) ?_
  intro p e s m args below meth c Q X kret hW hS ls hl
  have hx := X.1.1
  have hb := X.1.2.1
  have hts := X.1.2.2.2.2
  have hl : lv_has ls 2 [(0, .ref (B k i)), (1, .int (zI a))] := hl
  refine lv_iload_n hx hb dX7_cell_0 rfl (lv_at hl 1 rfl) ?_
  refine z_if_lt (tgt := 16) hx hb dX7_cell_1 (by decide) (ra) (fun h_1 => ?_) (fun h_1 => ?_)
  · refine lv_iconst (v := zI (-1)) hx hb dX7_cell_16 rfl ?_
    exact kret _ _ _ _ _ _ _ _ (⟨by rw [if_neg (by omega)], rfl⟩) hW hS (Nat.le_of_ble_eq_true rfl) (Nat.le_of_ble_eq_true rfl) dX7_cell_17
  · refine lv_iload_n hx hb dX7_cell_4 rfl (lv_at hl 1 rfl) ?_
    refine lv_aload_n hx hb dX7_cell_5 rfl (lv_at hl 0 rfl) ?_
    refine z_alen (t := 0) X hW he rfl dX7_cell_6 ?_
    refine z_icmp_ge (tgt := 16) hx hb dX7_cell_7 (by decide) (ra) (⟨by omega, hn⟩) (fun h_7 => ?_) (fun h_7 => ?_)
    · refine lv_iconst (v := zI (-1)) hx hb dX7_cell_16 rfl ?_
      exact kret _ _ _ _ _ _ _ _ (⟨by rw [if_neg (by omega)], rfl⟩) hW hS (Nat.le_of_ble_eq_true rfl) (Nat.le_of_ble_eq_true rfl) dX7_cell_17
    · refine lv_aload_n hx hb dX7_cell_10 rfl (lv_at hl 0 rfl) ?_
      refine lv_iload_n hx hb dX7_cell_11 rfl (lv_at hl 1 rfl) ?_
      refine z_iald X hW he (by omega) (by omega) (hn) dX7_cell_12 ?_
      refine lv_goto (tgt := 17) hx hb dX7_cell_13 (by decide) ?_
      exact kret _ _ _ _ _ _ _ _ (⟨by rw [if_pos (show 0 ≤ a ∧ a < (n : Int) from ⟨by omega, by omega⟩)], rfl⟩) hW hS (Nat.le_of_ble_eq_true rfl) (Nat.le_of_ble_eq_true rfl) dX7_cell_17

theorem ds_X7_put : yX7_put.cls ≠ "java/lang/invoke/MethodHandle" ∧ yX7_put.cls ≠ "java/lang/invoke/VarHandle" ∧ (parseMethodDescriptor yX7_put.desc).map (fun d => d.parameters.length) = some 3 := by decide +kernel
def rX7_put : Room := { frames := 0, cells := 0, slots := 0, locals := 0 }
set_option maxHeartbeats 4000000 in
set_option maxRecDepth 100000 in
theorem k_X7_put {l : Launch} {Z : gZ} {B : gB} {C0 : gC} {k i n : Nat} {F : Nat → Int} {a v : Int} (he : C0 k i = some (gJ Z n F)) (hn : (n : Int) < 2147483648) (ra : zr a) : Met l yX7_put wsX7_put rX7_put (gPc Z B C0 [.ref (B k i), .int (zI a), .int (zI v)]) (gQv Z B (fun C1 => C1 k i = some (gJ Z n (if 0 ≤ a ∧ a < (n : Int) then ju F a.toNat v else F)) ∧ ∀ k' i', ¬ (k' = k ∧ i' = i) → C1 k' i' = C0 k' i')) 0 0 (gA Z) := by
  refine g_ofV (cc := cX7_put) (maxL := 3) (by decide) rfl (Nat.le_of_ble_eq_true rfl) ?_
  intro p e s m args below meth c Q X kret hW hS ls hl
  have hx := X.1.1
  have hb := X.1.2.1
  have hts := X.1.2.2.2.2
  have hl : lv_has ls 3 [(0, .ref (B k i)), (1, .int (zI a)), (2, .int (zI v))] := hl
  refine lv_iload_n hx hb dX7_put_0 rfl (lv_at hl 1 rfl) ?_
  refine z_if_lt (tgt := 14) hx hb dX7_put_1 (by decide) (ra) (fun h_1 => ?_) (fun h_1 => ?_)
  · exact kret _ _ _ _ _ _ _ (⟨by rw [if_neg (by omega)]; exact he, fun _ _ _ => rfl⟩) hW hS (Nat.le_of_ble_eq_true rfl) (Nat.le_of_ble_eq_true rfl) dX7_put_14
  · refine lv_iload_n hx hb dX7_put_4 rfl (lv_at hl 1 rfl) ?_
    refine lv_aload_n hx hb dX7_put_5 rfl (lv_at hl 0 rfl) ?_
    refine z_alen (t := 0) X hW he rfl dX7_put_6 ?_
    refine z_icmp_ge (tgt := 14) hx hb dX7_put_7 (by decide) (ra) (⟨by omega, hn⟩) (fun h_7 => ?_) (fun h_7 => ?_)
    · exact kret _ _ _ _ _ _ _ (⟨by rw [if_neg (by omega)]; exact he, fun _ _ _ => rfl⟩) hW hS (Nat.le_of_ble_eq_true rfl) (Nat.le_of_ble_eq_true rfl) dX7_put_14
    · refine lv_aload_n hx hb dX7_put_10 rfl (lv_at hl 0 rfl) ?_
      refine lv_iload_n hx hb dX7_put_11 rfl (lv_at hl 1 rfl) ?_
      refine lv_iload_n hx hb dX7_put_12 rfl (lv_at hl 2 rfl) ?_
      refine z_iast X hW hS he (by omega) (by omega) (hn) dX7_put_13 (fun C1 H locs hs2 hn3 hW hS => ?_)
      exact kret _ _ _ _ _ _ _ (⟨by rw [if_pos (show 0 ≤ a ∧ a < (n : Int) from ⟨by omega, by omega⟩)]; exact hs2, hn3⟩) hW hS (Nat.le_of_ble_eq_true rfl) (Nat.le_of_ble_eq_true rfl) dX7_put_14

theorem ds_X7_place : yX7_place.cls ≠ "java/lang/invoke/MethodHandle" ∧ yX7_place.cls ≠ "java/lang/invoke/VarHandle" ∧ (parseMethodDescriptor yX7_place.desc).map (fun d => d.parameters.length) = some 2 := by decide +kernel
def rX7_place : Room := { frames := 0, cells := 0, slots := 0, locals := 0 }
set_option maxHeartbeats 4000000 in
set_option maxRecDepth 100000 in
theorem k_X7_place {l : Launch} {Z : gZ} {B : gB} {C0 : gC} {a b : Int} : Met l yX7_place wsX7_place rX7_place (gPc Z B C0 [.int (zI a), .int (zI b)]) (gQi Z B (fun r C1 => r = zI (a * 13 + b) ∧ C1 = C0)) 0 0 (gA Z) := by
  refine g_ofI (cc := cX7_place) (maxL := 2) (by decide) rfl (Nat.le_of_ble_eq_true rfl) ?_
  intro p e s m args below meth c Q X kret hW hS ls hl
  have hx := X.1.1
  have hb := X.1.2.1
  have hts := X.1.2.2.2.2
  have hl : lv_has ls 2 [(0, .int (zI a)), (1, .int (zI b))] := hl
  refine lv_iload_n hx hb dX7_place_0 rfl (lv_at hl 0 rfl) ?_
  refine lv_bipush (v := zI (13)) hx hb dX7_place_1 (by decide) ?_
  refine z_imul hx hb dX7_place_3 ?_
  refine lv_iload_n hx hb dX7_place_4 rfl (lv_at hl 1 rfl) ?_
  refine z_iadd hx hb dX7_place_5 ?_
  exact kret _ _ _ _ _ _ _ _ (⟨rfl, rfl⟩) hW hS (Nat.le_of_ble_eq_true rfl) (Nat.le_of_ble_eq_true rfl) dX7_place_6

theorem ds_X5_size : yX5_size.cls ≠ "java/lang/invoke/MethodHandle" ∧ yX5_size.cls ≠ "java/lang/invoke/VarHandle" ∧ (parseMethodDescriptor yX5_size.desc).map (fun d => d.parameters.length) = some 0 := by decide +kernel
theorem in_X5_size_5 : ∀ w ∈ wsX50, w ∈ wsX5_size := by decide +kernel
def rX5_size : Room := { frames := 0, cells := 0, slots := 0, locals := 0 }
set_option maxHeartbeats 4000000 in
set_option maxRecDepth 100000 in
theorem k_X5_size {l : Launch} {Z : gZ} {B : gB} {C0 : gC} {k i : Nat} {t : List Int} (ht : tx Z B C0 k i t) : Met l yX5_size wsX5_size rX5_size (gPc Z B C0 [.ref (B k i)]) (gQi Z B (fun r C1 => r = zI (t.length : Int) ∧ C1 = C0)) 0 0 (gA Z) := by
  refine g_ofI (cc := cX5_size) (maxL := 1) (by decide) rfl (Nat.le_of_ble_eq_true rfl) ?_
  intro p e s m args below meth c Q X kret hW hS ls hl
  have hx := X.1.1
  have hb := X.1.2.1
  have hts := X.1.2.2.2.2
  have hl : lv_has ls 1 [(0, .ref (B k i))] := hl
  obtain ⟨hlen, hrg, hcx, F, hFx, hFv⟩ := id ht
  refine lv_aload_n hx hb dX5_size_0 rfl (lv_at hl 0 rfl) ?_
  refine g_get (ci := 5) X in_X5_size_5 rfl hW hcx 1 (by decide) (hts _ (List.mem_of_getElem? (i := 1) rfl)) rfl dX5_size_1 ?_
  exact kret _ _ _ _ _ _ _ _ (⟨rfl, rfl⟩) hW hS (Nat.le_of_ble_eq_true rfl) (Nat.le_of_ble_eq_true rfl) dX5_size_4

theorem ds_X5_has : yX5_has.cls ≠ "java/lang/invoke/MethodHandle" ∧ yX5_has.cls ≠ "java/lang/invoke/VarHandle" ∧ (parseMethodDescriptor yX5_has.desc).map (fun d => d.parameters.length) = some 1 := by decide +kernel
theorem in_X5_has_5 : ∀ w ∈ wsX50, w ∈ wsX5_has := by decide +kernel
def rX5_has : Room := { frames := 0, cells := 0, slots := 0, locals := 0 }
set_option maxHeartbeats 4000000 in
set_option maxRecDepth 100000 in
theorem k_X5_has {l : Launch} {Z : gZ} {B : gB} {C0 : gC} {k i : Nat} {t : List Int} {a : Int} (ht : tx Z B C0 k i t) (ra : zr a) : Met l yX5_has wsX5_has rX5_has (gPc Z B C0 [.ref (B k i), .int (zI a)]) (gQi Z B (fun r C1 => r = zI (if 0 ≤ a ∧ a < (t.length : Int) then 1 else 0) ∧ C1 = C0)) 0 0 (gA Z) := by
  refine g_ofZ (cc := cX5_has) (maxL := 2) (by decide) rfl (Nat.le_of_ble_eq_true rfl) (fun r C1 h => by obtain ⟨h, -⟩ := h; rw [h]; split <;> rfl) ?_
  intro p e s m args below meth c Q X kret hW hS ls hl
  have hx := X.1.1
  have hb := X.1.2.1
  have hts := X.1.2.2.2.2
  have hl : lv_has ls 2 [(0, .ref (B k i)), (1, .int (zI a))] := hl
  obtain ⟨hlen, hrg, hcx, F, hFx, hFv⟩ := id ht
  refine lv_iload_n hx hb dX5_has_0 rfl (lv_at hl 1 rfl) ?_
  refine z_if_lt (tgt := 16) hx hb dX5_has_1 (by decide) (ra) (fun h_1 => ?_) (fun h_1 => ?_)
  · refine lv_iconst (v := zI (0)) hx hb dX5_has_16 rfl ?_
    exact kret _ _ _ _ _ _ _ _ (⟨by rw [if_neg (by omega)], rfl⟩) hW hS (Nat.le_of_ble_eq_true rfl) (Nat.le_of_ble_eq_true rfl) dX5_has_17
  · refine lv_iload_n hx hb dX5_has_4 rfl (lv_at hl 1 rfl) ?_
    refine lv_aload_n hx hb dX5_has_5 rfl (lv_at hl 0 rfl) ?_
    refine g_get (ci := 5) X in_X5_has_5 rfl hW hcx 1 (by decide) (hts _ (List.mem_of_getElem? (i := 1) rfl)) rfl dX5_has_6 ?_
    refine z_icmp_ge (tgt := 16) hx hb dX5_has_9 (by decide) (ra) (⟨by omega, by omega⟩) (fun h_9 => ?_) (fun h_9 => ?_)
    · refine lv_iconst (v := zI (0)) hx hb dX5_has_16 rfl ?_
      exact kret _ _ _ _ _ _ _ _ (⟨by rw [if_neg (by omega)], rfl⟩) hW hS (Nat.le_of_ble_eq_true rfl) (Nat.le_of_ble_eq_true rfl) dX5_has_17
    · refine lv_iconst (v := zI (1)) hx hb dX5_has_12 rfl ?_
      refine lv_goto (tgt := 17) hx hb dX5_has_13 (by decide) ?_
      exact kret _ _ _ _ _ _ _ _ (⟨by rw [if_pos (by omega)], rfl⟩) hW hS (Nat.le_of_ble_eq_true rfl) (Nat.le_of_ble_eq_true rfl) dX5_has_17

theorem ds_X5_at : yX5_at.cls ≠ "java/lang/invoke/MethodHandle" ∧ yX5_at.cls ≠ "java/lang/invoke/VarHandle" ∧ (parseMethodDescriptor yX5_at.desc).map (fun d => d.parameters.length) = some 1 := by decide +kernel
theorem in_X5_at_5 : ∀ w ∈ wsX50, w ∈ wsX5_at := by decide +kernel
def rX5_at : Room := { frames := 0, cells := 0, slots := 0, locals := 0 }
set_option maxHeartbeats 4000000 in
set_option maxRecDepth 100000 in
theorem k_X5_at {l : Launch} {Z : gZ} {B : gB} {C0 : gC} {k i : Nat} {t : List Int} {a : Int} (ht : tx Z B C0 k i t) (ra : zr a) : Met l yX5_at wsX5_at rX5_at (gPc Z B C0 [.ref (B k i), .int (zI a)]) (gQi Z B (fun r C1 => r = zI (ta t a) ∧ C1 = C0)) 0 0 (gA Z) := by
  refine g_ofI (cc := cX5_at) (maxL := 2) (by decide) rfl (Nat.le_of_ble_eq_true rfl) ?_
  intro p e s m args below meth c Q X kret hW hS ls hl
  have hx := X.1.1
  have hb := X.1.2.1
  have hts := X.1.2.2.2.2
  have hl : lv_has ls 2 [(0, .ref (B k i)), (1, .int (zI a))] := hl
  obtain ⟨hlen, hrg, hcx, F, hFx, hFv⟩ := id ht
  refine lv_iload_n hx hb dX5_at_0 rfl (lv_at hl 1 rfl) ?_
  refine z_if_lt (tgt := 30) hx hb dX5_at_1 (by decide) (ra) (fun h_1 => ?_) (fun h_1 => ?_)
  · refine lv_iconst (v := zI (-1)) hx hb dX5_at_30 rfl ?_
    exact kret _ _ _ _ _ _ _ _ (⟨congrArg zI (by first | exact (ta_neg (by omega)).symm | exact (ta_out (by omega)).symm), rfl⟩) hW hS (Nat.le_of_ble_eq_true rfl) (Nat.le_of_ble_eq_true rfl) dX5_at_31
  · refine lv_iload_n hx hb dX5_at_4 rfl (lv_at hl 1 rfl) ?_
    refine lv_aload_n hx hb dX5_at_5 rfl (lv_at hl 0 rfl) ?_
    refine g_get (ci := 5) X in_X5_at_5 rfl hW hcx 1 (by decide) (hts _ (List.mem_of_getElem? (i := 1) rfl)) rfl dX5_at_6 ?_
    refine z_icmp_ge (tgt := 30) hx hb dX5_at_9 (by decide) (ra) (⟨by omega, by omega⟩) (fun h_9 => ?_) (fun h_9 => ?_)
    · refine lv_iconst (v := zI (-1)) hx hb dX5_at_30 rfl ?_
      exact kret _ _ _ _ _ _ _ _ (⟨congrArg zI (by first | exact (ta_neg (by omega)).symm | exact (ta_out (by omega)).symm), rfl⟩) hW hS (Nat.le_of_ble_eq_true rfl) (Nat.le_of_ble_eq_true rfl) dX5_at_31
    · refine lv_iload_n hx hb dX5_at_12 rfl (lv_at hl 1 rfl) ?_
      refine lv_aload_n hx hb dX5_at_13 rfl (lv_at hl 0 rfl) ?_
      refine g_get (ci := 5) X in_X5_at_5 rfl hW hcx 0 (by decide) (hts _ (List.mem_of_getElem? (i := 2) rfl)) rfl dX5_at_14 ?_
      refine z_alen (t := 0) X hW hFx rfl dX5_at_17 ?_
      refine z_icmp_ge (tgt := 30) hx hb dX5_at_18 (by decide) (ra) (⟨by omega, by omega⟩) (fun h_18 => ?_) (fun h_18 => ?_)
      · refine lv_iconst (v := zI (-1)) hx hb dX5_at_30 rfl ?_
        exact kret _ _ _ _ _ _ _ _ (⟨congrArg zI (by first | exact (ta_neg (by omega)).symm | exact (ta_out (by omega)).symm), rfl⟩) hW hS (Nat.le_of_ble_eq_true rfl) (Nat.le_of_ble_eq_true rfl) dX5_at_31
      · refine lv_aload_n hx hb dX5_at_21 rfl (lv_at hl 0 rfl) ?_
        refine g_get (ci := 5) X in_X5_at_5 rfl hW hcx 0 (by decide) (hts _ (List.mem_of_getElem? (i := 2) rfl)) rfl dX5_at_22 ?_
        refine lv_iload_n hx hb dX5_at_25 rfl (lv_at hl 1 rfl) ?_
        refine z_iald X hW hFx (by omega) (by omega) (by decide) dX5_at_26 ?_
        refine lv_goto (tgt := 31) hx hb dX5_at_27 (by decide) ?_
        exact kret _ _ _ _ _ _ _ _ (⟨by rw [hFv _ (by omega), ta, if_pos (by omega)], rfl⟩) hW hS (Nat.le_of_ble_eq_true rfl) (Nat.le_of_ble_eq_true rfl) dX5_at_31

theorem ds_X5_clear : yX5_clear.cls ≠ "java/lang/invoke/MethodHandle" ∧ yX5_clear.cls ≠ "java/lang/invoke/VarHandle" ∧ (parseMethodDescriptor yX5_clear.desc).map (fun d => d.parameters.length) = some 0 := by decide +kernel
theorem in_X5_clear_5 : ∀ w ∈ wsX50, w ∈ wsX5_clear := by decide +kernel
def rX5_clear : Room := { frames := 0, cells := 0, slots := 0, locals := 0 }
set_option maxHeartbeats 4000000 in
set_option maxRecDepth 100000 in
theorem k_X5_clear {l : Launch} {Z : gZ} {B : gB} {C0 : gC} {k i : Nat} {t : List Int} (ht : tx Z B C0 k i t) : Met l yX5_clear wsX5_clear rX5_clear (gPc Z B C0 [.ref (B k i)]) (gQv Z B (fun C1 => tx Z B C1 k i [] ∧ fr2 k i C0 C1)) 0 0 (gA Z) := by
  refine g_ofV (cc := cX5_clear) (maxL := 1) (by decide) rfl (Nat.le_of_ble_eq_true rfl) ?_
  intro p e s m args below meth c Q X kret hW hS ls hl
  have hx := X.1.1
  have hb := X.1.2.1
  have hts := X.1.2.2.2.2
  have hl : lv_has ls 1 [(0, .ref (B k i))] := hl
  obtain ⟨hlen, hrg, hcx, F, hFx, hFv⟩ := id ht
  refine lv_aload_n hx hb dX5_clear_0 rfl (lv_at hl 0 rfl) ?_
  refine lv_iconst (v := zI (0)) hx hb dX5_clear_1 rfl ?_
  refine g_put (ci := 5) (ty := .int) X in_X5_clear_5 tyX5 tyX5_ok nmX5 rfl hW hS hcx 1 (by decide) (hts _ (List.mem_of_getElem? (i := 1) rfl)) rfl (by decide +kernel) (rfl) (rfl) (Nat.le_of_ble_eq_true rfl) dX5_clear_2 (fun C1 H locs hs2 hn3 hW hS => ?_)
  exact kret _ _ _ _ _ _ _ (⟨⟨by decide, by simp, hs2, F, (hn3 _ _ (by omega)).trans hFx, fun j hj => absurd hj (by simp)⟩, fr2.of1 hn3⟩) hW hS (Nat.le_of_ble_eq_true rfl) (Nat.le_of_ble_eq_true rfl) dX5_clear_5

theorem ds_X5_append : yX5_append.cls ≠ "java/lang/invoke/MethodHandle" ∧ yX5_append.cls ≠ "java/lang/invoke/VarHandle" ∧ (parseMethodDescriptor yX5_append.desc).map (fun d => d.parameters.length) = some 1 := by decide +kernel
theorem in_X5_append_5 : ∀ w ∈ wsX50, w ∈ wsX5_append := by decide +kernel
def rX5_append : Room := { frames := 1, cells := 0, slots := 0, locals := 22 }
set_option maxHeartbeats 4000000 in
set_option maxRecDepth 100000 in
theorem k_X5_append {l : Launch} {Z : gZ} {B : gB} {C0 : gC} {k i : Nat} {t : List Int} {a : Int} (ht : tx Z B C0 k i t) (ha : 0 ≤ a ∧ a < 100) : Met l yX5_append wsX5_append rX5_append (gPc Z B C0 [.ref (B k i), .int (zI a)]) (gQv Z B (fun C1 => tx Z B C1 k i (tap t [a]) ∧ fr2 k i C0 C1)) 0 0 (gA Z) := by
  refine g_ofV (cc := cX5_append) (maxL := 2) (by decide) rfl (Nat.le_of_ble_eq_true rfl) ?_
  intro p e s m args below meth c Q X kret hW hS ls hl
  have hx := X.1.1
  have hb := X.1.2.1
  have hts := X.1.2.2.2.2
  have hl : lv_has ls 2 [(0, .ref (B k i)), (1, .int (zI a))] := hl
  obtain ⟨hlen, hrg, hcx, F, hFx, hFv⟩ := id ht
  refine lv_aload_n hx hb dX5_append_0 rfl (lv_at hl 0 rfl) ?_
  refine g_get (ci := 5) X in_X5_append_5 rfl hW hcx 1 (by decide) (hts _ (List.mem_of_getElem? (i := 1) rfl)) rfl dX5_append_1 ?_
  refine lv_aload_n hx hb dX5_append_4 rfl (lv_at hl 0 rfl) ?_
  refine g_get (ci := 5) X in_X5_append_5 rfl hW hcx 0 (by decide) (hts _ (List.mem_of_getElem? (i := 2) rfl)) rfl dX5_append_5 ?_
  refine z_alen (t := 0) X hW hFx rfl dX5_append_8 ?_
  refine z_icmp_ge (tgt := 34) hx hb dX5_append_9 (by decide) (⟨by omega, by omega⟩) (⟨by omega, by omega⟩) (fun h_9 => ?_) (fun h_9 => ?_)
  · exact kret _ _ _ _ _ _ _ (⟨by rw [show tap t [a] = t from tap_full (by omega) hlen]; exact ht, fr2.rfl'⟩) hW hS (Nat.le_of_ble_eq_true rfl) (Nat.le_of_ble_eq_true rfl) dX5_append_34
  · refine lv_aload_n hx hb dX5_append_12 rfl (lv_at hl 0 rfl) ?_
    refine g_get (ci := 5) X in_X5_append_5 rfl hW hcx 0 (by decide) (hts _ (List.mem_of_getElem? (i := 2) rfl)) rfl dX5_append_13 ?_
    refine lv_aload_n hx hb dX5_append_16 rfl (lv_at hl 0 rfl) ?_
    refine g_get (ci := 5) X in_X5_append_5 rfl hW hcx 1 (by decide) (hts _ (List.mem_of_getElem? (i := 1) rfl)) rfl dX5_append_17 ?_
    refine lv_iload_n hx hb dX5_append_20 rfl (lv_at hl 1 rfl) ?_
    refine g_cv (g_runSN X (k_X7_put (a := (t.length : Int)) (v := a) hFx (by decide) (⟨by omega, by omega⟩)) ⟨va_cnB 3 hts gX5_append_X7_put_n19 rfl rfl rfl (nmw_16 X.2.2.1) (hts _ (List.mem_of_getElem? (i := 4) rfl)) ds_X7_put ⟨Nat.le_of_ble_eq_true rfl, Nat.le_of_ble_eq_true rfl⟩, hts _ (List.mem_of_getElem? (i := 3) rfl), trivial⟩ hW hS rfl hl.1 rfl (Nat.le_of_ble_eq_true rfl) dX5_append_21 ⟨Nat.le_of_ble_eq_true rfl, Nat.le_of_ble_eq_true rfl⟩) hS (fun C1 H locs hp2 hW hS => ?_)
    obtain ⟨hs3, hn4⟩ := hp2
    rw [if_pos (show (0 : Int) ≤ (t.length : Int) ∧ (t.length : Int) < ((24 : Nat) : Int) from ⟨by omega, by omega⟩)] at hs3
    refine lv_aload_n hx hb dX5_append_24 rfl (lv_at hl 0 rfl) ?_
    refine lv_dup hx hb dX5_append_25 rfl ?_
    have f5 : C1 k i = some (.inr (5, [.ref (B (k + 1) i), .int (zI (t.length : Int))])) := ((hn4 k i (by omega)).trans hcx)
    refine g_get (ci := 5) X in_X5_append_5 rfl hW f5 1 (by decide) (hts _ (List.mem_of_getElem? (i := 1) rfl)) rfl dX5_append_26 ?_
    refine lv_iconst (v := zI (1)) hx hb dX5_append_29 rfl ?_
    refine z_iadd hx hb dX5_append_30 ?_
    refine g_put (ci := 5) (ty := .int) X in_X5_append_5 tyX5 tyX5_ok nmX5 rfl hW hS f5 1 (by decide) (hts _ (List.mem_of_getElem? (i := 1) rfl)) rfl (by decide +kernel) (rfl) (rfl) (Nat.le_of_ble_eq_true rfl) dX5_append_31 (fun C6 H locs hs7 hn8 hW hS => ?_)
    exact kret _ _ _ _ _ _ _ (⟨tx_app ht ha (by omega) hFv (hs7) (((hn8 (k + 1) i (by omega)).trans (hs3))), ((fr2.of2 hn4).trans (fr2.of1 hn8))⟩) hW hS (Nat.le_of_ble_eq_true rfl) (Nat.le_of_ble_eq_true rfl) dX5_append_34

theorem ds_X5_appendRow : yX5_appendRow.cls ≠ "java/lang/invoke/MethodHandle" ∧ yX5_appendRow.cls ≠ "java/lang/invoke/VarHandle" ∧ (parseMethodDescriptor yX5_appendRow.desc).map (fun d => d.parameters.length) = some 3 := by decide +kernel
def rX5_appendRow : Room := { frames := 2, cells := 0, slots := 0, locals := 43 }
set_option maxHeartbeats 4000000 in
set_option maxRecDepth 100000 in
theorem k_X5_appendRow {l : Launch} {Z : gZ} {B : gB} {C0 : gC} {k i k2 i2 : Nat} {t t2 : List Int} {a b : Nat} (ht : tx Z B C0 k i t) (ht2 : tx Z B C0 k2 i2 t2) (hd : ¬ i2 = i ∨ k2 + 1 < k ∨ k + 1 < k2) (hab : a ≤ b) (hb2 : b ≤ t2.length) : Met l yX5_appendRow wsX5_appendRow rX5_appendRow (gPc Z B C0 [.ref (B k i), .ref (B k2 i2), .int (zI (a : Int)), .int (zI (b : Int))]) (gQv Z B (fun C1 => tx Z B C1 k i (tap t (seg t2 a b)) ∧ fr2 k i C0 C1)) 0 0 (gA Z) := by
  refine g_ofV (cc := cX5_appendRow) (maxL := 5) (by decide) rfl (Nat.le_of_ble_eq_true rfl) ?_
  intro p e s m args below meth c Q X kret hW hS ls hl
  have hx := X.1.1
  have hb := X.1.2.1
  have hts := X.1.2.2.2.2
  have hl : lv_has ls 5 [(0, .ref (B k i)), (1, .ref (B k2 i2)), (2, .int (zI (a : Int))), (3, .int (zI (b : Int)))] := hl
  have hl2 := ht2.1
  refine lv_iload_n hx hb dX5_appendRow_0 rfl (lv_at hl 2 rfl) ?_
  refine lv_istore (lv' := [(4, .int (zI (a : Int))), (0, .ref (B k i)), (1, .ref (B k2 i2)), (2, .int (zI (a : Int))), (3, .int (zI (b : Int)))]) hx hb dX5_appendRow_1 hl (by decide) rfl (fun ls hl => ?_)
  have lp3 : ∀ (n : Nat) (j : Nat) (Cl : gC) (H : Heap) (locs : List Loc), (b - j < n) → (a ≤ j) → (j ≤ b) → (tx Z B Cl k i (tap t (seg t2 a j))) → (fr2 k i C0 Cl) → gw Z B Cl H → va_S (gA Z) s.heap H locs → ∀ ls : Array Slot, lv_has ls 5 [(0, .ref (B k i)), (1, .ref (B k2 i2)), (2, .int (zI (a : Int))), (3, .int (zI (b : Int))), (4, .int (zI (j : Int)))] → W p l e rX5_appendRow s m args below meth c H locs 0 0 Q (F0 m 3 ls []) := by
    intro n
    induction n with
    | zero =>
      intro j Cl H locs hm haj hjb htl hfl hW hS ls hl
      exact absurd hm (by omega)
    | succ n ih3 =>
      intro j Cl H locs hm haj hjb htl hfl hW hS ls hl
      have htl2 := ht2.fr hfl hd
      have hl2 := ht2.1
      refine lv_iload hx hb dX5_appendRow_3 (lv_at hl 4 rfl) ?_
      refine lv_iload_n hx hb dX5_appendRow_5 rfl (lv_at hl 3 rfl) ?_
      refine z_icmp_ge (tgt := 25) hx hb dX5_appendRow_6 (by decide) (⟨by omega, by omega⟩) (⟨by omega, by omega⟩) (fun h_6 => ?_) (fun h_6 => ?_)
      · exact kret _ _ _ _ _ _ _ (⟨(show j = b by omega) ▸ htl, hfl⟩) hW hS (Nat.le_of_ble_eq_true rfl) (Nat.le_of_ble_eq_true rfl) dX5_appendRow_25
      · refine lv_aload_n hx hb dX5_appendRow_9 rfl (lv_at hl 0 rfl) ?_
        refine lv_aload_n hx hb dX5_appendRow_10 rfl (lv_at hl 1 rfl) ?_
        refine lv_iload hx hb dX5_appendRow_11 (lv_at hl 4 rfl) ?_
        refine g_ci (g_runV X (k_X5_at (t := t2) htl2 (a := (j : Int)) (⟨by omega, by omega⟩)) (cwV 1 hts gX5_appendRow_X5_at rfl rfl rfl ⟨rfl, ds_X5_at⟩ ⟨Nat.le_of_ble_eq_true rfl, Nat.le_of_ble_eq_true rfl⟩) hW hS htl2.2.2.1 rfl rfl hl.1 rfl (Nat.le_of_ble_eq_true rfl) dX5_appendRow_13 ⟨Nat.le_of_ble_eq_true rfl, Nat.le_of_ble_eq_true rfl⟩) hS (fun r3 C1 H locs hp2 hW hS => ?_)
        obtain ⟨rfl, ehp2⟩ := hp2
        rw [ehp2] at hW
        refine g_cv (g_runV X (k_X5_append (t := tap t (seg t2 a j)) htl (a := (ta t2 (j : Int))) (ta_in ht2.2.1 (by omega) (by omega))) (cwV 1 hts gX5_appendRow_X5_append rfl rfl rfl ⟨rfl, ds_X5_append⟩ ⟨Nat.le_of_ble_eq_true rfl, Nat.le_of_ble_eq_true rfl⟩) hW hS htl.2.2.1 rfl rfl hl.1 rfl (Nat.le_of_ble_eq_true rfl) dX5_appendRow_16 ⟨Nat.le_of_ble_eq_true rfl, Nat.le_of_ble_eq_true rfl⟩) hS (fun C4 H locs hp5 hW hS => ?_)
        obtain ⟨ht6, hf7⟩ := hp5
        refine z_iinc (lv' := [(4, .int (zI ((j : Int) + 1))), (0, .ref (B k i)), (1, .ref (B k2 i2)), (2, .int (zI (a : Int))), (3, .int (zI (b : Int)))]) hx hb dX5_appendRow_19 hl (q := 4) rfl (by decide) rfl (fun ls hl => ?_)
        refine lv_goto (tgt := 3) hx hb dX5_appendRow_22 (by decide) ?_
        exact ih3 (j + 1) _ _ _ (by omega) (by omega) (by omega) (by rw [seg_s haj (by omega), ← tap_tap, ← ta_nat]; exact ht6) (hfl.trans hf7) hW hS _ (lv_sub hl [1, 2, 3, 4, 0] rfl)
  exact lp3 (b - a + 1) a _ _ _ (by omega) (Nat.le_refl a) hab (by rw [seg_0, tap_nil ht.1]; exact ht) fr2.rfl' hW hS _ (lv_sub hl [1, 2, 3, 4, 0] rfl)

theorem ds_X5_copyRow : yX5_copyRow.cls ≠ "java/lang/invoke/MethodHandle" ∧ yX5_copyRow.cls ≠ "java/lang/invoke/VarHandle" ∧ (parseMethodDescriptor yX5_copyRow.desc).map (fun d => d.parameters.length) = some 3 := by decide +kernel
def rX5_copyRow : Room := { frames := 3, cells := 0, slots := 0, locals := 67 }
set_option maxHeartbeats 4000000 in
set_option maxRecDepth 100000 in
theorem k_X5_copyRow {l : Launch} {Z : gZ} {B : gB} {C0 : gC} {k i k2 i2 : Nat} {t t2 : List Int} {a b : Nat} (ht : tx Z B C0 k i t) (ht2 : tx Z B C0 k2 i2 t2) (hd : ¬ i2 = i ∨ k2 + 1 < k ∨ k + 1 < k2) (hab : a ≤ b) (hb2 : b ≤ t2.length) : Met l yX5_copyRow wsX5_copyRow rX5_copyRow (gPc Z B C0 [.ref (B k i), .ref (B k2 i2), .int (zI (a : Int)), .int (zI (b : Int))]) (gQv Z B (fun C1 => tx Z B C1 k i (seg t2 a b) ∧ fr2 k i C0 C1)) 0 0 (gA Z) := by
  refine g_ofV (cc := cX5_copyRow) (maxL := 4) (by decide) rfl (Nat.le_of_ble_eq_true rfl) ?_
  intro p e s m args below meth c Q X kret hW hS ls hl
  have hx := X.1.1
  have hb := X.1.2.1
  have hts := X.1.2.2.2.2
  have hl : lv_has ls 4 [(0, .ref (B k i)), (1, .ref (B k2 i2)), (2, .int (zI (a : Int))), (3, .int (zI (b : Int)))] := hl
  refine lv_aload_n hx hb dX5_copyRow_0 rfl (lv_at hl 0 rfl) ?_
  refine g_cv (g_runV X (k_X5_clear (t := t) ht ) (cwV 0 hts gX5_copyRow_X5_clear rfl rfl rfl ⟨rfl, ds_X5_clear⟩ ⟨Nat.le_of_ble_eq_true rfl, Nat.le_of_ble_eq_true rfl⟩) hW hS ht.2.2.1 rfl rfl hl.1 rfl (Nat.le_of_ble_eq_true rfl) dX5_copyRow_1 ⟨Nat.le_of_ble_eq_true rfl, Nat.le_of_ble_eq_true rfl⟩) hS (fun C1 H locs hp2 hW hS => ?_)
  obtain ⟨ht3, hf4⟩ := hp2
  refine lv_aload_n hx hb dX5_copyRow_4 rfl (lv_at hl 0 rfl) ?_
  refine lv_aload_n hx hb dX5_copyRow_5 rfl (lv_at hl 1 rfl) ?_
  refine lv_iload_n hx hb dX5_copyRow_6 rfl (lv_at hl 2 rfl) ?_
  refine lv_iload_n hx hb dX5_copyRow_7 rfl (lv_at hl 3 rfl) ?_
  have ht5 : tx Z B C1 k2 i2 t2 := (tx.kept ht2 (hf4 k2 i2 (by omega)) (hf4 (k2 + 1) i2 (by omega)))
  refine g_cv (g_runV X (k_X5_appendRow (t := []) (t2 := t2) ht3 ht5 (by omega) (a := a) (b := b) (by omega) (by omega)) (cwV 3 hts gX5_copyRow_X5_appendRow rfl rfl rfl ⟨rfl, ds_X5_appendRow⟩ ⟨Nat.le_of_ble_eq_true rfl, Nat.le_of_ble_eq_true rfl⟩) hW hS ht3.2.2.1 rfl rfl hl.1 rfl (Nat.le_of_ble_eq_true rfl) dX5_copyRow_8 ⟨Nat.le_of_ble_eq_true rfl, Nat.le_of_ble_eq_true rfl⟩) hS (fun C6 H locs hp7 hW hS => ?_)
  obtain ⟨ht8, hf9⟩ := hp7
  exact kret _ _ _ _ _ _ _ (⟨(show tap [] (seg t2 a b) = seg t2 a b from tap_of_nil (by have := ht2.1; rw [seg_len hb2]; omega)) ▸ ht8, (hf4.trans hf9)⟩) hW hS (Nat.le_of_ble_eq_true rfl) (Nat.le_of_ble_eq_true rfl) dX5_copyRow_11

theorem ds_X5_copy : yX5_copy.cls ≠ "java/lang/invoke/MethodHandle" ∧ yX5_copy.cls ≠ "java/lang/invoke/VarHandle" ∧ (parseMethodDescriptor yX5_copy.desc).map (fun d => d.parameters.length) = some 1 := by decide +kernel
theorem in_X5_copy_5 : ∀ w ∈ wsX50, w ∈ wsX5_copy := by decide +kernel
def rX5_copy : Room := { frames := 4, cells := 0, slots := 0, locals := 90 }
set_option maxHeartbeats 4000000 in
set_option maxRecDepth 100000 in
theorem k_X5_copy {l : Launch} {Z : gZ} {B : gB} {C0 : gC} {k i k2 i2 : Nat} {t t2 : List Int} (ht : tx Z B C0 k i t) (ht2 : tx Z B C0 k2 i2 t2) (hd : ¬ i2 = i ∨ k2 + 1 < k ∨ k + 1 < k2) : Met l yX5_copy wsX5_copy rX5_copy (gPc Z B C0 [.ref (B k i), .ref (B k2 i2)]) (gQv Z B (fun C1 => tx Z B C1 k i t2 ∧ fr2 k i C0 C1)) 0 0 (gA Z) := by
  refine g_ofV (cc := cX5_copy) (maxL := 2) (by decide) rfl (Nat.le_of_ble_eq_true rfl) ?_
  intro p e s m args below meth c Q X kret hW hS ls hl
  have hx := X.1.1
  have hb := X.1.2.1
  have hts := X.1.2.2.2.2
  have hl : lv_has ls 2 [(0, .ref (B k i)), (1, .ref (B k2 i2))] := hl
  refine lv_aload_n hx hb dX5_copy_0 rfl (lv_at hl 0 rfl) ?_
  refine lv_aload_n hx hb dX5_copy_1 rfl (lv_at hl 1 rfl) ?_
  refine lv_iconst (v := zI (0)) hx hb dX5_copy_2 rfl ?_
  refine lv_aload_n hx hb dX5_copy_3 rfl (lv_at hl 1 rfl) ?_
  refine g_get (ci := 5) X in_X5_copy_5 rfl hW ht2.2.2.1 1 (by decide) (hts _ (List.mem_of_getElem? (i := 1) rfl)) rfl dX5_copy_4 ?_
  refine g_cv (g_runV X (k_X5_copyRow (t := t) (t2 := t2) ht ht2 (by omega) (a := 0) (b := t2.length) (by omega) (by omega)) (cwV 3 hts gX5_copy_X5_copyRow rfl rfl rfl ⟨rfl, ds_X5_copyRow⟩ ⟨Nat.le_of_ble_eq_true rfl, Nat.le_of_ble_eq_true rfl⟩) hW hS ht.2.2.1 rfl rfl hl.1 rfl (Nat.le_of_ble_eq_true rfl) dX5_copy_7 ⟨Nat.le_of_ble_eq_true rfl, Nat.le_of_ble_eq_true rfl⟩) hS (fun C1 H locs hp2 hW hS => ?_)
  obtain ⟨ht3, hf4⟩ := hp2
  exact kret _ _ _ _ _ _ _ (⟨seg_all t2 ▸ ht3, hf4⟩) hW hS (Nat.le_of_ble_eq_true rfl) (Nat.le_of_ble_eq_true rfl) dX5_copy_10

theorem ds_X5_isSameAs : yX5_isSameAs.cls ≠ "java/lang/invoke/MethodHandle" ∧ yX5_isSameAs.cls ≠ "java/lang/invoke/VarHandle" ∧ (parseMethodDescriptor yX5_isSameAs.desc).map (fun d => d.parameters.length) = some 1 := by decide +kernel
theorem in_X5_isSameAs_5 : ∀ w ∈ wsX50, w ∈ wsX5_isSameAs := by decide +kernel
def rX5_isSameAs : Room := { frames := 1, cells := 0, slots := 0, locals := 21 }
set_option maxHeartbeats 4000000 in
set_option maxRecDepth 100000 in
theorem k_X5_isSameAs {l : Launch} {Z : gZ} {B : gB} {C0 : gC} {k i k2 i2 : Nat} {t t2 : List Int} (ht : tx Z B C0 k i t) (ht2 : tx Z B C0 k2 i2 t2) : Met l yX5_isSameAs wsX5_isSameAs rX5_isSameAs (gPc Z B C0 [.ref (B k i), .ref (B k2 i2)]) (gQi Z B (fun r C1 => r = zI (if t = t2 then 1 else 0) ∧ C1 = C0)) 0 0 (gA Z) := by
  refine g_ofZ (cc := cX5_isSameAs) (maxL := 4) (by decide) rfl (Nat.le_of_ble_eq_true rfl) (fun r C1 h => by obtain ⟨h, -⟩ := h; rw [h]; split <;> rfl) ?_
  intro p e s m args below meth c Q X kret hW hS ls hl
  have hx := X.1.1
  have hb := X.1.2.1
  have hts := X.1.2.2.2.2
  have hl : lv_has ls 4 [(0, .ref (B k i)), (1, .ref (B k2 i2))] := hl
  have hl1 := ht.1
  have hl2 := ht2.1
  have lp19 : ∀ (n : Nat) (j : Nat) (f : Int) (H : Heap) (locs : List Loc), (t.length - j < n) → (j ≤ t.length) → ((f = 1 ∧ t.length = t2.length ∧ ∀ q : Nat, q < j → ta t q = ta t2 q) ∨ (f = 0 ∧ ¬ t = t2)) → gw Z B C0 H → va_S (gA Z) s.heap H locs → ∀ ls : Array Slot, lv_has ls 4 [(0, .ref (B k i)), (1, .ref (B k2 i2)), (2, .int (zI f)), (3, .int (zI (j : Int)))] → W p l e rX5_isSameAs s m args below meth c H locs 0 0 Q (F0 m 19 ls []) := by
    intro n
    induction n with
    | zero =>
      intro j f  H locs hm hj hf hW hS ls hl
      exact absurd hm (by omega)
    | succ n ih19 =>
      intro j f  H locs hm hj hf hW hS ls hl
      have hr1 := ta_rng ht.2.1 (j : Int)
      have hr2 := ta_rng ht2.2.1 (j : Int)
      have hfr : 0 ≤ f ∧ f ≤ 1 := by rcases hf with ⟨h, _⟩ | ⟨h, _⟩ <;> omega
      refine lv_iload_n hx hb dX5_isSameAs_19 rfl (lv_at hl 3 rfl) ?_
      refine lv_aload_n hx hb dX5_isSameAs_20 rfl (lv_at hl 0 rfl) ?_
      refine g_get (ci := 5) X in_X5_isSameAs_5 rfl hW ht.2.2.1 1 (by decide) (hts _ (List.mem_of_getElem? (i := 1) rfl)) rfl dX5_isSameAs_21 ?_
      refine z_icmp_ge (tgt := 56) hx hb dX5_isSameAs_24 (by decide) (⟨by omega, by omega⟩) (⟨by omega, by omega⟩) (fun h_24 => ?_) (fun h_24 => ?_)
      · refine lv_iload_n hx hb dX5_isSameAs_56 rfl (lv_at hl 2 rfl) ?_
        exact kret _ _ _ _ _ _ _ _ (⟨by rcases hf with ⟨h1, h2, h3⟩ | ⟨h1, h2⟩; (rw [if_pos (ta_ext h2 (fun q hq => h3 q (by omega))), h1]); (rw [if_neg h2, h1]), rfl⟩) hW hS (Nat.le_of_ble_eq_true rfl) (Nat.le_of_ble_eq_true rfl) dX5_isSameAs_57
      · refine lv_iload_n hx hb dX5_isSameAs_27 rfl (lv_at hl 2 rfl) ?_
        refine z_if_eq (tgt := 56) hx hb dX5_isSameAs_28 (by decide) (⟨by omega, by omega⟩) (fun h_28 => ?_) (fun h_28 => ?_)
        · refine lv_iload_n hx hb dX5_isSameAs_56 rfl (lv_at hl 2 rfl) ?_
          exact kret _ _ _ _ _ _ _ _ (⟨by rcases hf with ⟨h1, h2, h3⟩ | ⟨h1, h2⟩; (rw [if_pos (ta_ext h2 (fun q hq => h3 q (by omega))), h1]); (rw [if_neg h2, h1]), rfl⟩) hW hS (Nat.le_of_ble_eq_true rfl) (Nat.le_of_ble_eq_true rfl) dX5_isSameAs_57
        · refine lv_aload_n hx hb dX5_isSameAs_31 rfl (lv_at hl 0 rfl) ?_
          refine lv_iload_n hx hb dX5_isSameAs_32 rfl (lv_at hl 3 rfl) ?_
          refine g_ci (g_runV X (k_X5_at (t := t) ht (a := (j : Int)) (⟨by omega, by omega⟩)) (cwV 1 hts gX5_isSameAs_X5_at rfl rfl rfl ⟨rfl, ds_X5_at⟩ ⟨Nat.le_of_ble_eq_true rfl, Nat.le_of_ble_eq_true rfl⟩) hW hS ht.2.2.1 rfl rfl hl.1 rfl (Nat.le_of_ble_eq_true rfl) dX5_isSameAs_33 ⟨Nat.le_of_ble_eq_true rfl, Nat.le_of_ble_eq_true rfl⟩) hS (fun r3 C1 H locs hp2 hW hS => ?_)
          obtain ⟨rfl, ehp2⟩ := hp2
          rw [ehp2] at hW
          refine lv_aload_n hx hb dX5_isSameAs_36 rfl (lv_at hl 1 rfl) ?_
          refine lv_iload_n hx hb dX5_isSameAs_37 rfl (lv_at hl 3 rfl) ?_
          refine g_ci (g_runV X (k_X5_at (t := t2) ht2 (a := (j : Int)) (⟨by omega, by omega⟩)) (cwV 1 hts gX5_isSameAs_X5_at rfl rfl rfl ⟨rfl, ds_X5_at⟩ ⟨Nat.le_of_ble_eq_true rfl, Nat.le_of_ble_eq_true rfl⟩) hW hS ht2.2.2.1 rfl rfl hl.1 rfl (Nat.le_of_ble_eq_true rfl) dX5_isSameAs_38 ⟨Nat.le_of_ble_eq_true rfl, Nat.le_of_ble_eq_true rfl⟩) hS (fun r6 C4 H locs hp5 hW hS => ?_)
          obtain ⟨rfl, ehp5⟩ := hp5
          rw [ehp5] at hW
          refine z_icmp_ne (tgt := 48) hx hb dX5_isSameAs_41 (by decide) (⟨by omega, by omega⟩) (⟨by omega, by omega⟩) (fun h_41 => ?_) (fun h_41 => ?_)
          · refine lv_iconst (v := zI (0)) hx hb dX5_isSameAs_48 rfl ?_
            refine lv_istore_n (lv' := [(2, .int (zI 0)), (0, .ref (B k i)), (1, .ref (B k2 i2)), (3, .int (zI (j : Int)))]) hx hb dX5_isSameAs_49 rfl hl (by decide) rfl (fun ls hl => ?_)
            refine z_iinc (lv' := [(3, .int (zI ((j : Int) + 1))), (2, .int (zI 0)), (0, .ref (B k i)), (1, .ref (B k2 i2))]) hx hb dX5_isSameAs_50 hl (q := 3) rfl (by decide) rfl (fun ls hl => ?_)
            refine lv_goto (tgt := 19) hx hb dX5_isSameAs_53 (by decide) ?_
            exact ih19 (j + 1) 0 _ _ (by omega) (by omega) (Or.inr ⟨rfl, fun z => h_41 (by rw [z])⟩) hW hS _ (lv_sub hl [2, 3, 1, 0] rfl)
          · refine lv_iconst (v := zI (1)) hx hb dX5_isSameAs_44 rfl ?_
            refine lv_goto (tgt := 49) hx hb dX5_isSameAs_45 (by decide) ?_
            refine lv_istore_n (lv' := [(2, .int (zI 1)), (0, .ref (B k i)), (1, .ref (B k2 i2)), (3, .int (zI (j : Int)))]) hx hb dX5_isSameAs_49 rfl hl (by decide) rfl (fun ls hl => ?_)
            refine z_iinc (lv' := [(3, .int (zI ((j : Int) + 1))), (2, .int (zI 1)), (0, .ref (B k i)), (1, .ref (B k2 i2))]) hx hb dX5_isSameAs_50 hl (q := 3) rfl (by decide) rfl (fun ls hl => ?_)
            refine lv_goto (tgt := 19) hx hb dX5_isSameAs_53 (by decide) ?_
            exact ih19 (j + 1) 1 _ _ (by omega) (by omega) (by rcases hf with ⟨_, h2, h3⟩ | ⟨h2, _⟩; exact Or.inl ⟨rfl, h2, lt_s h3 h_41⟩; exact absurd h2 h_28) hW hS _ (lv_sub hl [2, 3, 1, 0] rfl)
  refine lv_aload_n hx hb dX5_isSameAs_0 rfl (lv_at hl 0 rfl) ?_
  refine g_get (ci := 5) X in_X5_isSameAs_5 rfl hW ht.2.2.1 1 (by decide) (hts _ (List.mem_of_getElem? (i := 1) rfl)) rfl dX5_isSameAs_1 ?_
  refine lv_aload_n hx hb dX5_isSameAs_4 rfl (lv_at hl 1 rfl) ?_
  refine g_get (ci := 5) X in_X5_isSameAs_5 rfl hW ht2.2.2.1 1 (by decide) (hts _ (List.mem_of_getElem? (i := 1) rfl)) rfl dX5_isSameAs_5 ?_
  refine z_icmp_ne (tgt := 15) hx hb dX5_isSameAs_8 (by decide) (⟨by omega, by omega⟩) (⟨by omega, by omega⟩) (fun h_8 => ?_) (fun h_8 => ?_)
  · refine lv_iconst (v := zI (0)) hx hb dX5_isSameAs_15 rfl ?_
    refine lv_istore_n (lv' := [(2, .int (zI 0)), (0, .ref (B k i)), (1, .ref (B k2 i2))]) hx hb dX5_isSameAs_16 rfl hl (by decide) rfl (fun ls hl => ?_)
    refine lv_iconst (v := zI (0)) hx hb dX5_isSameAs_17 rfl ?_
    refine lv_istore_n (lv' := [(3, .int (zI 0)), (2, .int (zI 0)), (0, .ref (B k i)), (1, .ref (B k2 i2))]) hx hb dX5_isSameAs_18 rfl hl (by decide) rfl (fun ls hl => ?_)
    exact lp19 (t.length + 1) 0 0 _ _ (by omega) (by omega) (Or.inr ⟨rfl, fun z => h_8 (by rw [z])⟩) hW hS _ (lv_sub hl [2, 3, 1, 0] rfl)
  · refine lv_iconst (v := zI (1)) hx hb dX5_isSameAs_11 rfl ?_
    refine lv_goto (tgt := 16) hx hb dX5_isSameAs_12 (by decide) ?_
    refine lv_istore_n (lv' := [(2, .int (zI 1)), (0, .ref (B k i)), (1, .ref (B k2 i2))]) hx hb dX5_isSameAs_16 rfl hl (by decide) rfl (fun ls hl => ?_)
    refine lv_iconst (v := zI (0)) hx hb dX5_isSameAs_17 rfl ?_
    refine lv_istore_n (lv' := [(3, .int (zI 0)), (2, .int (zI 1)), (0, .ref (B k i)), (1, .ref (B k2 i2))]) hx hb dX5_isSameAs_18 rfl hl (by decide) rfl (fun ls hl => ?_)
    exact lp19 (t.length + 1) 0 1 _ _ (by omega) (by omega) (Or.inl ⟨rfl, by omega, fun q hq => absurd hq (by omega)⟩) hW hS _ (lv_sub hl [2, 3, 1, 0] rfl)
