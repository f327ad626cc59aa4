theorem ds_X8_thrown : yX8_thrown.cls ≠ "java/lang/invoke/MethodHandle" ∧ yX8_thrown.cls ≠ "java/lang/invoke/VarHandle" ∧ (parseMethodDescriptor yX8_thrown.desc).map (fun d => d.parameters.length) = some 0 := by decide +kernel
theorem in_X8_thrown_8 : ∀ w ∈ wsX80, w ∈ wsX8_thrown := by decide +kernel
def rX8_thrown : Room := { frames := 0, cells := 0, slots := 0, locals := 0 }
set_option maxHeartbeats 4000000 in
set_option maxRecDepth 100000 in
theorem k_X8_thrown {l : Launch} {Z : gZ} {B : gB} {C0 : gC} {S : gS} {T : gTx} {th : Int} (hmd : md Z B C0 S T th) : Met l yX8_thrown wsX8_thrown rX8_thrown (gPc Z B C0 [.ref (B 70 0)]) (gQi Z B (fun r C1 => r = zI th ∧ C1 = C0)) 0 0 (gA Z) := by
  refine g_ofI (cc := cX8_thrown) (maxL := 1) (by decide) rfl (Nat.le_of_ble_eq_true rfl) ?_
  intro p e s m args below meth c Q X kret hW hS ls hl
  have hx := X.1.1
  have hb := X.1.2.1
  have hts := X.1.2.2.2.2
  have hl : lv_has ls 1 [(0, .ref (B 70 0))] := hl
  obtain ⟨⟨mg, hm70⟩, -⟩ := id hmd
  refine lv_aload_n hx hb dX8_thrown_0 rfl (lv_at hl 0 rfl) ?_
  refine g_get (ci := 8) X in_X8_thrown_8 rfl hW hm70 0 (by decide) (hts _ (List.mem_of_getElem? (i := 1) rfl)) rfl dX8_thrown_1 ?_
  exact kret _ _ _ _ _ _ _ _ (⟨rfl, rfl⟩) hW hS (Nat.le_of_ble_eq_true rfl) (Nat.le_of_ble_eq_true rfl) dX8_thrown_4

theorem md.thrown {Z : gZ} {B : gB} {C C' : gC} {S : gS} {T : gTx} {th v mg : Int} (h : md Z B C S T th) (e : C' 70 0 = mdO B v (S 0 0 : Int) (S 0 1 : Int) (S 0 2 : Int) (S 0 3 : Int) mg) (hf : ∀ k', 71 ≤ k' → k' ≤ 90 → C' k' 0 = C k' 0) : md Z B C' S T v := by
  obtain ⟨-, ⟨F, Fs, a1, a2, a3⟩, b1, b2, b3, b4, b5, b6, b7, b8, b9, b10, b11, b12, b13, b14, c1, c2, c3, c4⟩ := h
  exact ⟨⟨mg, e⟩, ⟨F, Fs, (hf _ (by omega) (by omega)).trans a1, (hf _ (by omega) (by omega)).trans a2, a3⟩, b1.kept (hf _ (by omega) (by omega)), b2.kept (hf _ (by omega) (by omega)), b3.kept (hf _ (by omega) (by omega)), b4.kept (hf _ (by omega) (by omega)), b5.kept (hf _ (by omega) (by omega)), b6.kept (hf _ (by omega) (by omega)), b7.kept (hf _ (by omega) (by omega)), b8.kept (hf _ (by omega) (by omega)), b9.kept (hf _ (by omega) (by omega)), b10.kept (hf _ (by omega) (by omega)), b11.kept (hf _ (by omega) (by omega)), b12.kept (hf _ (by omega) (by omega)), b13.kept (hf _ (by omega) (by omega)), b14.kept (hf _ (by omega) (by omega)), c1.kept (hf _ (by omega) (by omega)), c2.kept (hf _ (by omega) (by omega)), c3.kept (hf _ (by omega) (by omega)), c4.kept (hf _ (by omega) (by omega))⟩

theorem ds_X8_fail : yX8_fail.cls ≠ "java/lang/invoke/MethodHandle" ∧ yX8_fail.cls ≠ "java/lang/invoke/VarHandle" ∧ (parseMethodDescriptor yX8_fail.desc).map (fun d => d.parameters.length) = some 1 := by decide +kernel
theorem in_X8_fail_8 : ∀ w ∈ wsX80, w ∈ wsX8_fail := by decide +kernel
def rX8_fail : Room := { frames := 0, cells := 0, slots := 0, locals := 0 }
set_option maxHeartbeats 4000000 in
set_option maxRecDepth 100000 in
theorem k_X8_fail {l : Launch} {Z : gZ} {B : gB} {C0 : gC} {S : gS} {T : gTx} {th : Int} {v : Int} (hmd : md Z B C0 S T th) : Met l yX8_fail wsX8_fail rX8_fail (gPc Z B C0 [.ref (B 70 0), .int (zI v)]) (gQi Z B (fun r C1 => r = zI 0 ∧ md Z B C1 S T v ∧ fmd C0 C1)) 0 0 (gA Z) := by
  refine g_ofI (cc := cX8_fail) (maxL := 2) (by decide) rfl (Nat.le_of_ble_eq_true rfl) ?_
  intro p e s m args below meth c Q X kret hW hS ls hl
  have hx := X.1.1
  have hb := X.1.2.1
  have hts := X.1.2.2.2.2
  have hl : lv_has ls 2 [(0, .ref (B 70 0)), (1, .int (zI v))] := hl
  obtain ⟨⟨mg, hm70⟩, -⟩ := id hmd
  refine lv_aload_n hx hb dX8_fail_0 rfl (lv_at hl 0 rfl) ?_
  refine lv_iload_n hx hb dX8_fail_1 rfl (lv_at hl 1 rfl) ?_
  refine g_put (ci := 8) (ty := .int) X in_X8_fail_8 tyX8 tyX8_ok nmX8 rfl hW hS hm70 0 (by decide) (hts _ (List.mem_of_getElem? (i := 1) rfl)) rfl (by decide +kernel) (rfl) (rfl) (Nat.le_of_ble_eq_true rfl) dX8_fail_2 (fun C1 H locs hs2 hn3 hW hS => ?_)
  refine lv_iconst (v := zI (0)) hx hb dX8_fail_5 rfl ?_
  exact kret _ _ _ _ _ _ _ _ (⟨rfl, md.thrown hmd hs2 (fun k' h1 h2 => ((hn3 k' 0 (by omega)).trans rfl)), fun k' i' h => (hn3 k' i' (by omega))⟩) hW hS (Nat.le_of_ble_eq_true rfl) (Nat.le_of_ble_eq_true rfl) dX8_fail_6

theorem ds_X8_isIn : yX8_isIn.cls ≠ "java/lang/invoke/MethodHandle" ∧ yX8_isIn.cls ≠ "java/lang/invoke/VarHandle" ∧ (parseMethodDescriptor yX8_isIn.desc).map (fun d => d.parameters.length) = some 3 := by decide +kernel
def rX8_isIn : Room := { frames := 0, cells := 0, slots := 0, locals := 0 }
set_option maxHeartbeats 4000000 in
set_option maxRecDepth 100000 in
theorem k_X8_isIn {l : Launch} {Z : gZ} {B : gB} {C0 : gC} {x a b : Int} (rx : zr x) (ra : zr a) (rb : zr b) : Met l yX8_isIn wsX8_isIn rX8_isIn (gPc Z B C0 [.int (zI x), .int (zI a), .int (zI b)]) (gQi Z B (fun r C1 => r = zI (if a ≤ x ∧ x ≤ b then 1 else 0) ∧ C1 = C0)) 0 0 (gA Z) := by
  refine g_ofZ (cc := cX8_isIn) (maxL := 3) (by decide) rfl (Nat.le_of_ble_eq_true rfl) (fun r C1 h => by obtain ⟨h, -⟩ := h; rw [h]; split <;> rfl) ?_
  intro p e s m args below meth c Q X kret hW hS ls hl
  have hx := X.1.1
  have hb := X.1.2.1
  have hts := X.1.2.2.2.2
  have hl : lv_has ls 3 [(0, .int (zI x)), (1, .int (zI a)), (2, .int (zI b))] := hl
  refine lv_iload_n hx hb dX8_isIn_0 rfl (lv_at hl 0 rfl) ?_
  refine lv_iload_n hx hb dX8_isIn_1 rfl (lv_at hl 1 rfl) ?_
  refine z_icmp_lt (tgt := 14) hx hb dX8_isIn_2 (by decide) (rx) (ra) (fun h_2 => ?_) (fun h_2 => ?_)
  · refine lv_iconst (v := zI (0)) hx hb dX8_isIn_14 rfl ?_
    exact kret _ _ _ _ _ _ _ _ (⟨by rw [if_neg (by omega)], rfl⟩) hW hS (Nat.le_of_ble_eq_true rfl) (Nat.le_of_ble_eq_true rfl) dX8_isIn_15
  · refine lv_iload_n hx hb dX8_isIn_5 rfl (lv_at hl 0 rfl) ?_
    refine lv_iload_n hx hb dX8_isIn_6 rfl (lv_at hl 2 rfl) ?_
    refine z_icmp_gt (tgt := 14) hx hb dX8_isIn_7 (by decide) (rx) (rb) (fun h_7 => ?_) (fun h_7 => ?_)
    · refine lv_iconst (v := zI (0)) hx hb dX8_isIn_14 rfl ?_
      exact kret _ _ _ _ _ _ _ _ (⟨by rw [if_neg (by omega)], rfl⟩) hW hS (Nat.le_of_ble_eq_true rfl) (Nat.le_of_ble_eq_true rfl) dX8_isIn_15
    · refine lv_iconst (v := zI (1)) hx hb dX8_isIn_10 rfl ?_
      refine lv_goto (tgt := 15) hx hb dX8_isIn_11 (by decide) ?_
      exact kret _ _ _ _ _ _ _ _ (⟨by rw [if_pos ⟨by omega, by omega⟩], rfl⟩) hW hS (Nat.le_of_ble_eq_true rfl) (Nat.le_of_ble_eq_true rfl) dX8_isIn_15

theorem ds_X8_isChange : yX8_isChange.cls ≠ "java/lang/invoke/MethodHandle" ∧ yX8_isChange.cls ≠ "java/lang/invoke/VarHandle" ∧ (parseMethodDescriptor yX8_isChange.desc).map (fun d => d.parameters.length) = some 1 := by decide +kernel
theorem in_X8_isChange_8 : ∀ w ∈ wsX80, w ∈ wsX8_isChange := by decide +kernel
def rX8_isChange : Room := { frames := 1, cells := 0, slots := 0, locals := 22 }
set_option maxHeartbeats 4000000 in
set_option maxRecDepth 100000 in
theorem k_X8_isChange {l : Launch} {Z : gZ} {B : gB} {C0 : gC} {S : gS} {T : gTx} {th : Int} {a : Int} (hmd : md Z B C0 S T th) (hwf : wf S T) (ra : zr a) : Met l yX8_isChange wsX8_isChange rX8_isChange (gPc Z B C0 [.ref (B 70 0), .int (zI a)]) (gQi Z B (fun r C1 => r = zI (if isC S a then 1 else 0) ∧ C1 = C0)) 0 0 (gA Z) := by
  refine g_ofZ (cc := cX8_isChange) (maxL := 2) (by decide) rfl (Nat.le_of_ble_eq_true rfl) (fun r C1 h => by obtain ⟨h, -⟩ := h; rw [h]; split <;> rfl) ?_
  intro p e s m args below meth c Q X kret hW hS ls hl
  have hx := X.1.1
  have hb := X.1.2.1
  have hts := X.1.2.2.2.2
  have hl : lv_has ls 2 [(0, .ref (B 70 0)), (1, .int (zI a))] := hl
  obtain ⟨⟨mg, hm70⟩, -⟩ := id hmd
  have hwn := hwf.n
  refine lv_iload_n hx hb dX8_isChange_0 rfl (lv_at hl 1 rfl) ?_
  refine lv_iconst (v := zI (0)) hx hb dX8_isChange_1 rfl ?_
  refine lv_aload_n hx hb dX8_isChange_2 rfl (lv_at hl 0 rfl) ?_
  refine g_get (ci := 8) X in_X8_isChange_8 rfl hW hm70 1 (by decide) (hts _ (List.mem_of_getElem? (i := 1) rfl)) rfl dX8_isChange_3 ?_
  refine lv_iconst (v := zI (1)) hx hb dX8_isChange_6 rfl ?_
  refine z_isub hx hb dX8_isChange_7 ?_
  refine g_ci (g_runS X (k_X8_isIn (B := B) (C0 := C0) (x := a) (a := 0) (b := ((S 0 0 : Int) - 1)) (ra) (⟨by omega, by omega⟩) (⟨by omega, by omega⟩)) (va_cwS 3 hts gX8_isChange_X8_isIn rfl rfl rfl ds_X8_isIn ⟨Nat.le_of_ble_eq_true rfl, Nat.le_of_ble_eq_true rfl⟩) hW hS rfl hl.1 rfl (Nat.le_of_ble_eq_true rfl) dX8_isChange_8 ⟨Nat.le_of_ble_eq_true rfl, Nat.le_of_ble_eq_true rfl⟩) hS (fun r3 C1 H locs hp2 hW hS => ?_)
  obtain ⟨rfl, ehp2⟩ := hp2
  rw [ehp2] at hW
  exact kret _ _ _ _ _ _ _ _ (⟨by by_cases hc : isC S a; (rw [if_pos hc, if_pos (by omega)]); rw [if_neg hc, if_neg (by omega)], rfl⟩) hW hS (Nat.le_of_ble_eq_true rfl) (Nat.le_of_ble_eq_true rfl) dX8_isChange_11

theorem ds_X8_isUser : yX8_isUser.cls ≠ "java/lang/invoke/MethodHandle" ∧ yX8_isUser.cls ≠ "java/lang/invoke/VarHandle" ∧ (parseMethodDescriptor yX8_isUser.desc).map (fun d => d.parameters.length) = some 1 := by decide +kernel
def rX8_isUser : Room := { frames := 1, cells := 0, slots := 0, locals := 22 }
set_option maxHeartbeats 4000000 in
set_option maxRecDepth 100000 in
theorem k_X8_isUser {l : Launch} {Z : gZ} {B : gB} {C0 : gC} {a : Int} (ra : zr a) : Met l yX8_isUser wsX8_isUser rX8_isUser (gPc Z B C0 [.int (zI a)]) (gQi Z B (fun r C1 => r = zI (if isU a then 1 else 0) ∧ C1 = C0)) 0 0 (gA Z) := by
  refine g_ofZ (cc := cX8_isUser) (maxL := 1) (by decide) rfl (Nat.le_of_ble_eq_true rfl) (fun r C1 h => by obtain ⟨h, -⟩ := h; rw [h]; split <;> rfl) ?_
  intro p e s m args below meth c Q X kret hW hS ls hl
  have hx := X.1.1
  have hb := X.1.2.1
  have hts := X.1.2.2.2.2
  have hl : lv_has ls 1 [(0, .int (zI a))] := hl
  refine lv_iload_n hx hb dX8_isUser_0 rfl (lv_at hl 0 rfl) ?_
  refine lv_iconst (v := zI (0)) hx hb dX8_isUser_1 rfl ?_
  refine lv_iconst (v := zI (4)) hx hb dX8_isUser_2 rfl ?_
  refine g_ci (g_runS X (k_X8_isIn (B := B) (C0 := C0) (x := a) (a := 0) (b := 4) (ra) (⟨by omega, by omega⟩) (⟨by omega, by omega⟩)) (va_cwS 3 hts gX8_isUser_X8_isIn rfl rfl rfl ds_X8_isIn ⟨Nat.le_of_ble_eq_true rfl, Nat.le_of_ble_eq_true rfl⟩) hW hS rfl hl.1 rfl (Nat.le_of_ble_eq_true rfl) dX8_isUser_3 ⟨Nat.le_of_ble_eq_true rfl, Nat.le_of_ble_eq_true rfl⟩) hS (fun r3 C1 H locs hp2 hW hS => ?_)
  obtain ⟨rfl, ehp2⟩ := hp2
  rw [ehp2] at hW
  exact kret _ _ _ _ _ _ _ _ (⟨by by_cases hc : isU a; (rw [if_pos hc, if_pos (by omega)]); rw [if_neg hc, if_neg (by omega)], rfl⟩) hW hS (Nat.le_of_ble_eq_true rfl) (Nat.le_of_ble_eq_true rfl) dX8_isUser_6

theorem ds_X8_line : yX8_line.cls ≠ "java/lang/invoke/MethodHandle" ∧ yX8_line.cls ≠ "java/lang/invoke/VarHandle" ∧ (parseMethodDescriptor yX8_line.desc).map (fun d => d.parameters.length) = some 2 := by decide +kernel
theorem in_X8_line_8 : ∀ w ∈ wsX80, w ∈ wsX8_line := by decide +kernel
def rX8_line : Room := { frames := 0, cells := 0, slots := 0, locals := 0 }
set_option maxHeartbeats 4000000 in
set_option maxRecDepth 100000 in
theorem k_X8_line {l : Launch} {Z : gZ} {B : gB} {C0 : gC} {F : Nat → Int} {th nc rg cm ld mg : Int} {a b : Int} (h0 : C0 70 0 = mdO B th nc rg cm ld mg) (h1 : C0 71 0 = some (gJ Z 312 F)) (ha : 0 ≤ a ∧ a < 26) (hbb : 0 ≤ b ∧ b < 12) : Met l yX8_line wsX8_line rX8_line (gPc Z B C0 [.ref (B 70 0), .int (zI a), .int (zI b)]) (gQi Z B (fun r C1 => r = zI (F (12 * a + b).toNat) ∧ C1 = C0)) 0 0 (gA Z) := by
  refine g_ofI (cc := cX8_line) (maxL := 3) (by decide) rfl (Nat.le_of_ble_eq_true rfl) ?_
  intro p e s m args below meth c Q X kret hW hS ls hl
  have hx := X.1.1
  have hb := X.1.2.1
  have hts := X.1.2.2.2.2
  have hl : lv_has ls 3 [(0, .ref (B 70 0)), (1, .int (zI a)), (2, .int (zI b))] := hl
  refine lv_aload_n hx hb dX8_line_0 rfl (lv_at hl 0 rfl) ?_
  refine g_get (ci := 8) X in_X8_line_8 rfl hW h0 5 (by decide) (hts _ (List.mem_of_getElem? (i := 1) rfl)) rfl dX8_line_1 ?_
  refine lv_bipush (v := zI (12)) hx hb dX8_line_4 (by decide) ?_
  refine lv_iload_n hx hb dX8_line_6 rfl (lv_at hl 1 rfl) ?_
  refine z_imul hx hb dX8_line_7 ?_
  refine lv_iload_n hx hb dX8_line_8 rfl (lv_at hl 2 rfl) ?_
  refine z_iadd hx hb dX8_line_9 ?_
  refine z_iald X hW h1 (by omega) (by omega) (by omega) dX8_line_10 ?_
  exact kret _ _ _ _ _ _ _ _ (⟨rfl, rfl⟩) hW hS (Nat.le_of_ble_eq_true rfl) (Nat.le_of_ble_eq_true rfl) dX8_line_11

theorem ds_X8_slot : yX8_slot.cls ≠ "java/lang/invoke/MethodHandle" ∧ yX8_slot.cls ≠ "java/lang/invoke/VarHandle" ∧ (parseMethodDescriptor yX8_slot.desc).map (fun d => d.parameters.length) = some 2 := by decide +kernel
def rX8_slot : Room := { frames := 0, cells := 0, slots := 0, locals := 0 }
set_option maxHeartbeats 4000000 in
set_option maxRecDepth 100000 in
theorem k_X8_slot {l : Launch} {Z : gZ} {B : gB} {C0 : gC} {a b : Int} : Met l yX8_slot wsX8_slot rX8_slot (gPc Z B C0 [.int (zI a), .int (zI b)]) (gQi Z B (fun r C1 => r = zI (9 + 4 * a + b) ∧ C1 = C0)) 0 0 (gA Z) := by
  refine g_ofI (cc := cX8_slot) (maxL := 2) (by decide) rfl (Nat.le_of_ble_eq_true rfl) ?_
  intro p e s m args below meth c Q X kret hW hS ls hl
  have hx := X.1.1
  have hb := X.1.2.1
  have hts := X.1.2.2.2.2
  have hl : lv_has ls 2 [(0, .int (zI a)), (1, .int (zI b))] := hl
  refine lv_bipush (v := zI (9)) hx hb dX8_slot_0 (by decide) ?_
  refine lv_iconst (v := zI (4)) hx hb dX8_slot_2 rfl ?_
  refine lv_iload_n hx hb dX8_slot_3 rfl (lv_at hl 0 rfl) ?_
  refine z_imul hx hb dX8_slot_4 ?_
  refine z_iadd hx hb dX8_slot_5 ?_
  refine lv_iload_n hx hb dX8_slot_6 rfl (lv_at hl 1 rfl) ?_
  refine z_iadd hx hb dX8_slot_7 ?_
  exact kret _ _ _ _ _ _ _ _ (⟨rfl, rfl⟩) hW hS (Nat.le_of_ble_eq_true rfl) (Nat.le_of_ble_eq_true rfl) dX8_slot_8
