/-! SETS AS BITS (less than 32, places less than 5) -/
def bset (n j : Nat) : Nat := n ||| 2 ^ j
def bclr (n j : Nat) : Nat := if n.testBit j then n - 2 ^ j else n
def bcnt (n : Nat) : Nat := (n.testBit 0).toNat + (n.testBit 1).toNat + (n.testBit 2).toNat + (n.testBit 3).toNat + (n.testBit 4).toNat
theorem hb_1 : ∀ n : Fin 32, ∀ j : Fin 5, n.val.testBit j.val = true → ¬ (zI (n.val : Int) >>> (zI (j.val : Int) &&& 31)) &&& 1 = 0 := by decide +kernel
theorem hb_0 : ∀ n : Fin 32, ∀ j : Fin 5, n.val.testBit j.val = false → (zI (n.val : Int) >>> (zI (j.val : Int) &&& 31)) &&& 1 = 0 := by decide +kernel
theorem wb_1 : ∀ n : Fin 32, ∀ j : Fin 5, zI (n.val : Int) ||| ((1 : Int32) <<< (zI (j.val : Int) &&& 31)) = zI (bset n.val j.val : Int) := by decide +kernel
theorem wo_1 : ∀ n : Fin 32, ∀ j : Fin 5, zI (n.val : Int) &&& (((1 : Int32) <<< (zI (j.val : Int) &&& 31)) ^^^ (-1)) = zI (bclr n.val j.val : Int) := by decide +kernel
theorem bset_lt : ∀ n : Fin 32, ∀ j : Fin 5, bset n.val j.val < 32 := by decide +kernel
theorem bclr_lt : ∀ n : Fin 32, ∀ j : Fin 5, bclr n.val j.val < 32 := by decide +kernel
theorem bset_l {n j : Nat} (hn : n < 32) (hj : j < 5) : bset n j < 32 := bset_lt ⟨n, hn⟩ ⟨j, hj⟩
theorem bclr_l {n j : Nat} (hn : n < 32) (hj : j < 5) : bclr n j < 32 := bclr_lt ⟨n, hn⟩ ⟨j, hj⟩
theorem bset_t (n j i : Nat) : (bset n j).testBit i = (n.testBit i || decide (j = i)) := by
  unfold bset
  rw [Nat.testBit_or, Nat.testBit_two_pow]
theorem bclr_t' : ∀ n : Fin 32, ∀ j : Fin 5, ∀ i : Fin 5, (bclr n.val j.val).testBit i.val = (n.val.testBit i.val && !decide (j.val = i.val)) := by decide +kernel
theorem bclr_t {n j i : Nat} (hn : n < 32) (hj : j < 5) (hi : i < 5) : (bclr n j).testBit i = (n.testBit i && !decide (j = i)) := bclr_t' ⟨n, hn⟩ ⟨j, hj⟩ ⟨i, hi⟩

theorem ds_X7_hasBit : yX7_hasBit.cls ≠ "java/lang/invoke/MethodHandle" ∧ yX7_hasBit.cls ≠ "java/lang/invoke/VarHandle" ∧ (parseMethodDescriptor yX7_hasBit.desc).map (fun d => d.parameters.length) = some 2 := by decide +kernel
def rX7_hasBit : Room := { frames := 0, cells := 0, slots := 0, locals := 0 }
set_option maxHeartbeats 4000000 in
set_option maxRecDepth 100000 in
theorem k_X7_hasBit {l : Launch} {Z : gZ} {B : gB} {C0 : gC} {nb jb : Nat} (hn32 : nb < 32) (hj5 : jb < 5) : Met l yX7_hasBit wsX7_hasBit rX7_hasBit (gPc Z B C0 [.int (zI (nb : Int)), .int (zI (jb : Int))]) (gQi Z B (fun r C1 => r = zI (if nb.testBit jb = true then 1 else 0) ∧ C1 = C0)) 0 0 (gA Z) := by
  refine g_ofZ (cc := cX7_hasBit) (maxL := 2) (by decide) rfl (Nat.le_of_ble_eq_true rfl) (fun r C1 h => by obtain ⟨h, -⟩ := h; rw [h]; split <;> rfl) ?_
  intro p e s m args below meth c Q X kret hW hS ls hl
  have hx := X.1.1
  have hb := X.1.2.1
  have hts := X.1.2.2.2.2
  have hl : lv_has ls 2 [(0, .int (zI (nb : Int))), (1, .int (zI (jb : Int)))] := hl
  refine lv_iload_n hx hb dX7_hasBit_0 rfl (lv_at hl 0 rfl) ?_
  refine lv_iload_n hx hb dX7_hasBit_1 rfl (lv_at hl 1 rfl) ?_
  refine lv_ishr hx hb dX7_hasBit_2 ?_
  refine lv_iconst (v := (1 : Int32)) hx hb dX7_hasBit_3 (by decide) ?_
  refine lv_iand hx hb dX7_hasBit_4 ?_
  refine lv_if_eq (tgt := 12) hx hb dX7_hasBit_5 (by decide) (fun h_5 => ?_) (fun h_5 => ?_)
  · refine lv_iconst (v := (0 : Int32)) hx hb dX7_hasBit_12 (by decide) ?_
    exact kret _ _ _ _ _ _ _ _ (⟨by rw [if_neg (fun hq => hb_1 ⟨nb, hn32⟩ ⟨jb, hj5⟩ hq h_5)]; rfl, rfl⟩) hW hS (Nat.le_of_ble_eq_true rfl) (Nat.le_of_ble_eq_true rfl) dX7_hasBit_13
  · refine lv_iconst (v := (1 : Int32)) hx hb dX7_hasBit_8 (by decide) ?_
    refine lv_goto (tgt := 13) hx hb dX7_hasBit_9 (by decide) ?_
    exact kret _ _ _ _ _ _ _ _ (⟨by rw [if_pos (by cases hq : nb.testBit jb; exact absurd (hb_0 ⟨nb, hn32⟩ ⟨jb, hj5⟩ hq) h_5; rfl)]; rfl, rfl⟩) hW hS (Nat.le_of_ble_eq_true rfl) (Nat.le_of_ble_eq_true rfl) dX7_hasBit_13

theorem ds_X7_withBit : yX7_withBit.cls ≠ "java/lang/invoke/MethodHandle" ∧ yX7_withBit.cls ≠ "java/lang/invoke/VarHandle" ∧ (parseMethodDescriptor yX7_withBit.desc).map (fun d => d.parameters.length) = some 2 := by decide +kernel
def rX7_withBit : Room := { frames := 0, cells := 0, slots := 0, locals := 0 }
set_option maxHeartbeats 4000000 in
set_option maxRecDepth 100000 in
theorem k_X7_withBit {l : Launch} {Z : gZ} {B : gB} {C0 : gC} {nb jb : Nat} (hn32 : nb < 32) (hj5 : jb < 5) : Met l yX7_withBit wsX7_withBit rX7_withBit (gPc Z B C0 [.int (zI (nb : Int)), .int (zI (jb : Int))]) (gQi Z B (fun r C1 => r = zI (bset nb jb : Int) ∧ C1 = C0)) 0 0 (gA Z) := by
  refine g_ofI (cc := cX7_withBit) (maxL := 2) (by decide) rfl (Nat.le_of_ble_eq_true rfl) ?_
  intro p e s m args below meth c Q X kret hW hS ls hl
  have hx := X.1.1
  have hb := X.1.2.1
  have hts := X.1.2.2.2.2
  have hl : lv_has ls 2 [(0, .int (zI (nb : Int))), (1, .int (zI (jb : Int)))] := hl
  refine lv_iload_n hx hb dX7_withBit_0 rfl (lv_at hl 0 rfl) ?_
  refine lv_iconst (v := (1 : Int32)) hx hb dX7_withBit_1 (by decide) ?_
  refine lv_iload_n hx hb dX7_withBit_2 rfl (lv_at hl 1 rfl) ?_
  refine lv_ishl hx hb dX7_withBit_3 ?_
  refine lv_ior hx hb dX7_withBit_4 ?_
  exact kret _ _ _ _ _ _ _ _ (⟨wb_1 ⟨nb, hn32⟩ ⟨jb, hj5⟩, rfl⟩) hW hS (Nat.le_of_ble_eq_true rfl) (Nat.le_of_ble_eq_true rfl) dX7_withBit_5

theorem ds_X7_withoutBit : yX7_withoutBit.cls ≠ "java/lang/invoke/MethodHandle" ∧ yX7_withoutBit.cls ≠ "java/lang/invoke/VarHandle" ∧ (parseMethodDescriptor yX7_withoutBit.desc).map (fun d => d.parameters.length) = some 2 := by decide +kernel
def rX7_withoutBit : Room := { frames := 0, cells := 0, slots := 0, locals := 0 }
set_option maxHeartbeats 4000000 in
set_option maxRecDepth 100000 in
theorem k_X7_withoutBit {l : Launch} {Z : gZ} {B : gB} {C0 : gC} {nb jb : Nat} (hn32 : nb < 32) (hj5 : jb < 5) : Met l yX7_withoutBit wsX7_withoutBit rX7_withoutBit (gPc Z B C0 [.int (zI (nb : Int)), .int (zI (jb : Int))]) (gQi Z B (fun r C1 => r = zI (bclr nb jb : Int) ∧ C1 = C0)) 0 0 (gA Z) := by
  refine g_ofI (cc := cX7_withoutBit) (maxL := 2) (by decide) rfl (Nat.le_of_ble_eq_true rfl) ?_
  intro p e s m args below meth c Q X kret hW hS ls hl
  have hx := X.1.1
  have hb := X.1.2.1
  have hts := X.1.2.2.2.2
  have hl : lv_has ls 2 [(0, .int (zI (nb : Int))), (1, .int (zI (jb : Int)))] := hl
  refine lv_iload_n hx hb dX7_withoutBit_0 rfl (lv_at hl 0 rfl) ?_
  refine lv_iconst (v := (1 : Int32)) hx hb dX7_withoutBit_1 (by decide) ?_
  refine lv_iload_n hx hb dX7_withoutBit_2 rfl (lv_at hl 1 rfl) ?_
  refine lv_ishl hx hb dX7_withoutBit_3 ?_
  refine lv_iconst (v := (-1 : Int32)) hx hb dX7_withoutBit_4 (by decide) ?_
  refine lv_ixor hx hb dX7_withoutBit_5 ?_
  refine lv_iand hx hb dX7_withoutBit_6 ?_
  exact kret _ _ _ _ _ _ _ _ (⟨wo_1 ⟨nb, hn32⟩ ⟨jb, hj5⟩, rfl⟩) hW hS (Nat.le_of_ble_eq_true rfl) (Nat.le_of_ble_eq_true rfl) dX7_withoutBit_7

theorem bc_1 : ∀ n : Fin 32, (((((((((zI (n.val : Int)) - ((((zI (n.val : Int)).toUInt32 >>> ((1 : Int32).toUInt32 &&& Int32.toUInt32 31)).toInt32) &&& (1431655765 : Int32))) &&& (858993459 : Int32)) + (((((zI (n.val : Int)) - ((((zI (n.val : Int)).toUInt32 >>> ((1 : Int32).toUInt32 &&& Int32.toUInt32 31)).toInt32) &&& (1431655765 : Int32))).toUInt32 >>> ((2 : Int32).toUInt32 &&& Int32.toUInt32 31)).toInt32) &&& (858993459 : Int32))) + ((((((zI (n.val : Int)) - ((((zI (n.val : Int)).toUInt32 >>> ((1 : Int32).toUInt32 &&& Int32.toUInt32 31)).toInt32) &&& (1431655765 : Int32))) &&& (858993459 : Int32)) + (((((zI (n.val : Int)) - ((((zI (n.val : Int)).toUInt32 >>> ((1 : Int32).toUInt32 &&& Int32.toUInt32 31)).toInt32) &&& (1431655765 : Int32))).toUInt32 >>> ((2 : Int32).toUInt32 &&& Int32.toUInt32 31)).toInt32) &&& (858993459 : Int32))).toUInt32 >>> ((4 : Int32).toUInt32 &&& Int32.toUInt32 31)).toInt32)) &&& (252645135 : Int32)) + ((((((((zI (n.val : Int)) - ((((zI (n.val : Int)).toUInt32 >>> ((1 : Int32).toUInt32 &&& Int32.toUInt32 31)).toInt32) &&& (1431655765 : Int32))) &&& (858993459 : Int32)) + (((((zI (n.val : Int)) - ((((zI (n.val : Int)).toUInt32 >>> ((1 : Int32).toUInt32 &&& Int32.toUInt32 31)).toInt32) &&& (1431655765 : Int32))).toUInt32 >>> ((2 : Int32).toUInt32 &&& Int32.toUInt32 31)).toInt32) &&& (858993459 : Int32))) + ((((((zI (n.val : Int)) - ((((zI (n.val : Int)).toUInt32 >>> ((1 : Int32).toUInt32 &&& Int32.toUInt32 31)).toInt32) &&& (1431655765 : Int32))) &&& (858993459 : Int32)) + (((((zI (n.val : Int)) - ((((zI (n.val : Int)).toUInt32 >>> ((1 : Int32).toUInt32 &&& Int32.toUInt32 31)).toInt32) &&& (1431655765 : Int32))).toUInt32 >>> ((2 : Int32).toUInt32 &&& Int32.toUInt32 31)).toInt32) &&& (858993459 : Int32))).toUInt32 >>> ((4 : Int32).toUInt32 &&& Int32.toUInt32 31)).toInt32)) &&& (252645135 : Int32)).toUInt32 >>> ((8 : Int32).toUInt32 &&& Int32.toUInt32 31)).toInt32)) + (((((((((zI (n.val : Int)) - ((((zI (n.val : Int)).toUInt32 >>> ((1 : Int32).toUInt32 &&& Int32.toUInt32 31)).toInt32) &&& (1431655765 : Int32))) &&& (858993459 : Int32)) + (((((zI (n.val : Int)) - ((((zI (n.val : Int)).toUInt32 >>> ((1 : Int32).toUInt32 &&& Int32.toUInt32 31)).toInt32) &&& (1431655765 : Int32))).toUInt32 >>> ((2 : Int32).toUInt32 &&& Int32.toUInt32 31)).toInt32) &&& (858993459 : Int32))) + ((((((zI (n.val : Int)) - ((((zI (n.val : Int)).toUInt32 >>> ((1 : Int32).toUInt32 &&& Int32.toUInt32 31)).toInt32) &&& (1431655765 : Int32))) &&& (858993459 : Int32)) + (((((zI (n.val : Int)) - ((((zI (n.val : Int)).toUInt32 >>> ((1 : Int32).toUInt32 &&& Int32.toUInt32 31)).toInt32) &&& (1431655765 : Int32))).toUInt32 >>> ((2 : Int32).toUInt32 &&& Int32.toUInt32 31)).toInt32) &&& (858993459 : Int32))).toUInt32 >>> ((4 : Int32).toUInt32 &&& Int32.toUInt32 31)).toInt32)) &&& (252645135 : Int32)) + ((((((((zI (n.val : Int)) - ((((zI (n.val : Int)).toUInt32 >>> ((1 : Int32).toUInt32 &&& Int32.toUInt32 31)).toInt32) &&& (1431655765 : Int32))) &&& (858993459 : Int32)) + (((((zI (n.val : Int)) - ((((zI (n.val : Int)).toUInt32 >>> ((1 : Int32).toUInt32 &&& Int32.toUInt32 31)).toInt32) &&& (1431655765 : Int32))).toUInt32 >>> ((2 : Int32).toUInt32 &&& Int32.toUInt32 31)).toInt32) &&& (858993459 : Int32))) + ((((((zI (n.val : Int)) - ((((zI (n.val : Int)).toUInt32 >>> ((1 : Int32).toUInt32 &&& Int32.toUInt32 31)).toInt32) &&& (1431655765 : Int32))) &&& (858993459 : Int32)) + (((((zI (n.val : Int)) - ((((zI (n.val : Int)).toUInt32 >>> ((1 : Int32).toUInt32 &&& Int32.toUInt32 31)).toInt32) &&& (1431655765 : Int32))).toUInt32 >>> ((2 : Int32).toUInt32 &&& Int32.toUInt32 31)).toInt32) &&& (858993459 : Int32))).toUInt32 >>> ((4 : Int32).toUInt32 &&& Int32.toUInt32 31)).toInt32)) &&& (252645135 : Int32)).toUInt32 >>> ((8 : Int32).toUInt32 &&& Int32.toUInt32 31)).toInt32)).toUInt32 >>> ((16 : Int32).toUInt32 &&& Int32.toUInt32 31)).toInt32)) &&& (63 : Int32)) = zI (bcnt n.val : Int) := by decide +kernel
theorem ds_J6_bitCount_0f7a4 : yJ6_bitCount_0f7a4.cls ≠ "java/lang/invoke/MethodHandle" ∧ yJ6_bitCount_0f7a4.cls ≠ "java/lang/invoke/VarHandle" ∧ (parseMethodDescriptor yJ6_bitCount_0f7a4.desc).map (fun d => d.parameters.length) = some 1 := by decide +kernel
def rJ6_bitCount_0f7a4 : Room := { frames := 0, cells := 0, slots := 0, locals := 0 }
set_option maxHeartbeats 4000000 in
set_option maxRecDepth 100000 in
theorem k_J6_bitCount_0f7a4 {l : Launch} {Z : gZ} {B : gB} {C0 : gC} {nb : Nat} (hn32 : nb < 32) : Met l yJ6_bitCount_0f7a4 wsJ6_bitCount_0f7a4 rJ6_bitCount_0f7a4 (gPc Z B C0 [.int (zI (nb : Int))]) (gQi Z B (fun r C1 => r = zI (bcnt nb : Int) ∧ C1 = C0)) 0 0 (gA Z) := by
  refine g_ofI (cc := cJ6_bitCount_0f7a4) (maxL := 1) (by decide) rfl (Nat.le_of_ble_eq_true rfl) ?_
  intro p e s m args below meth c Q X kret hW hS ls hl
  have hx := X.1.1
  have hb := X.1.2.1
  have hts := X.1.2.2.2.2
  have hl : lv_has ls 1 [(0, .int (zI (nb : Int)))] := hl
  refine lv_iload_n hx hb dJ6_bitCount_0f7a4_0 rfl (lv_at hl 0 rfl) ?_
  refine lv_iload_n hx hb dJ6_bitCount_0f7a4_1 rfl (lv_at hl 0 rfl) ?_
  refine lv_iconst (v := (1 : Int32)) hx hb dJ6_bitCount_0f7a4_2 (by decide) ?_
  refine lv_iushr hx hb dJ6_bitCount_0f7a4_3 rfl ?_
  refine lv_ldcw (v := 1431655765) hx hb X.1.2.2.2.1 (hts _ (List.mem_of_getElem? (i := 1) rfl)) dJ6_bitCount_0f7a4_4 ?_
  refine lv_iand hx hb dJ6_bitCount_0f7a4_7 ?_
  refine lv_isub hx hb dJ6_bitCount_0f7a4_8 ?_
  refine lv_istore_n (lv' := [(0, .int ((zI (nb : Int)) - ((((zI (nb : Int)).toUInt32 >>> ((1 : Int32).toUInt32 &&& Int32.toUInt32 31)).toInt32) &&& (1431655765 : Int32))))]) hx hb dJ6_bitCount_0f7a4_9 rfl hl (by decide) rfl (fun ls hl => ?_)
  refine lv_iload_n hx hb dJ6_bitCount_0f7a4_10 rfl (lv_at hl 0 rfl) ?_
  refine lv_ldcw (v := 858993459) hx hb X.1.2.2.2.1 (hts _ (List.mem_of_getElem? (i := 2) rfl)) dJ6_bitCount_0f7a4_11 ?_
  refine lv_iand hx hb dJ6_bitCount_0f7a4_14 ?_
  refine lv_iload_n hx hb dJ6_bitCount_0f7a4_15 rfl (lv_at hl 0 rfl) ?_
  refine lv_iconst (v := (2 : Int32)) hx hb dJ6_bitCount_0f7a4_16 (by decide) ?_
  refine lv_iushr hx hb dJ6_bitCount_0f7a4_17 rfl ?_
  refine lv_ldcw (v := 858993459) hx hb X.1.2.2.2.1 (hts _ (List.mem_of_getElem? (i := 2) rfl)) dJ6_bitCount_0f7a4_18 ?_
  refine lv_iand hx hb dJ6_bitCount_0f7a4_21 ?_
  refine lv_iadd hx hb dJ6_bitCount_0f7a4_22 ?_
  refine lv_istore_n (lv' := [(0, .int ((((zI (nb : Int)) - ((((zI (nb : Int)).toUInt32 >>> ((1 : Int32).toUInt32 &&& Int32.toUInt32 31)).toInt32) &&& (1431655765 : Int32))) &&& (858993459 : Int32)) + (((((zI (nb : Int)) - ((((zI (nb : Int)).toUInt32 >>> ((1 : Int32).toUInt32 &&& Int32.toUInt32 31)).toInt32) &&& (1431655765 : Int32))).toUInt32 >>> ((2 : Int32).toUInt32 &&& Int32.toUInt32 31)).toInt32) &&& (858993459 : Int32))))]) hx hb dJ6_bitCount_0f7a4_23 rfl hl (by decide) rfl (fun ls hl => ?_)
  refine lv_iload_n hx hb dJ6_bitCount_0f7a4_24 rfl (lv_at hl 0 rfl) ?_
  refine lv_iload_n hx hb dJ6_bitCount_0f7a4_25 rfl (lv_at hl 0 rfl) ?_
  refine lv_iconst (v := (4 : Int32)) hx hb dJ6_bitCount_0f7a4_26 (by decide) ?_
  refine lv_iushr hx hb dJ6_bitCount_0f7a4_27 rfl ?_
  refine lv_iadd hx hb dJ6_bitCount_0f7a4_28 ?_
  refine lv_ldcw (v := 252645135) hx hb X.1.2.2.2.1 (hts _ (List.mem_of_getElem? (i := 3) rfl)) dJ6_bitCount_0f7a4_29 ?_
  refine lv_iand hx hb dJ6_bitCount_0f7a4_32 ?_
  refine lv_istore_n (lv' := [(0, .int ((((((zI (nb : Int)) - ((((zI (nb : Int)).toUInt32 >>> ((1 : Int32).toUInt32 &&& Int32.toUInt32 31)).toInt32) &&& (1431655765 : Int32))) &&& (858993459 : Int32)) + (((((zI (nb : Int)) - ((((zI (nb : Int)).toUInt32 >>> ((1 : Int32).toUInt32 &&& Int32.toUInt32 31)).toInt32) &&& (1431655765 : Int32))).toUInt32 >>> ((2 : Int32).toUInt32 &&& Int32.toUInt32 31)).toInt32) &&& (858993459 : Int32))) + ((((((zI (nb : Int)) - ((((zI (nb : Int)).toUInt32 >>> ((1 : Int32).toUInt32 &&& Int32.toUInt32 31)).toInt32) &&& (1431655765 : Int32))) &&& (858993459 : Int32)) + (((((zI (nb : Int)) - ((((zI (nb : Int)).toUInt32 >>> ((1 : Int32).toUInt32 &&& Int32.toUInt32 31)).toInt32) &&& (1431655765 : Int32))).toUInt32 >>> ((2 : Int32).toUInt32 &&& Int32.toUInt32 31)).toInt32) &&& (858993459 : Int32))).toUInt32 >>> ((4 : Int32).toUInt32 &&& Int32.toUInt32 31)).toInt32)) &&& (252645135 : Int32)))]) hx hb dJ6_bitCount_0f7a4_33 rfl hl (by decide) rfl (fun ls hl => ?_)
  refine lv_iload_n hx hb dJ6_bitCount_0f7a4_34 rfl (lv_at hl 0 rfl) ?_
  refine lv_iload_n hx hb dJ6_bitCount_0f7a4_35 rfl (lv_at hl 0 rfl) ?_
  refine lv_bipush (v := (8 : Int32)) hx hb dJ6_bitCount_0f7a4_36 (by decide) ?_
  refine lv_iushr hx hb dJ6_bitCount_0f7a4_38 rfl ?_
  refine lv_iadd hx hb dJ6_bitCount_0f7a4_39 ?_
  refine lv_istore_n (lv' := [(0, .int (((((((zI (nb : Int)) - ((((zI (nb : Int)).toUInt32 >>> ((1 : Int32).toUInt32 &&& Int32.toUInt32 31)).toInt32) &&& (1431655765 : Int32))) &&& (858993459 : Int32)) + (((((zI (nb : Int)) - ((((zI (nb : Int)).toUInt32 >>> ((1 : Int32).toUInt32 &&& Int32.toUInt32 31)).toInt32) &&& (1431655765 : Int32))).toUInt32 >>> ((2 : Int32).toUInt32 &&& Int32.toUInt32 31)).toInt32) &&& (858993459 : Int32))) + ((((((zI (nb : Int)) - ((((zI (nb : Int)).toUInt32 >>> ((1 : Int32).toUInt32 &&& Int32.toUInt32 31)).toInt32) &&& (1431655765 : Int32))) &&& (858993459 : Int32)) + (((((zI (nb : Int)) - ((((zI (nb : Int)).toUInt32 >>> ((1 : Int32).toUInt32 &&& Int32.toUInt32 31)).toInt32) &&& (1431655765 : Int32))).toUInt32 >>> ((2 : Int32).toUInt32 &&& Int32.toUInt32 31)).toInt32) &&& (858993459 : Int32))).toUInt32 >>> ((4 : Int32).toUInt32 &&& Int32.toUInt32 31)).toInt32)) &&& (252645135 : Int32)) + ((((((((zI (nb : Int)) - ((((zI (nb : Int)).toUInt32 >>> ((1 : Int32).toUInt32 &&& Int32.toUInt32 31)).toInt32) &&& (1431655765 : Int32))) &&& (858993459 : Int32)) + (((((zI (nb : Int)) - ((((zI (nb : Int)).toUInt32 >>> ((1 : Int32).toUInt32 &&& Int32.toUInt32 31)).toInt32) &&& (1431655765 : Int32))).toUInt32 >>> ((2 : Int32).toUInt32 &&& Int32.toUInt32 31)).toInt32) &&& (858993459 : Int32))) + ((((((zI (nb : Int)) - ((((zI (nb : Int)).toUInt32 >>> ((1 : Int32).toUInt32 &&& Int32.toUInt32 31)).toInt32) &&& (1431655765 : Int32))) &&& (858993459 : Int32)) + (((((zI (nb : Int)) - ((((zI (nb : Int)).toUInt32 >>> ((1 : Int32).toUInt32 &&& Int32.toUInt32 31)).toInt32) &&& (1431655765 : Int32))).toUInt32 >>> ((2 : Int32).toUInt32 &&& Int32.toUInt32 31)).toInt32) &&& (858993459 : Int32))).toUInt32 >>> ((4 : Int32).toUInt32 &&& Int32.toUInt32 31)).toInt32)) &&& (252645135 : Int32)).toUInt32 >>> ((8 : Int32).toUInt32 &&& Int32.toUInt32 31)).toInt32)))]) hx hb dJ6_bitCount_0f7a4_40 rfl hl (by decide) rfl (fun ls hl => ?_)
  refine lv_iload_n hx hb dJ6_bitCount_0f7a4_41 rfl (lv_at hl 0 rfl) ?_
  refine lv_iload_n hx hb dJ6_bitCount_0f7a4_42 rfl (lv_at hl 0 rfl) ?_
  refine lv_bipush (v := (16 : Int32)) hx hb dJ6_bitCount_0f7a4_43 (by decide) ?_
  refine lv_iushr hx hb dJ6_bitCount_0f7a4_45 rfl ?_
  refine lv_iadd hx hb dJ6_bitCount_0f7a4_46 ?_
  refine lv_istore_n (lv' := [(0, .int ((((((((zI (nb : Int)) - ((((zI (nb : Int)).toUInt32 >>> ((1 : Int32).toUInt32 &&& Int32.toUInt32 31)).toInt32) &&& (1431655765 : Int32))) &&& (858993459 : Int32)) + (((((zI (nb : Int)) - ((((zI (nb : Int)).toUInt32 >>> ((1 : Int32).toUInt32 &&& Int32.toUInt32 31)).toInt32) &&& (1431655765 : Int32))).toUInt32 >>> ((2 : Int32).toUInt32 &&& Int32.toUInt32 31)).toInt32) &&& (858993459 : Int32))) + ((((((zI (nb : Int)) - ((((zI (nb : Int)).toUInt32 >>> ((1 : Int32).toUInt32 &&& Int32.toUInt32 31)).toInt32) &&& (1431655765 : Int32))) &&& (858993459 : Int32)) + (((((zI (nb : Int)) - ((((zI (nb : Int)).toUInt32 >>> ((1 : Int32).toUInt32 &&& Int32.toUInt32 31)).toInt32) &&& (1431655765 : Int32))).toUInt32 >>> ((2 : Int32).toUInt32 &&& Int32.toUInt32 31)).toInt32) &&& (858993459 : Int32))).toUInt32 >>> ((4 : Int32).toUInt32 &&& Int32.toUInt32 31)).toInt32)) &&& (252645135 : Int32)) + ((((((((zI (nb : Int)) - ((((zI (nb : Int)).toUInt32 >>> ((1 : Int32).toUInt32 &&& Int32.toUInt32 31)).toInt32) &&& (1431655765 : Int32))) &&& (858993459 : Int32)) + (((((zI (nb : Int)) - ((((zI (nb : Int)).toUInt32 >>> ((1 : Int32).toUInt32 &&& Int32.toUInt32 31)).toInt32) &&& (1431655765 : Int32))).toUInt32 >>> ((2 : Int32).toUInt32 &&& Int32.toUInt32 31)).toInt32) &&& (858993459 : Int32))) + ((((((zI (nb : Int)) - ((((zI (nb : Int)).toUInt32 >>> ((1 : Int32).toUInt32 &&& Int32.toUInt32 31)).toInt32) &&& (1431655765 : Int32))) &&& (858993459 : Int32)) + (((((zI (nb : Int)) - ((((zI (nb : Int)).toUInt32 >>> ((1 : Int32).toUInt32 &&& Int32.toUInt32 31)).toInt32) &&& (1431655765 : Int32))).toUInt32 >>> ((2 : Int32).toUInt32 &&& Int32.toUInt32 31)).toInt32) &&& (858993459 : Int32))).toUInt32 >>> ((4 : Int32).toUInt32 &&& Int32.toUInt32 31)).toInt32)) &&& (252645135 : Int32)).toUInt32 >>> ((8 : Int32).toUInt32 &&& Int32.toUInt32 31)).toInt32)) + (((((((((zI (nb : Int)) - ((((zI (nb : Int)).toUInt32 >>> ((1 : Int32).toUInt32 &&& Int32.toUInt32 31)).toInt32) &&& (1431655765 : Int32))) &&& (858993459 : Int32)) + (((((zI (nb : Int)) - ((((zI (nb : Int)).toUInt32 >>> ((1 : Int32).toUInt32 &&& Int32.toUInt32 31)).toInt32) &&& (1431655765 : Int32))).toUInt32 >>> ((2 : Int32).toUInt32 &&& Int32.toUInt32 31)).toInt32) &&& (858993459 : Int32))) + ((((((zI (nb : Int)) - ((((zI (nb : Int)).toUInt32 >>> ((1 : Int32).toUInt32 &&& Int32.toUInt32 31)).toInt32) &&& (1431655765 : Int32))) &&& (858993459 : Int32)) + (((((zI (nb : Int)) - ((((zI (nb : Int)).toUInt32 >>> ((1 : Int32).toUInt32 &&& Int32.toUInt32 31)).toInt32) &&& (1431655765 : Int32))).toUInt32 >>> ((2 : Int32).toUInt32 &&& Int32.toUInt32 31)).toInt32) &&& (858993459 : Int32))).toUInt32 >>> ((4 : Int32).toUInt32 &&& Int32.toUInt32 31)).toInt32)) &&& (252645135 : Int32)) + ((((((((zI (nb : Int)) - ((((zI (nb : Int)).toUInt32 >>> ((1 : Int32).toUInt32 &&& Int32.toUInt32 31)).toInt32) &&& (1431655765 : Int32))) &&& (858993459 : Int32)) + (((((zI (nb : Int)) - ((((zI (nb : Int)).toUInt32 >>> ((1 : Int32).toUInt32 &&& Int32.toUInt32 31)).toInt32) &&& (1431655765 : Int32))).toUInt32 >>> ((2 : Int32).toUInt32 &&& Int32.toUInt32 31)).toInt32) &&& (858993459 : Int32))) + ((((((zI (nb : Int)) - ((((zI (nb : Int)).toUInt32 >>> ((1 : Int32).toUInt32 &&& Int32.toUInt32 31)).toInt32) &&& (1431655765 : Int32))) &&& (858993459 : Int32)) + (((((zI (nb : Int)) - ((((zI (nb : Int)).toUInt32 >>> ((1 : Int32).toUInt32 &&& Int32.toUInt32 31)).toInt32) &&& (1431655765 : Int32))).toUInt32 >>> ((2 : Int32).toUInt32 &&& Int32.toUInt32 31)).toInt32) &&& (858993459 : Int32))).toUInt32 >>> ((4 : Int32).toUInt32 &&& Int32.toUInt32 31)).toInt32)) &&& (252645135 : Int32)).toUInt32 >>> ((8 : Int32).toUInt32 &&& Int32.toUInt32 31)).toInt32)).toUInt32 >>> ((16 : Int32).toUInt32 &&& Int32.toUInt32 31)).toInt32)))]) hx hb dJ6_bitCount_0f7a4_47 rfl hl (by decide) rfl (fun ls hl => ?_)
  refine lv_iload_n hx hb dJ6_bitCount_0f7a4_48 rfl (lv_at hl 0 rfl) ?_
  refine lv_bipush (v := (63 : Int32)) hx hb dJ6_bitCount_0f7a4_49 (by decide) ?_
  refine lv_iand hx hb dJ6_bitCount_0f7a4_51 ?_
  exact kret _ _ _ _ _ _ _ _ (⟨bc_1 ⟨nb, hn32⟩, rfl⟩) hW hS (Nat.le_of_ble_eq_true rfl) (Nat.le_of_ble_eq_true rfl) dJ6_bitCount_0f7a4_52

theorem ds_J7_fill_53178 : yJ7_fill_53178.cls ≠ "java/lang/invoke/MethodHandle" ∧ yJ7_fill_53178.cls ≠ "java/lang/invoke/VarHandle" ∧ (parseMethodDescriptor yJ7_fill_53178.desc).map (fun d => d.parameters.length) = some 2 := by decide +kernel
def rJ7_fill_53178 : Room := { frames := 0, cells := 0, slots := 0, locals := 0 }
set_option maxHeartbeats 4000000 in
set_option maxRecDepth 100000 in
theorem k_J7_fill_53178 {l : Launch} {Z : gZ} {B : gB} {C0 : gC} {k i nn : Nat} {F : Nat → Int} {v : Int} (he : C0 k i = some (gJ Z nn F)) (hnn : (nn : Int) < 2147483648) : Met l yJ7_fill_53178 wsJ7_fill_53178 rJ7_fill_53178 (gPc Z B C0 [.ref (B k i), .int (zI v)]) (gQv Z B (fun C1 => (∃ F1, C1 k i = some (gJ Z nn F1) ∧ ∀ q, q < nn → F1 q = v) ∧ ∀ k' i', ¬ (k' = k ∧ i' = i) → C1 k' i' = C0 k' i')) 0 0 (gA Z) := by
  refine g_ofV (cc := cJ7_fill_53178) (maxL := 4) (by decide) rfl (Nat.le_of_ble_eq_true rfl) ?_
  intro p e s m args below meth c Q X kret hW hS ls hl
  have hx := X.1.1
  have hb := X.1.2.1
  have hts := X.1.2.2.2.2
  have hl : lv_has ls 4 [(0, .ref (B k i)), (1, .int (zI v))] := hl
  refine lv_iconst (v := zI (0)) hx hb dJ7_fill_53178_0 rfl ?_
  refine lv_istore_n (lv' := [(2, .int (zI 0)), (0, .ref (B k i)), (1, .int (zI v))]) hx hb dJ7_fill_53178_1 rfl hl (by decide) rfl (fun ls hl => ?_)
  refine lv_aload_n hx hb dJ7_fill_53178_2 rfl (lv_at hl 1 rfl) ?_
  refine z_alen (t := 0) X hW he rfl dJ7_fill_53178_3 ?_
  refine lv_istore_n (lv' := [(3, .int (zI (nn : Int))), (2, .int (zI 0)), (0, .ref (B k i)), (1, .int (zI v))]) hx hb dJ7_fill_53178_4 rfl hl (by decide) rfl (fun ls hl => ?_)
  have lp5 : ∀ (n : Nat) (j : Nat) (F : Nat → Int) (Cl : gC) (H : Heap) (locs : List Loc), (nn - j < n) → (j ≤ nn) → (∀ q, q < j → F q = v) → (Cl k i = some (gJ Z nn F)) → (∀ k' i', ¬ (k' = k ∧ i' = i) → Cl k' i' = C0 k' i') → gw Z B Cl H → va_S (gA Z) s.heap H locs → ∀ ls : Array Slot, lv_has ls 4 [(0, .ref (B k i)), (1, .int (zI v)), (3, .int (zI (nn : Int))), (2, .int (zI (j : Int)))] → W p l e rJ7_fill_53178 s m args below meth c H locs 0 0 Q (F0 m 5 ls []) := by
    intro n
    induction n with
    | zero =>
      intro j F Cl H locs hm hj hFv hel hfl hW hS ls hl
      exact absurd hm (by omega)
    | succ n ih5 =>
      intro j F Cl H locs hm hj hFv hel hfl hW hS ls hl
      refine lv_iload_n hx hb dJ7_fill_53178_5 rfl (lv_at hl 3 rfl) ?_
      refine lv_iload_n hx hb dJ7_fill_53178_6 rfl (lv_at hl 2 rfl) ?_
      refine z_icmp_ge (tgt := 20) hx hb dJ7_fill_53178_7 (by decide) (⟨by omega, by omega⟩) (⟨by omega, by omega⟩) (fun h_7 => ?_) (fun h_7 => ?_)
      · exact kret _ _ _ _ _ _ _ (⟨⟨F, hel, fun q h => hFv q (by omega)⟩, hfl⟩) hW hS (Nat.le_of_ble_eq_true rfl) (Nat.le_of_ble_eq_true rfl) dJ7_fill_53178_20
      · refine lv_aload_n hx hb dJ7_fill_53178_10 rfl (lv_at hl 0 rfl) ?_
        refine lv_iload_n hx hb dJ7_fill_53178_11 rfl (lv_at hl 3 rfl) ?_
        refine lv_iload_n hx hb dJ7_fill_53178_12 rfl (lv_at hl 1 rfl) ?_
        refine z_iast X hW hS hel (by omega) (by omega) (by omega) dJ7_fill_53178_13 (fun C1 H locs hs2 hn3 hW hS => ?_)
        refine z_iinc (lv' := [(2, .int (zI ((j : Int) + 1))), (0, .ref (B k i)), (1, .int (zI v)), (3, .int (zI (nn : Int)))]) hx hb dJ7_fill_53178_14 hl (q := 3) rfl (by decide) rfl (fun ls hl => ?_)
        refine lv_goto (tgt := 5) hx hb dJ7_fill_53178_17 (by decide) ?_
        exact ih5 (j + 1) (ju F j v) _ _ _ (by omega) (by omega) (fun q h => by by_cases e : q = j; (rw [e, ju_s]); (rw [ju_n e]; exact hFv q (by omega))) hs2 (fun k' i' h => (hn3 k' i' (by omega)).trans (hfl k' i' h)) hW hS _ (lv_sub hl [1, 2, 3, 0] rfl)
  exact lp5 (nn + 1) 0 F _ _ _ (by omega) (by omega) (fun q h => by omega) he (fun _ _ _ => rfl) hW hS _ (lv_sub hl [2, 3, 0, 1] rfl)
