theorem ds_X1_textOf : yX1_textOf.cls ≠ "java/lang/invoke/MethodHandle" ∧ yX1_textOf.cls ≠ "java/lang/invoke/VarHandle" ∧ (parseMethodDescriptor yX1_textOf.desc).map (fun d => d.parameters.length) = some 1 := by decide +kernel
theorem in_X1_textOf_1 : ∀ w ∈ wsX10, w ∈ wsX1_textOf := by decide +kernel
def rX1_textOf : Room := { frames := 0, cells := 0, slots := 0, locals := 0 }
set_option maxHeartbeats 4000000 in
set_option maxRecDepth 100000 in
theorem k_X1_textOf {l : Launch} {Z : gZ} {B : gB} {C0 : gC} {S : gS} {T : gTx} {i : Nat} {a : Int} {r : Nat} (hcs : cs Z B C0 S T) (hwf : wf S T) (hi : i < S 0 0) (ha : a = (r : Int)) (hr : r < S 2 i) : Met l yX1_textOf wsX1_textOf rX1_textOf (gPc Z B C0 [.ref (B 40 i), .int (zI a)]) (gQr Z B (fun r1 C1 => r1 = B 46 (4 * i + r) ∧ C1 = C0)) 0 0 (gA Z) := by
  refine g_ofR (cc := cX1_textOf) (maxL := 3) (by decide) rfl (Nat.le_of_ble_eq_true rfl) ⟨_, rfl⟩ ?_
  intro p e s m args below meth c Q X kret hW hS ls hl
  have hx := X.1.1
  have hb := X.1.2.1
  have hts := X.1.2.2.2.2
  have hl : lv_has ls 3 [(0, .ref (B 40 i)), (1, .int (zI a))] := hl
  obtain ⟨hc0, hc1, hc2, ⟨f45, hc3, hc3a, hc3b⟩, hc4, hc4n, hc5, F50, hc6, hc6a⟩ := id (cs.ch hcs hi)
  have hwi := hwf.ch hi
  refine lv_iload_n hx hb dX1_textOf_0 rfl (lv_at hl 1 rfl) ?_
  refine z_if_lt (tgt := 22) hx hb dX1_textOf_1 (by decide) (⟨by omega, by omega⟩) (fun h_1 => absurd h_1 (by omega)) (fun h_1 => ?_)
  refine lv_iload_n hx hb dX1_textOf_4 rfl (lv_at hl 1 rfl) ?_
  refine lv_aload_n hx hb dX1_textOf_5 rfl (lv_at hl 0 rfl) ?_
  refine g_get (ci := 1) X in_X1_textOf_1 rfl hW hc0 4 (by decide) (hts _ (List.mem_of_getElem? (i := 1) rfl)) rfl dX1_textOf_6 ?_
  refine z_alen (t := 3) X hW hc3 rfl dX1_textOf_9 ?_
  refine z_icmp_ge (tgt := 22) hx hb dX1_textOf_10 (by decide) (⟨by omega, by omega⟩) (⟨by omega, by omega⟩) (fun h_10 => absurd h_10 (by omega)) (fun h_10 => ?_)
  refine lv_aload_n hx hb dX1_textOf_13 rfl (lv_at hl 0 rfl) ?_
  refine g_get (ci := 1) X in_X1_textOf_1 rfl hW hc0 4 (by decide) (hts _ (List.mem_of_getElem? (i := 1) rfl)) rfl dX1_textOf_14 ?_
  refine lv_iload_n hx hb dX1_textOf_17 rfl (lv_at hl 1 rfl) ?_
  refine z_aald (t := 3) X hW hc3 rfl (by omega) (by omega) (by omega) dX1_textOf_18 ?_
  rw [show va_rf (f45 (a).toNat) = .ref (B 46 (4 * i + r)) from by rw [show f45 (a).toNat = some (B 46 (4 * i + r)) from (show a.toNat = r by omega) ▸ hc3a r hr]; rfl]
  refine lv_goto (tgt := 23) hx hb dX1_textOf_19 (by decide) ?_
  refine lv_astore_n (lv' := [(2, .ref (B 46 (4 * i + r))), (0, .ref (B 40 i)), (1, .int (zI a))]) hx hb dX1_textOf_23 rfl hl (by decide) rfl (fun ls hl => ?_)
  refine lv_aload_n hx hb dX1_textOf_24 rfl (lv_at hl 0 rfl) ?_
  refine lv_ifnonnull (tgt := 35) hx hb dX1_textOf_25 (by decide) ?_
  refine lv_aload_n hx hb dX1_textOf_35 rfl (lv_at hl 0 rfl) ?_
  exact kret _ _ _ _ _ _ _ _ (⟨rfl, rfl⟩) hW hS (Nat.le_of_ble_eq_true rfl) (Nat.le_of_ble_eq_true rfl) dX1_textOf_36

theorem ds_X1_presentText : yX1_presentText.cls ≠ "java/lang/invoke/MethodHandle" ∧ yX1_presentText.cls ≠ "java/lang/invoke/VarHandle" ∧ (parseMethodDescriptor yX1_presentText.desc).map (fun d => d.parameters.length) = some 0 := by decide +kernel
theorem in_X1_presentText_1 : ∀ w ∈ wsX10, w ∈ wsX1_presentText := by decide +kernel
def rX1_presentText : Room := { frames := 1, cells := 0, slots := 0, locals := 22 }
set_option maxHeartbeats 4000000 in
set_option maxRecDepth 100000 in
theorem k_X1_presentText {l : Launch} {Z : gZ} {B : gB} {C0 : gC} {S : gS} {T : gTx} {i : Nat} (hcs : cs Z B C0 S T) (hwf : wf S T) (hi : i < S 0 0) (hr : 0 < S 2 i) : Met l yX1_presentText wsX1_presentText rX1_presentText (gPc Z B C0 [.ref (B 40 i)]) (gQr Z B (fun r1 C1 => r1 = B 46 (4 * i + (S 2 i - 1)) ∧ C1 = C0)) 0 0 (gA Z) := by
  refine g_ofR (cc := cX1_presentText) (maxL := 1) (by decide) rfl (Nat.le_of_ble_eq_true rfl) ⟨_, rfl⟩ ?_
  intro p e s m args below meth c Q X kret hW hS ls hl
  have hx := X.1.1
  have hb := X.1.2.1
  have hts := X.1.2.2.2.2
  have hl : lv_has ls 1 [(0, .ref (B 40 i))] := hl
  obtain ⟨hc0, hc1, hc2, ⟨f45, hc3, hc3a, hc3b⟩, hc4, hc4n, hc5, F50, hc6, hc6a⟩ := id (cs.ch hcs hi)
  have hwi := hwf.ch hi
  refine lv_aload_n hx hb dX1_presentText_0 rfl (lv_at hl 0 rfl) ?_
  refine lv_aload_n hx hb dX1_presentText_1 rfl (lv_at hl 0 rfl) ?_
  refine g_get (ci := 1) X in_X1_presentText_1 rfl hW hc0 6 (by decide) (hts _ (List.mem_of_getElem? (i := 1) rfl)) rfl dX1_presentText_2 ?_
  refine lv_iconst (v := zI (1)) hx hb dX1_presentText_5 rfl ?_
  refine z_isub hx hb dX1_presentText_6 ?_
  refine g_cr (g_runV X (k_X1_textOf (a := ((S 2 i : Int) - 1)) (r := (S 2 i - 1)) hcs hwf hi (by omega) (by omega)) (cwV 1 hts gX1_presentText_X1_textOf rfl rfl rfl ⟨rfl, ds_X1_textOf⟩ ⟨Nat.le_of_ble_eq_true rfl, Nat.le_of_ble_eq_true rfl⟩) hW hS hc0 rfl rfl hl.1 rfl (Nat.le_of_ble_eq_true rfl) dX1_presentText_7 ⟨Nat.le_of_ble_eq_true rfl, Nat.le_of_ble_eq_true rfl⟩) hS (fun r3 C1 H locs hp2 hW hS => ?_)
  obtain ⟨rfl, ehp2⟩ := hp2
  rw [ehp2] at hW
  exact kret _ _ _ _ _ _ _ _ (⟨rfl, rfl⟩) hW hS (Nat.le_of_ble_eq_true rfl) (Nat.le_of_ble_eq_true rfl) dX1_presentText_10

theorem ds_X1_isApprovedBy : yX1_isApprovedBy.cls ≠ "java/lang/invoke/MethodHandle" ∧ yX1_isApprovedBy.cls ≠ "java/lang/invoke/VarHandle" ∧ (parseMethodDescriptor yX1_isApprovedBy.desc).map (fun d => d.parameters.length) = some 1 := by decide +kernel
theorem in_X1_isApprovedBy_1 : ∀ w ∈ wsX10, w ∈ wsX1_isApprovedBy := by decide +kernel
def rX1_isApprovedBy : Room := { frames := 1, cells := 0, slots := 0, locals := 21 }
set_option maxHeartbeats 4000000 in
set_option maxRecDepth 100000 in
theorem k_X1_isApprovedBy {l : Launch} {Z : gZ} {B : gB} {C0 : gC} {S : gS} {T : gTx} {i : Nat} {a : Int} (hcs : cs Z B C0 S T) (hwf : wf S T) (hi : i < S 0 0) (ha : 0 ≤ a ∧ a < 5) : Met l yX1_isApprovedBy wsX1_isApprovedBy rX1_isApprovedBy (gPc Z B C0 [.ref (B 40 i), .int (zI a)]) (gQi Z B (fun r C1 => r = zI (if 1 ≤ S 7 (5 * i + a.toNat) then 1 else 0) ∧ C1 = C0)) 0 0 (gA Z) := by
  refine g_ofZ (cc := cX1_isApprovedBy) (maxL := 2) (by decide) rfl (Nat.le_of_ble_eq_true rfl) (fun r C1 h => by obtain ⟨h, -⟩ := h; rw [h]; split <;> rfl) ?_
  intro p e s m args below meth c Q X kret hW hS ls hl
  have hx := X.1.1
  have hb := X.1.2.1
  have hts := X.1.2.2.2.2
  have hl : lv_has ls 2 [(0, .ref (B 40 i)), (1, .int (zI a))] := hl
  obtain ⟨hc0, hc1, hc2, ⟨f45, hc3, hc3a, hc3b⟩, hc4, hc4n, hc5, F50, hc6, hc6a⟩ := id (cs.ch hcs hi)
  have hwi := hwf.ch hi
  refine lv_aload_n hx hb dX1_isApprovedBy_0 rfl (lv_at hl 0 rfl) ?_
  refine g_get (ci := 1) X in_X1_isApprovedBy_1 rfl hW hc0 10 (by decide) (hts _ (List.mem_of_getElem? (i := 1) rfl)) rfl dX1_isApprovedBy_1 ?_
  refine lv_iload_n hx hb dX1_isApprovedBy_4 rfl (lv_at hl 1 rfl) ?_
  refine g_ci (g_runSN X (k_X7_cell (a := a) hc6 (by decide) (⟨by omega, by omega⟩)) ⟨va_cnB 2 hts gX1_isApprovedBy_X7_cell_n59 rfl rfl rfl (nmw_9 X.2.2.1) (hts _ (List.mem_of_getElem? (i := 3) rfl)) ds_X7_cell ⟨Nat.le_of_ble_eq_true rfl, Nat.le_of_ble_eq_true rfl⟩, hts _ (List.mem_of_getElem? (i := 2) rfl), trivial⟩ hW hS rfl hl.1 rfl (Nat.le_of_ble_eq_true rfl) dX1_isApprovedBy_5 ⟨Nat.le_of_ble_eq_true rfl, Nat.le_of_ble_eq_true rfl⟩) hS (fun r3 C1 H locs hp2 hW hS => ?_)
  rw [if_pos (show (0 : Int) ≤ a ∧ a < ((5 : Nat) : Int) from ⟨by omega, by omega⟩)] at hp2
  obtain ⟨rfl, ehp2⟩ := hp2
  rw [ehp2] at hW
  have hv := hc6a a.toNat (by omega)
  have hv2 := hwi.2.2.2.2.2 a.toNat (by omega)
  refine lv_iconst (v := zI (-1)) hx hb dX1_isApprovedBy_8 rfl ?_
  refine z_icmp_eq (tgt := 16) hx hb dX1_isApprovedBy_9 (by decide) (⟨by omega, by omega⟩) (⟨by omega, by omega⟩) (fun h_9 => ?_) (fun h_9 => ?_)
  · refine lv_iconst (v := zI (0)) hx hb dX1_isApprovedBy_16 rfl ?_
    exact kret _ _ _ _ _ _ _ _ (⟨by rw [if_neg (by omega)], rfl⟩) hW hS (Nat.le_of_ble_eq_true rfl) (Nat.le_of_ble_eq_true rfl) dX1_isApprovedBy_17
  · refine lv_iconst (v := zI (1)) hx hb dX1_isApprovedBy_12 rfl ?_
    refine lv_goto (tgt := 17) hx hb dX1_isApprovedBy_13 (by decide) ?_
    exact kret _ _ _ _ _ _ _ _ (⟨by rw [if_pos (by omega)], rfl⟩) hW hS (Nat.le_of_ble_eq_true rfl) (Nat.le_of_ble_eq_true rfl) dX1_isApprovedBy_17

theorem ds_X1_approversOf : yX1_approversOf.cls ≠ "java/lang/invoke/MethodHandle" ∧ yX1_approversOf.cls ≠ "java/lang/invoke/VarHandle" ∧ (parseMethodDescriptor yX1_approversOf.desc).map (fun d => d.parameters.length) = some 1 := by decide +kernel
theorem in_X1_approversOf_1 : ∀ w ∈ wsX10, w ∈ wsX1_approversOf := by decide +kernel
def rX1_approversOf : Room := { frames := 1, cells := 0, slots := 0, locals := 21 }
set_option maxHeartbeats 4000000 in
set_option maxRecDepth 100000 in
theorem k_X1_approversOf {l : Launch} {Z : gZ} {B : gB} {C0 : gC} {S : gS} {T : gTx} {i : Nat} {a : Int} {r : Nat} (hcs : cs Z B C0 S T) (hwf : wf S T) (hi : i < S 0 0) (ha : a = (r : Int)) (hr4 : r < 4) : Met l yX1_approversOf wsX1_approversOf rX1_approversOf (gPc Z B C0 [.ref (B 40 i), .int (zI a)]) (gQi Z B (fun r1 C1 => r1 = zI ((mkb (fun u => decide (S 7 (5 * i + u) = r + 1)) 5 : Nat) : Int) ∧ C1 = C0)) 0 0 (gA Z) := by
  refine g_ofI (cc := cX1_approversOf) (maxL := 4) (by decide) rfl (Nat.le_of_ble_eq_true rfl) ?_
  intro p e s m args below meth c Q X kret hW hS ls hl
  have hx := X.1.1
  have hb := X.1.2.1
  have hts := X.1.2.2.2.2
  have hl : lv_has ls 4 [(0, .ref (B 40 i)), (1, .int (zI a))] := hl
  obtain ⟨hc0, hc1, hc2, ⟨f45, hc3, hc3a, hc3b⟩, hc4, hc4n, hc5, F50, hc6, hc6a⟩ := id (cs.ch hcs hi)
  have hwi := hwf.ch hi
  refine lv_iconst (v := zI (0)) hx hb dX1_approversOf_0 rfl ?_
  refine lv_istore_n (lv' := [(2, .int (zI 0)), (0, .ref (B 40 i)), (1, .int (zI a))]) hx hb dX1_approversOf_1 rfl hl (by decide) rfl (fun ls hl => ?_)
  refine lv_iconst (v := zI (0)) hx hb dX1_approversOf_2 rfl ?_
  refine lv_istore_n (lv' := [(3, .int (zI 0)), (2, .int (zI 0)), (0, .ref (B 40 i)), (1, .int (zI a))]) hx hb dX1_approversOf_3 rfl hl (by decide) rfl (fun ls hl => ?_)
  have lp4 : ∀ (n : Nat) (v : Nat) (H : Heap) (locs : List Loc), (5 - v < n) → (v ≤ 5) → gw Z B C0 H → va_S (gA Z) s.heap H locs → ∀ ls : Array Slot, lv_has ls 4 [(0, .ref (B 40 i)), (1, .int (zI a)), (2, .int (zI (mkb (fun u => decide (S 7 (5 * i + u) = r + 1)) v : Int))), (3, .int (zI (v : Int)))] → W p l e rX1_approversOf s m args below meth c H locs 0 0 Q (F0 m 4 ls []) := by
    intro n
    induction n with
    | zero =>
      intro v  H locs hm hv5 hW hS ls hl
      exact absurd hm (by omega)
    | succ n ih4 =>
      intro v  H locs hm hv5 hW hS ls hl
      have hmk := mkb_lt (fun u => decide (S 7 (5 * i + u) = r + 1)) v hv5
      refine lv_iload_n hx hb dX1_approversOf_4 rfl (lv_at hl 3 rfl) ?_
      refine lv_iconst (v := zI (5)) hx hb dX1_approversOf_5 rfl ?_
      refine z_icmp_ge (tgt := 33) hx hb dX1_approversOf_6 (by decide) (⟨by omega, by omega⟩) (⟨by omega, by omega⟩) (fun h_6 => ?_) (fun h_6 => ?_)
      · refine lv_iload_n hx hb dX1_approversOf_33 rfl (lv_at hl 2 rfl) ?_
        exact kret _ _ _ _ _ _ _ _ (⟨by rw [show v = 5 by omega], rfl⟩) hW hS (Nat.le_of_ble_eq_true rfl) (Nat.le_of_ble_eq_true rfl) dX1_approversOf_34
      · refine lv_aload_n hx hb dX1_approversOf_9 rfl (lv_at hl 0 rfl) ?_
        refine g_get (ci := 1) X in_X1_approversOf_1 rfl hW hc0 10 (by decide) (hts _ (List.mem_of_getElem? (i := 1) rfl)) rfl dX1_approversOf_10 ?_
        refine lv_iload_n hx hb dX1_approversOf_13 rfl (lv_at hl 3 rfl) ?_
        refine g_ci (g_runSN X (k_X7_cell (a := (v : Int)) hc6 (by decide) (⟨by omega, by omega⟩)) ⟨va_cnB 2 hts gX1_approversOf_X7_cell_n59 rfl rfl rfl (nmw_9 X.2.2.1) (hts _ (List.mem_of_getElem? (i := 3) rfl)) ds_X7_cell ⟨Nat.le_of_ble_eq_true rfl, Nat.le_of_ble_eq_true rfl⟩, hts _ (List.mem_of_getElem? (i := 2) rfl), trivial⟩ hW hS rfl hl.1 rfl (Nat.le_of_ble_eq_true rfl) dX1_approversOf_14 ⟨Nat.le_of_ble_eq_true rfl, Nat.le_of_ble_eq_true rfl⟩) hS (fun r3 C1 H locs hp2 hW hS => ?_)
        rw [if_pos (show (0 : Int) ≤ (v : Int) ∧ (v : Int) < ((5 : Nat) : Int) from ⟨by omega, by omega⟩)] at hp2
        obtain ⟨rfl, ehp2⟩ := hp2
        rw [ehp2] at hW
        have hv := hc6a v (by omega)
        have hv2 := hwi.2.2.2.2.2 v (by omega)
        have hv3 : ((v : Int)).toNat = v := by omega
        refine lv_iload_n hx hb dX1_approversOf_17 rfl (lv_at hl 1 rfl) ?_
        refine z_icmp_ne (tgt := 27) hx hb dX1_approversOf_18 (by decide) (⟨by rw [hv3]; omega, by rw [hv3]; omega⟩) (⟨by omega, by omega⟩) (fun h_18 => ?_) (fun h_18 => ?_)
        · rw [hv3] at h_18
          have hq : mkb (fun u => decide (S 7 (5 * i + u) = r + 1)) (v + 1) = mkb (fun u => decide (S 7 (5 * i + u) = r + 1)) v := if_neg (by simp; omega)
          rw [← hq] at hl
          refine z_iinc (lv' := [(3, .int (zI ((v : Int) + 1))), (0, .ref (B 40 i)), (1, .int (zI a)), (2, .int (zI (mkb (fun u => decide (S 7 (5 * i + u) = r + 1)) (v + 1) : Int)))]) hx hb dX1_approversOf_27 hl (q := 3) rfl (by decide) rfl (fun ls hl => ?_)
          refine lv_goto (tgt := 4) hx hb dX1_approversOf_30 (by decide) ?_
          exact ih4 (v + 1) _ _ (by omega) (by omega) hW hS _ (lv_sub hl [1, 2, 3, 0] rfl)
        · rw [hv3] at h_18
          refine lv_iload_n hx hb dX1_approversOf_21 rfl (lv_at hl 2 rfl) ?_
          refine lv_iload_n hx hb dX1_approversOf_22 rfl (lv_at hl 3 rfl) ?_
          refine g_ci (g_runSN X (k_X7_withBit (nb := (mkb (fun u => decide (S 7 (5 * i + u) = r + 1)) v)) (jb := v) (hmk) (by omega)) ⟨va_cnB 2 hts gX1_approversOf_X7_withBit_n63 rfl rfl rfl (nmw_10 X.2.2.1) (hts _ (List.mem_of_getElem? (i := 3) rfl)) ds_X7_withBit ⟨Nat.le_of_ble_eq_true rfl, Nat.le_of_ble_eq_true rfl⟩, hts _ (List.mem_of_getElem? (i := 5) rfl), trivial⟩ hW hS rfl hl.1 rfl (Nat.le_of_ble_eq_true rfl) dX1_approversOf_23 ⟨Nat.le_of_ble_eq_true rfl, Nat.le_of_ble_eq_true rfl⟩) hS (fun r6 C4 H locs hp5 hW hS => ?_)
          obtain ⟨rfl, ehp5⟩ := hp5
          rw [ehp5] at hW
          refine lv_istore_n (lv' := [(2, .int (zI (bset (mkb (fun u => decide (S 7 (5 * i + u) = r + 1)) v) v : Int))), (0, .ref (B 40 i)), (1, .int (zI a)), (3, .int (zI (v : Int)))]) hx hb dX1_approversOf_26 rfl hl (by decide) rfl (fun ls hl => ?_)
          have hq : mkb (fun u => decide (S 7 (5 * i + u) = r + 1)) (v + 1) = bset (mkb (fun u => decide (S 7 (5 * i + u) = r + 1)) v) v := if_pos (by simp; omega)
          rw [← hq] at hl
          refine z_iinc (lv' := [(3, .int (zI ((v : Int) + 1))), (2, .int (zI (mkb (fun u => decide (S 7 (5 * i + u) = r + 1)) (v + 1) : Int))), (0, .ref (B 40 i)), (1, .int (zI a))]) hx hb dX1_approversOf_27 hl (q := 3) rfl (by decide) rfl (fun ls hl => ?_)
          refine lv_goto (tgt := 4) hx hb dX1_approversOf_30 (by decide) ?_
          exact ih4 (v + 1) _ _ (by omega) (by omega) hW hS _ (lv_sub hl [2, 3, 1, 0] rfl)
  exact lp4 6 0 _ _ (by omega) (by omega) hW hS _ (lv_sub hl [2, 3, 1, 0] rfl)
