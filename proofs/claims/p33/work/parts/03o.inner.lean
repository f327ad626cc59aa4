theorem opnr_s (S : gS) (i n : Nat) : opnr S i (n + 1) = opnr S i n + (if S 11 n = i ∧ S 14 n = 0 then 1 else 0) := rfl
theorem ab1_s (S : gS) (m n : Nat) : ab1 S m (n + 1) = if (ab1 S m n).testBit n = true then ab1 S m n ||| S 3 n else ab1 S m n := rfl

theorem ds_X7_countOpen : yX7_countOpen.cls ≠ "java/lang/invoke/MethodHandle" ∧ yX7_countOpen.cls ≠ "java/lang/invoke/VarHandle" ∧ (parseMethodDescriptor yX7_countOpen.desc).map (fun d => d.parameters.length) = some 1 := by decide +kernel
theorem in_X7_countOpen_3 : ∀ w ∈ wsX30, w ∈ wsX7_countOpen := by decide +kernel
theorem in_X7_countOpen_7 : ∀ w ∈ wsX70, w ∈ wsX7_countOpen := by decide +kernel
def rX7_countOpen : Room := { frames := 0, cells := 0, slots := 0, locals := 0 }
set_option maxHeartbeats 4000000 in
set_option maxRecDepth 100000 in
theorem k_X7_countOpen {l : Launch} {Z : gZ} {B : gB} {C0 : gC} {S : gS} {T : gTx} {i : Nat} (hcs : cs Z B C0 S T) (hwf : wf S T) (hi : i < S 0 0) : Met l yX7_countOpen wsX7_countOpen rX7_countOpen (gPc Z B C0 [.ref (B 0 0), .ref (B 40 i)]) (gQi Z B (fun r C1 => r = zI (opn S i : Int) ∧ C1 = C0)) 0 0 (gA Z) := by
  refine g_ofI (cc := cX7_countOpen) (maxL := 5) (by decide) rfl (Nat.le_of_ble_eq_true rfl) ?_
  intro p e s m args below meth c Q X kret hW hS ls hl
  have hx := X.1.1
  have hb := X.1.2.1
  have hts := X.1.2.2.2.2
  have hl : lv_has ls 5 [(0, .ref (B 0 0)), (1, .ref (B 40 i))] := hl
  obtain ⟨hb0, hb1, ⟨F3, hb3, hb3a⟩, ⟨f4, hb4, hb4a, hb4b⟩, ⟨f5, hb5, hb5a, hb5b⟩, ⟨F6, hb6, hb6a⟩, hb7, hb8, hb9, hb10, hb11⟩ := id hcs
  have hwn := hwf.n
  obtain ⟨hc0, hc1, hc2, ⟨f45, hc3, hc3a, hc3b⟩, hc4, hc4n, hc5, F50, hc6, hc6a⟩ := id (cs.ch hcs hi)
  have hwi := hwf.ch hi
  refine lv_iconst (v := zI (0)) hx hb dX7_countOpen_0 rfl ?_
  refine lv_istore_n (lv' := [(2, .int (zI 0)), (0, .ref (B 0 0)), (1, .ref (B 40 i))]) hx hb dX7_countOpen_1 rfl hl (by decide) rfl (fun ls hl => ?_)
  refine lv_iconst (v := zI (0)) hx hb dX7_countOpen_2 rfl ?_
  refine lv_istore_n (lv' := [(3, .int (zI 0)), (2, .int (zI 0)), (0, .ref (B 0 0)), (1, .ref (B 40 i))]) hx hb dX7_countOpen_3 rfl hl (by decide) rfl (fun ls hl => ?_)
  have hl : lv_has ls 5 [(3, .int (zI 0)), (2, .int (zI (opnr S i (min 0 (S 0 2)) : Int))), (0, .ref (B 0 0)), (1, .ref (B 40 i))] := by rw [show min 0 (S 0 2) = 0 by omega]; exact hl
  have lp4 : ∀ (n : Nat) (k : Nat) (H : Heap) (locs : List Loc), (12 - k < n) → (k ≤ 12) → gw Z B C0 H → va_S (gA Z) s.heap H locs → ∀ ls : Array Slot, lv_has ls 5 [(0, .ref (B 0 0)), (1, .ref (B 40 i)), (2, .int (zI (opnr S i (min k (S 0 2)) : Int))), (3, .int (zI (k : Int)))] → W p l e rX7_countOpen s m args below meth c H locs 0 0 Q (F0 m 4 ls []) := by
    intro n
    induction n with
    | zero =>
      intro k  H locs hm hk12 hW hS ls hl
      exact absurd hm (by omega)
    | succ n ih4 =>
      intro k  H locs hm hk12 hW hS ls hl
      have hol := opnr_le S i (min k (S 0 2))
      refine lv_iload_n hx hb dX7_countOpen_4 rfl (lv_at hl 3 rfl) ?_
      refine lv_aload_n hx hb dX7_countOpen_5 rfl (lv_at hl 0 rfl) ?_
      refine g_get (ci := 7) X in_X7_countOpen_7 rfl hW hb0 5 (by decide) (hts _ (List.mem_of_getElem? (i := 1) rfl)) rfl dX7_countOpen_6 ?_
      refine z_alen (t := 2) X hW hb5 rfl dX7_countOpen_9 ?_
      refine z_icmp_ge (tgt := 52) hx hb dX7_countOpen_10 (by decide) (⟨by omega, by omega⟩) (⟨by omega, by omega⟩) (fun h_10 => ?_) (fun h_10 => ?_)
      · refine lv_iload_n hx hb dX7_countOpen_52 rfl (lv_at hl 2 rfl) ?_
        exact kret _ _ _ _ _ _ _ _ (⟨by rw [show min k (S 0 2) = S 0 2 by omega], rfl⟩) hW hS (Nat.le_of_ble_eq_true rfl) (Nat.le_of_ble_eq_true rfl) dX7_countOpen_53
      · refine lv_aload_n hx hb dX7_countOpen_13 rfl (lv_at hl 0 rfl) ?_
        refine g_get (ci := 7) X in_X7_countOpen_7 rfl hW hb0 5 (by decide) (hts _ (List.mem_of_getElem? (i := 1) rfl)) rfl dX7_countOpen_14 ?_
        refine lv_iload_n hx hb dX7_countOpen_17 rfl (lv_at hl 3 rfl) ?_
        refine z_aald (t := 2) X hW hb5 rfl (by omega) (by omega) (by omega) dX7_countOpen_18 ?_
        by_cases hin : k < S 0 2
        · rw [show va_rf (f5 (k : Int).toNat) = .ref (B 60 k) from by rw [show f5 (k : Int).toNat = some (B 60 k) from by rw [show ((k : Int)).toNat = k by omega]; exact hb5a k hin]; rfl]
          have hr0 := hb8 k hin
          have hwq := hwf.rm hin
          refine lv_astore (lv' := [(4, .ref (B 60 k)), (0, .ref (B 0 0)), (1, .ref (B 40 i)), (2, .int (zI (opnr S i (min k (S 0 2)) : Int))), (3, .int (zI (k : Int)))]) hx hb dX7_countOpen_19 hl (by decide) rfl (fun ls hl => ?_)
          refine lv_aload hx hb dX7_countOpen_21 (lv_at hl 0 rfl) ?_
          refine lv_ifnull hx hb dX7_countOpen_23 ?_
          refine lv_aload hx hb dX7_countOpen_26 (lv_at hl 0 rfl) ?_
          refine g_getN (ci := 3) X in_X7_countOpen_3 rfl hW hr0 0 (by decide) _ nf_5 rfl rfl dX7_countOpen_28 ?_
          refine lv_aload_n hx hb dX7_countOpen_31 rfl (lv_at hl 2 rfl) ?_
          refine lv_acmp_ne (rx := some (B 40 (S 11 k))) (ry := some (B 40 i)) (tgt := 46) hx hb dX7_countOpen_32 (by decide) (fun h_32 => ?_) (fun h_32 => ?_)
          · have e_32 : ¬ (S 11 k) = i := fun z => h_32 (by rw [z])
            have hq : opnr S i (min (k + 1) (S 0 2)) = opnr S i (min k (S 0 2)) := by rw [min_s hin, show min k (S 0 2) = k by omega]; rw [opnr_s, if_neg (fun z => e_32 z.1), Nat.add_zero]
            have hl : lv_has ls 5 [(4, .ref (B 60 k)), (0, .ref (B 0 0)), (1, .ref (B 40 i)), (2, .int (zI (opnr S i (min (k + 1) (S 0 2)) : Int))), (3, .int (zI (k : Int)))] := by rw [hq]; exact hl
            refine z_iinc (lv' := [(3, .int (zI ((k : Int) + 1))), (4, .ref (B 60 k)), (0, .ref (B 0 0)), (1, .ref (B 40 i)), (2, .int (zI (opnr S i (min (k + 1) (S 0 2)) : Int)))]) hx hb dX7_countOpen_46 hl (q := 4) rfl (by decide) rfl (fun ls hl => ?_)
            refine lv_goto (tgt := 4) hx hb dX7_countOpen_49 (by decide) ?_
            exact ih4 (k + 1) _ _ (by omega) (by omega) hW hS _ (lv_sub hl [2, 3, 4, 0] rfl)
          · have e_32 : (S 11 k) = i := ((hW 40 i _ hc0).2.2 40 (S 11 k) _ (cs.ch hcs hwq.1).1 (Option.some.inj h_32)).2
            refine lv_aload hx hb dX7_countOpen_35 (lv_at hl 0 rfl) ?_
            refine g_getN (ci := 3) X in_X7_countOpen_3 rfl hW hr0 3 (by decide) _ nf_4 rfl rfl dX7_countOpen_37 ?_
            refine z_if_ne (tgt := 46) hx hb dX7_countOpen_40 (by decide) (⟨by omega, by omega⟩) (fun h_40 => ?_) (fun h_40 => ?_)
            · have hq : opnr S i (min (k + 1) (S 0 2)) = opnr S i (min k (S 0 2)) := by rw [min_s hin, show min k (S 0 2) = k by omega]; rw [opnr_s, if_neg (fun z => h_40 (by omega)), Nat.add_zero]
              have hl : lv_has ls 5 [(4, .ref (B 60 k)), (0, .ref (B 0 0)), (1, .ref (B 40 i)), (2, .int (zI (opnr S i (min (k + 1) (S 0 2)) : Int))), (3, .int (zI (k : Int)))] := by rw [hq]; exact hl
              refine z_iinc (lv' := [(3, .int (zI ((k : Int) + 1))), (4, .ref (B 60 k)), (0, .ref (B 0 0)), (1, .ref (B 40 i)), (2, .int (zI (opnr S i (min (k + 1) (S 0 2)) : Int)))]) hx hb dX7_countOpen_46 hl (q := 4) rfl (by decide) rfl (fun ls hl => ?_)
              refine lv_goto (tgt := 4) hx hb dX7_countOpen_49 (by decide) ?_
              exact ih4 (k + 1) _ _ (by omega) (by omega) hW hS _ (lv_sub hl [2, 3, 4, 0] rfl)
            · refine z_iinc (lv' := [(2, .int (zI ((opnr S i (min k (S 0 2)) : Int) + 1))), (4, .ref (B 60 k)), (0, .ref (B 0 0)), (1, .ref (B 40 i)), (3, .int (zI (k : Int)))]) hx hb dX7_countOpen_43 hl (q := 3) rfl (by decide) rfl (fun ls hl => ?_)
              have hq : opnr S i (min (k + 1) (S 0 2)) = opnr S i (min k (S 0 2)) + 1 := by rw [min_s hin, show min k (S 0 2) = k by omega]; rw [opnr_s, if_pos ⟨e_32, by omega⟩]
              have hl : lv_has ls 5 [(2, .int (zI (opnr S i (min (k + 1) (S 0 2)) : Int))), (4, .ref (B 60 k)), (0, .ref (B 0 0)), (1, .ref (B 40 i)), (3, .int (zI (k : Int)))] := by rw [hq]; exact hl
              refine z_iinc (lv' := [(3, .int (zI ((k : Int) + 1))), (2, .int (zI (opnr S i (min (k + 1) (S 0 2)) : Int))), (4, .ref (B 60 k)), (0, .ref (B 0 0)), (1, .ref (B 40 i))]) hx hb dX7_countOpen_46 hl (q := 4) rfl (by decide) rfl (fun ls hl => ?_)
              refine lv_goto (tgt := 4) hx hb dX7_countOpen_49 (by decide) ?_
              exact ih4 (k + 1) _ _ (by omega) (by omega) hW hS _ (lv_sub hl [3, 4, 1, 0] rfl)
        · rw [show va_rf (f5 (k : Int).toNat) = .null from by rw [show f5 (k : Int).toNat = none from by rw [show ((k : Int)).toNat = k by omega]; exact hb5b k (by omega)]; rfl]
          refine lv_astoreN (lv' := [(4, .null), (0, .ref (B 0 0)), (1, .ref (B 40 i)), (2, .int (zI (opnr S i (min k (S 0 2)) : Int))), (3, .int (zI (k : Int)))]) hx hb dX7_countOpen_19 hl (by decide) rfl (fun ls hl => ?_)
          refine lv_aloadN hx hb dX7_countOpen_21 (lv_at hl 0 rfl) ?_
          refine lv_ifnullN (tgt := 46) hx hb dX7_countOpen_23 (by decide) ?_
          have hq : opnr S i (min (k + 1) (S 0 2)) = opnr S i (min k (S 0 2)) := by rw [min_e (by omega)]
          have hl : lv_has ls 5 [(4, .null), (0, .ref (B 0 0)), (1, .ref (B 40 i)), (2, .int (zI (opnr S i (min (k + 1) (S 0 2)) : Int))), (3, .int (zI (k : Int)))] := by rw [hq]; exact hl
          refine z_iinc (lv' := [(3, .int (zI ((k : Int) + 1))), (4, .null), (0, .ref (B 0 0)), (1, .ref (B 40 i)), (2, .int (zI (opnr S i (min (k + 1) (S 0 2)) : Int)))]) hx hb dX7_countOpen_46 hl (q := 4) rfl (by decide) rfl (fun ls hl => ?_)
          refine lv_goto (tgt := 4) hx hb dX7_countOpen_49 (by decide) ?_
          exact ih4 (k + 1) _ _ (by omega) (by omega) hW hS _ (lv_sub hl [2, 3, 4, 0] rfl)
  exact lp4 13 0 _ _ (by omega) (by omega) hW hS _ (lv_sub hl [2, 3, 1, 0] rfl)

theorem ds_X7_waitsForAnother : yX7_waitsForAnother.cls ≠ "java/lang/invoke/MethodHandle" ∧ yX7_waitsForAnother.cls ≠ "java/lang/invoke/VarHandle" ∧ (parseMethodDescriptor yX7_waitsForAnother.desc).map (fun d => d.parameters.length) = some 1 := by decide +kernel
theorem in_X7_waitsForAnother_1 : ∀ w ∈ wsX10, w ∈ wsX7_waitsForAnother := by decide +kernel
theorem in_X7_waitsForAnother_7 : ∀ w ∈ wsX70, w ∈ wsX7_waitsForAnother := by decide +kernel
def rX7_waitsForAnother : Room := { frames := 1, cells := 0, slots := 0, locals := 21 }
set_option maxHeartbeats 4000000 in
set_option maxRecDepth 100000 in
theorem k_X7_waitsForAnother {l : Launch} {Z : gZ} {B : gB} {C0 : gC} {S : gS} {T : gTx} {i : Nat} (hcs : cs Z B C0 S T) (hwf : wf S T) (hi : i < S 0 0) : Met l yX7_waitsForAnother wsX7_waitsForAnother rX7_waitsForAnother (gPc Z B C0 [.ref (B 0 0), .ref (B 40 i)]) (gQi Z B (fun r C1 => r = zI (if wai S i (S 0 0) = true then 1 else 0) ∧ C1 = C0)) 0 0 (gA Z) := by
  refine g_ofZ (cc := cX7_waitsForAnother) (maxL := 4) (by decide) rfl (Nat.le_of_ble_eq_true rfl) (fun r C1 h => by obtain ⟨h, -⟩ := h; rw [h]; split <;> rfl) ?_
  intro p e s m args below meth c Q X kret hW hS ls hl
  have hx := X.1.1
  have hb := X.1.2.1
  have hts := X.1.2.2.2.2
  have hl : lv_has ls 4 [(0, .ref (B 0 0)), (1, .ref (B 40 i))] := hl
  obtain ⟨hb0, hb1, ⟨F3, hb3, hb3a⟩, ⟨f4, hb4, hb4a, hb4b⟩, ⟨f5, hb5, hb5a, hb5b⟩, ⟨F6, hb6, hb6a⟩, hb7, hb8, hb9, hb10, hb11⟩ := id hcs
  have hwn := hwf.n
  obtain ⟨hc0, hc1, hc2, ⟨f45, hc3, hc3a, hc3b⟩, hc4, hc4n, hc5, F50, hc6, hc6a⟩ := id (cs.ch hcs hi)
  have hwi := hwf.ch hi
  refine lv_iconst (v := zI (0)) hx hb dX7_waitsForAnother_0 rfl ?_
  refine lv_istore_n (lv' := [(2, .int (zI 0)), (0, .ref (B 0 0)), (1, .ref (B 40 i))]) hx hb dX7_waitsForAnother_1 rfl hl (by decide) rfl (fun ls hl => ?_)
  have lp2 : ∀ (n : Nat) (k : Nat) (H : Heap) (locs : List Loc), (4 - k < n) → (k ≤ 4) → (wai S i (min k (S 0 0)) = false) → gw Z B C0 H → va_S (gA Z) s.heap H locs → ∀ ls : Array Slot, lv_has ls 4 [(0, .ref (B 0 0)), (1, .ref (B 40 i)), (2, .int (zI (k : Int)))] → W p l e rX7_waitsForAnother s m args below meth c H locs 0 0 Q (F0 m 2 ls []) := by
    intro n
    induction n with
    | zero =>
      intro k  H locs hm hk4 hwv hW hS ls hl
      exact absurd hm (by omega)
    | succ n ih2 =>
      intro k  H locs hm hk4 hwv hW hS ls hl
      refine lv_iload_n hx hb dX7_waitsForAnother_2 rfl (lv_at hl 2 rfl) ?_
      refine lv_aload_n hx hb dX7_waitsForAnother_3 rfl (lv_at hl 0 rfl) ?_
      refine g_get (ci := 7) X in_X7_waitsForAnother_7 rfl hW hb0 3 (by decide) (hts _ (List.mem_of_getElem? (i := 1) rfl)) rfl dX7_waitsForAnother_4 ?_
      refine z_alen (t := 1) X hW hb4 rfl dX7_waitsForAnother_7 ?_
      refine z_icmp_ge (tgt := 48) hx hb dX7_waitsForAnother_8 (by decide) (⟨by omega, by omega⟩) (⟨by omega, by omega⟩) (fun h_8 => ?_) (fun h_8 => ?_)
      · refine lv_iconst (v := zI (0)) hx hb dX7_waitsForAnother_48 rfl ?_
        exact kret _ _ _ _ _ _ _ _ (⟨by rw [if_neg (by rw [show min k (S 0 0) = S 0 0 by omega] at hwv; rw [hwv]; decide)], rfl⟩) hW hS (Nat.le_of_ble_eq_true rfl) (Nat.le_of_ble_eq_true rfl) dX7_waitsForAnother_49
      · refine lv_aload_n hx hb dX7_waitsForAnother_11 rfl (lv_at hl 0 rfl) ?_
        refine g_get (ci := 7) X in_X7_waitsForAnother_7 rfl hW hb0 3 (by decide) (hts _ (List.mem_of_getElem? (i := 1) rfl)) rfl dX7_waitsForAnother_12 ?_
        refine lv_iload_n hx hb dX7_waitsForAnother_15 rfl (lv_at hl 2 rfl) ?_
        refine z_aald (t := 1) X hW hb4 rfl (by omega) (by omega) (by omega) dX7_waitsForAnother_16 ?_
        by_cases hin : k < S 0 0
        · rw [show va_rf (f4 (k : Int).toNat) = .ref (B 40 k) from by rw [show f4 (k : Int).toNat = some (B 40 k) from by rw [show ((k : Int)).toNat = k by omega]; exact hb4a k hin]; rfl]
          have hwk := hwf.ch hin
          refine lv_astore_n (lv' := [(3, .ref (B 40 k)), (0, .ref (B 0 0)), (1, .ref (B 40 i)), (2, .int (zI (k : Int)))]) hx hb dX7_waitsForAnother_17 rfl hl (by decide) rfl (fun ls hl => ?_)
          refine lv_aload_n hx hb dX7_waitsForAnother_18 rfl (lv_at hl 0 rfl) ?_
          refine lv_ifnull hx hb dX7_waitsForAnother_19 ?_
          refine lv_aload_n hx hb dX7_waitsForAnother_22 rfl (lv_at hl 2 rfl) ?_
          refine g_getN (ci := 1) X in_X7_waitsForAnother_1 rfl hW hc0 9 (by decide) _ nf_2 rfl rfl dX7_waitsForAnother_23 ?_
          refine lv_iload_n hx hb dX7_waitsForAnother_26 rfl (lv_at hl 3 rfl) ?_
          refine g_ci (g_runS X (k_X7_hasBit (nb := (S 3 i)) (jb := k) (by omega) (by omega)) (va_cwS 2 hts gX7_waitsForAnother_X7_hasBit rfl rfl rfl ds_X7_hasBit ⟨Nat.le_of_ble_eq_true rfl, Nat.le_of_ble_eq_true rfl⟩) hW hS rfl hl.1 rfl (Nat.le_of_ble_eq_true rfl) dX7_waitsForAnother_27 ⟨Nat.le_of_ble_eq_true rfl, Nat.le_of_ble_eq_true rfl⟩) hS (fun r3 C1 H locs hp2 hW hS => ?_)
          obtain ⟨rfl, ehp2⟩ := hp2
          rw [ehp2] at hW
          refine z_ifb_eq (tgt := 42) hx hb dX7_waitsForAnother_30 (by decide) (fun h_30 => ?_) (fun h_30 => ?_)
          · refine z_iinc (lv' := [(2, .int (zI ((k : Int) + 1))), (3, .ref (B 40 k)), (0, .ref (B 0 0)), (1, .ref (B 40 i))]) hx hb dX7_waitsForAnother_42 hl (q := 3) rfl (by decide) rfl (fun ls hl => ?_)
            refine lv_goto (tgt := 2) hx hb dX7_waitsForAnother_45 (by decide) ?_
            exact ih2 (k + 1) _ _ (by omega) (by omega) (by rw [min_s hin]; rw [show min k (S 0 0) = k by omega] at hwv ⊢; exact wai_f hwv (fun z => h_30 z.1)) hW hS _ (lv_sub hl [2, 3, 0] rfl)
          · refine lv_aload_n hx hb dX7_waitsForAnother_33 rfl (lv_at hl 0 rfl) ?_
            refine g_getN (ci := 1) X in_X7_waitsForAnother_1 rfl hW (cs.ch hcs hin).1 8 (by decide) _ nf_8 rfl rfl dX7_waitsForAnother_34 ?_
            refine z_if_ne (tgt := 42) hx hb dX7_waitsForAnother_37 (by decide) (⟨by omega, by omega⟩) (fun h_37 => ?_) (fun h_37 => ?_)
            · refine z_iinc (lv' := [(2, .int (zI ((k : Int) + 1))), (3, .ref (B 40 k)), (0, .ref (B 0 0)), (1, .ref (B 40 i))]) hx hb dX7_waitsForAnother_42 hl (q := 3) rfl (by decide) rfl (fun ls hl => ?_)
              refine lv_goto (tgt := 2) hx hb dX7_waitsForAnother_45 (by decide) ?_
              exact ih2 (k + 1) _ _ (by omega) (by omega) (by rw [min_s hin]; rw [show min k (S 0 0) = k by omega] at hwv ⊢; exact wai_f hwv (fun z => h_37 (by omega))) hW hS _ (lv_sub hl [2, 3, 0] rfl)
            · refine lv_iconst (v := zI (1)) hx hb dX7_waitsForAnother_40 rfl ?_
              exact kret _ _ _ _ _ _ _ _ (⟨by rw [if_pos (wai_t _ hin h_30 (by omega))], rfl⟩) hW hS (Nat.le_of_ble_eq_true rfl) (Nat.le_of_ble_eq_true rfl) dX7_waitsForAnother_41
        · rw [show va_rf (f4 (k : Int).toNat) = .null from by rw [show f4 (k : Int).toNat = none from by rw [show ((k : Int)).toNat = k by omega]; exact hb4b k (by omega)]; rfl]
          refine lv_astore_nN (lv' := [(3, .null), (0, .ref (B 0 0)), (1, .ref (B 40 i)), (2, .int (zI (k : Int)))]) hx hb dX7_waitsForAnother_17 rfl hl (by decide) rfl (fun ls hl => ?_)
          refine lv_aload_nN hx hb dX7_waitsForAnother_18 rfl (lv_at hl 0 rfl) ?_
          refine lv_ifnullN (tgt := 42) hx hb dX7_waitsForAnother_19 (by decide) ?_
          refine z_iinc (lv' := [(2, .int (zI ((k : Int) + 1))), (3, .null), (0, .ref (B 0 0)), (1, .ref (B 40 i))]) hx hb dX7_waitsForAnother_42 hl (q := 3) rfl (by decide) rfl (fun ls hl => ?_)
          refine lv_goto (tgt := 2) hx hb dX7_waitsForAnother_45 (by decide) ?_
          exact ih2 (k + 1) _ _ (by omega) (by omega) (by rw [min_e (by omega)]; exact hwv) hW hS _ (lv_sub hl [2, 3, 0] rfl)
  exact lp2 5 0 _ _ (by omega) (by omega) (by rw [show min 0 (S 0 0) = 0 by omega]; rfl) hW hS _ (lv_sub hl [1, 2, 0] rfl)

theorem ds_X7_allBefore : yX7_allBefore.cls ≠ "java/lang/invoke/MethodHandle" ∧ yX7_allBefore.cls ≠ "java/lang/invoke/VarHandle" ∧ (parseMethodDescriptor yX7_allBefore.desc).map (fun d => d.parameters.length) = some 1 := by decide +kernel
theorem in_X7_allBefore_1 : ∀ w ∈ wsX10, w ∈ wsX7_allBefore := by decide +kernel
theorem in_X7_allBefore_7 : ∀ w ∈ wsX70, w ∈ wsX7_allBefore := by decide +kernel
def rX7_allBefore : Room := { frames := 1, cells := 0, slots := 0, locals := 21 }
set_option maxHeartbeats 4000000 in
set_option maxRecDepth 100000 in
theorem k_X7_allBefore {l : Launch} {Z : gZ} {B : gB} {C0 : gC} {S : gS} {T : gTx} {i : Nat} (hcs : cs Z B C0 S T) (hwf : wf S T) (hi : i < S 0 0) : Met l yX7_allBefore wsX7_allBefore rX7_allBefore (gPc Z B C0 [.ref (B 0 0), .ref (B 40 i)]) (gQi Z B (fun r C1 => r = zI (abf S i : Int) ∧ C1 = C0)) 0 0 (gA Z) := by
  refine g_ofI (cc := cX7_allBefore) (maxL := 6) (by decide) rfl (Nat.le_of_ble_eq_true rfl) ?_
  intro p e s m args below meth c Q X kret hW hS ls hl
  have hx := X.1.1
  have hb := X.1.2.1
  have hts := X.1.2.2.2.2
  have hl : lv_has ls 6 [(0, .ref (B 0 0)), (1, .ref (B 40 i))] := hl
  obtain ⟨hb0, hb1, ⟨F3, hb3, hb3a⟩, ⟨f4, hb4, hb4a, hb4b⟩, ⟨f5, hb5, hb5a, hb5b⟩, ⟨F6, hb6, hb6a⟩, hb7, hb8, hb9, hb10, hb11⟩ := id hcs
  have hwn := hwf.n
  obtain ⟨hc0, hc1, hc2, ⟨f45, hc3, hc3a, hc3b⟩, hc4, hc4n, hc5, F50, hc6, hc6a⟩ := id (cs.ch hcs hi)
  have hwi := hwf.ch hi
  refine lv_aload_n hx hb dX7_allBefore_0 rfl (lv_at hl 1 rfl) ?_
  refine g_getN (ci := 1) X in_X7_allBefore_1 rfl hW hc0 9 (by decide) _ nf_2 rfl rfl dX7_allBefore_1 ?_
  refine lv_istore_n (lv' := [(2, .int (zI (S 3 i : Int))), (0, .ref (B 0 0)), (1, .ref (B 40 i))]) hx hb dX7_allBefore_4 rfl hl (by decide) rfl (fun ls hl => ?_)
  refine lv_iconst (v := zI (0)) hx hb dX7_allBefore_5 rfl ?_
  refine lv_istore_n (lv' := [(3, .int (zI 0)), (2, .int (zI (S 3 i : Int))), (0, .ref (B 0 0)), (1, .ref (B 40 i))]) hx hb dX7_allBefore_6 rfl hl (by decide) rfl (fun ls hl => ?_)
  have lp7 : ∀ (n : Nat) (t : Nat) (H : Heap) (locs : List Loc), (4 - t < n) → (t ≤ 4) → gw Z B C0 H → va_S (gA Z) s.heap H locs → ∀ ls : Array Slot, lv_has ls 6 [(0, .ref (B 0 0)), (1, .ref (B 40 i)), (2, .int (zI (abt S (S 3 i) t : Int))), (3, .int (zI (t : Int)))] → W p l e rX7_allBefore s m args below meth c H locs 0 0 Q (F0 m 7 ls []) := by
    intro n
    induction n with
    | zero =>
      intro t  H locs hm ht4 hW hS ls hl
      exact absurd hm (by omega)
    | succ n ih7 =>
      intro t  H locs hm ht4 hW hS ls hl
      refine lv_iload_n hx hb dX7_allBefore_7 rfl (lv_at hl 3 rfl) ?_
      refine lv_iconst (v := zI (4)) hx hb dX7_allBefore_8 rfl ?_
      refine z_icmp_ge (tgt := 68) hx hb dX7_allBefore_9 (by decide) (⟨by omega, by omega⟩) (⟨by omega, by omega⟩) (fun h_9 => ?_) (fun h_9 => ?_)
      · refine lv_iload_n hx hb dX7_allBefore_68 rfl (lv_at hl 2 rfl) ?_
        exact kret _ _ _ _ _ _ _ _ (⟨by rw [show t = 4 by omega]; rfl, rfl⟩) hW hS (Nat.le_of_ble_eq_true rfl) (Nat.le_of_ble_eq_true rfl) dX7_allBefore_69
      · refine lv_iconst (v := zI (0)) hx hb dX7_allBefore_12 rfl ?_
        refine lv_istore (lv' := [(4, .int (zI 0)), (0, .ref (B 0 0)), (1, .ref (B 40 i)), (2, .int (zI (abt S (S 3 i) t : Int))), (3, .int (zI (t : Int)))]) hx hb dX7_allBefore_13 hl (by decide) rfl (fun ls hl => ?_)
        have hl : lv_has ls 6 [(4, .int (zI 0)), (0, .ref (B 0 0)), (1, .ref (B 40 i)), (2, .int (zI (ab1 S (abt S (S 3 i) t) (min 0 (S 0 0)) : Int))), (3, .int (zI (t : Int)))] := by rw [show min 0 (S 0 0) = 0 by omega]; exact hl
        have lp15 : ∀ (n : Nat) (k : Nat) (H : Heap) (locs : List Loc), (4 - k < n) → (k ≤ 4) → gw Z B C0 H → va_S (gA Z) s.heap H locs → ∀ ls : Array Slot, lv_has ls 6 [(0, .ref (B 0 0)), (1, .ref (B 40 i)), (2, .int (zI (ab1 S (abt S (S 3 i) t) (min k (S 0 0)) : Int))), (3, .int (zI (t : Int))), (4, .int (zI (k : Int)))] → W p l e rX7_allBefore s m args below meth c H locs 0 0 Q (F0 m 15 ls []) := by
          intro n
          induction n with
          | zero =>
            intro k  H locs hm hk4 hW hS ls hl
            exact absurd hm (by omega)
          | succ n ih15 =>
            intro k  H locs hm hk4 hW hS ls hl
            have hlt : ab1 S (abt S (S 3 i) t) (min k (S 0 0)) < 16 := ab1_lt (abt_lt hwi.2.2.1 (fun c hc => (hwf.ch hc).2.2.1) t) _ (fun c hc => (hwf.ch (show c < S 0 0 by omega)).2.2.1)
            refine lv_iload hx hb dX7_allBefore_15 (lv_at hl 4 rfl) ?_
            refine lv_aload_n hx hb dX7_allBefore_17 rfl (lv_at hl 0 rfl) ?_
            refine g_get (ci := 7) X in_X7_allBefore_7 rfl hW hb0 3 (by decide) (hts _ (List.mem_of_getElem? (i := 1) rfl)) rfl dX7_allBefore_18 ?_
            refine z_alen (t := 1) X hW hb4 rfl dX7_allBefore_21 ?_
            refine z_icmp_ge (tgt := 62) hx hb dX7_allBefore_22 (by decide) (⟨by omega, by omega⟩) (⟨by omega, by omega⟩) (fun h_22 => ?_) (fun h_22 => ?_)
            · have hl : lv_has ls 6 [(0, .ref (B 0 0)), (1, .ref (B 40 i)), (2, .int (zI (abt S (S 3 i) (t + 1) : Int))), (3, .int (zI (t : Int))), (4, .int (zI (k : Int)))] := by rw [show min k (S 0 0) = S 0 0 by omega] at hl; exact hl
              refine z_iinc (lv' := [(3, .int (zI ((t : Int) + 1))), (0, .ref (B 0 0)), (1, .ref (B 40 i)), (2, .int (zI (abt S (S 3 i) (t + 1) : Int))), (4, .int (zI (k : Int)))]) hx hb dX7_allBefore_62 hl (q := 3) rfl (by decide) rfl (fun ls hl => ?_)
              refine lv_goto (tgt := 7) hx hb dX7_allBefore_65 (by decide) ?_
              exact ih7 (t + 1) _ _ (by omega) (by omega) hW hS _ (lv_sub hl [1, 2, 3, 0] rfl)
            · refine lv_aload_n hx hb dX7_allBefore_25 rfl (lv_at hl 0 rfl) ?_
              refine g_get (ci := 7) X in_X7_allBefore_7 rfl hW hb0 3 (by decide) (hts _ (List.mem_of_getElem? (i := 1) rfl)) rfl dX7_allBefore_26 ?_
              refine lv_iload hx hb dX7_allBefore_29 (lv_at hl 4 rfl) ?_
              refine z_aald (t := 1) X hW hb4 rfl (by omega) (by omega) (by omega) dX7_allBefore_31 ?_
              by_cases hin : k < S 0 0
              · rw [show va_rf (f4 (k : Int).toNat) = .ref (B 40 k) from by rw [show f4 (k : Int).toNat = some (B 40 k) from by rw [show ((k : Int)).toNat = k by omega]; exact hb4a k hin]; rfl]
                have hwk := hwf.ch hin
                refine lv_astore (lv' := [(5, .ref (B 40 k)), (0, .ref (B 0 0)), (1, .ref (B 40 i)), (2, .int (zI (ab1 S (abt S (S 3 i) t) (min k (S 0 0)) : Int))), (3, .int (zI (t : Int))), (4, .int (zI (k : Int)))]) hx hb dX7_allBefore_32 hl (by decide) rfl (fun ls hl => ?_)
                refine lv_aload hx hb dX7_allBefore_34 (lv_at hl 0 rfl) ?_
                refine lv_ifnull hx hb dX7_allBefore_36 ?_
                refine lv_iload_n hx hb dX7_allBefore_39 rfl (lv_at hl 3 rfl) ?_
                refine lv_iload hx hb dX7_allBefore_40 (lv_at hl 5 rfl) ?_
                refine g_ci (g_runS X (k_X7_hasBit (nb := (ab1 S (abt S (S 3 i) t) (min k (S 0 0)))) (jb := k) (by omega) (by omega)) (va_cwS 2 hts gX7_allBefore_X7_hasBit rfl rfl rfl ds_X7_hasBit ⟨Nat.le_of_ble_eq_true rfl, Nat.le_of_ble_eq_true rfl⟩) hW hS rfl hl.1 rfl (Nat.le_of_ble_eq_true rfl) dX7_allBefore_42 ⟨Nat.le_of_ble_eq_true rfl, Nat.le_of_ble_eq_true rfl⟩) hS (fun r3 C1 H locs hp2 hW hS => ?_)
                obtain ⟨rfl, ehp2⟩ := hp2
                rw [ehp2] at hW
                refine z_ifb_eq (tgt := 56) hx hb dX7_allBefore_45 (by decide) (fun h_45 => ?_) (fun h_45 => ?_)
                · have hq : ab1 S (abt S (S 3 i) t) (min (k + 1) (S 0 0)) = ab1 S (abt S (S 3 i) t) (min k (S 0 0)) := by rw [min_s hin]; rw [show min k (S 0 0) = k by omega] at h_45 ⊢; rw [ab1_s, if_neg h_45]
                  have hl : lv_has ls 6 [(5, .ref (B 40 k)), (0, .ref (B 0 0)), (1, .ref (B 40 i)), (2, .int (zI (ab1 S (abt S (S 3 i) t) (min (k + 1) (S 0 0)) : Int))), (3, .int (zI (t : Int))), (4, .int (zI (k : Int)))] := by rw [hq]; exact hl
                  refine z_iinc (lv' := [(4, .int (zI ((k : Int) + 1))), (5, .ref (B 40 k)), (0, .ref (B 0 0)), (1, .ref (B 40 i)), (2, .int (zI (ab1 S (abt S (S 3 i) t) (min (k + 1) (S 0 0)) : Int))), (3, .int (zI (t : Int)))]) hx hb dX7_allBefore_56 hl (q := 5) rfl (by decide) rfl (fun ls hl => ?_)
                  refine lv_goto (tgt := 15) hx hb dX7_allBefore_59 (by decide) ?_
                  exact ih15 (k + 1) _ _ (by omega) (by omega) hW hS _ (lv_sub hl [2, 3, 4, 5, 0] rfl)
                · refine lv_iload_n hx hb dX7_allBefore_48 rfl (lv_at hl 3 rfl) ?_
                  refine lv_aload hx hb dX7_allBefore_49 (lv_at hl 0 rfl) ?_
                  refine g_getN (ci := 1) X in_X7_allBefore_1 rfl hW (cs.ch hcs hin).1 9 (by decide) _ nf_2 rfl rfl dX7_allBefore_51 ?_
                  refine lv_ior hx hb dX7_allBefore_54 ?_
                  rw [show ((zI (ab1 S (abt S (S 3 i) t) (min k (S 0 0)) : Int)) ||| (zI (S 3 k : Int))) = zI ((ab1 S (abt S (S 3 i) t) (min k (S 0 0)) ||| S 3 k : Nat) : Int) from bor_i (by omega) (by omega)]
                  refine lv_istore_n (lv' := [(2, .int (zI ((ab1 S (abt S (S 3 i) t) (min k (S 0 0)) ||| S 3 k : Nat) : Int))), (5, .ref (B 40 k)), (0, .ref (B 0 0)), (1, .ref (B 40 i)), (3, .int (zI (t : Int))), (4, .int (zI (k : Int)))]) hx hb dX7_allBefore_55 rfl hl (by decide) rfl (fun ls hl => ?_)
                  have hq : ab1 S (abt S (S 3 i) t) (min (k + 1) (S 0 0)) = (ab1 S (abt S (S 3 i) t) (min k (S 0 0)) ||| S 3 k) := by rw [min_s hin]; rw [show min k (S 0 0) = k by omega] at h_45 ⊢; rw [ab1_s, if_pos h_45]
                  have hl : lv_has ls 6 [(2, .int (zI (ab1 S (abt S (S 3 i) t) (min (k + 1) (S 0 0)) : Int))), (5, .ref (B 40 k)), (0, .ref (B 0 0)), (1, .ref (B 40 i)), (3, .int (zI (t : Int))), (4, .int (zI (k : Int)))] := by rw [hq]; exact hl
                  refine z_iinc (lv' := [(4, .int (zI ((k : Int) + 1))), (2, .int (zI (ab1 S (abt S (S 3 i) t) (min (k + 1) (S 0 0)) : Int))), (5, .ref (B 40 k)), (0, .ref (B 0 0)), (1, .ref (B 40 i)), (3, .int (zI (t : Int)))]) hx hb dX7_allBefore_56 hl (q := 5) rfl (by decide) rfl (fun ls hl => ?_)
                  refine lv_goto (tgt := 15) hx hb dX7_allBefore_59 (by decide) ?_
                  exact ih15 (k + 1) _ _ (by omega) (by omega) hW hS _ (lv_sub hl [3, 4, 1, 5, 0] rfl)
              · rw [show va_rf (f4 (k : Int).toNat) = .null from by rw [show f4 (k : Int).toNat = none from by rw [show ((k : Int)).toNat = k by omega]; exact hb4b k (by omega)]; rfl]
                refine lv_astoreN (lv' := [(5, .null), (0, .ref (B 0 0)), (1, .ref (B 40 i)), (2, .int (zI (ab1 S (abt S (S 3 i) t) (min k (S 0 0)) : Int))), (3, .int (zI (t : Int))), (4, .int (zI (k : Int)))]) hx hb dX7_allBefore_32 hl (by decide) rfl (fun ls hl => ?_)
                refine lv_aloadN hx hb dX7_allBefore_34 (lv_at hl 0 rfl) ?_
                refine lv_ifnullN (tgt := 56) hx hb dX7_allBefore_36 (by decide) ?_
                have hq : ab1 S (abt S (S 3 i) t) (min (k + 1) (S 0 0)) = ab1 S (abt S (S 3 i) t) (min k (S 0 0)) := by rw [min_e (by omega)]
                have hl : lv_has ls 6 [(5, .null), (0, .ref (B 0 0)), (1, .ref (B 40 i)), (2, .int (zI (ab1 S (abt S (S 3 i) t) (min (k + 1) (S 0 0)) : Int))), (3, .int (zI (t : Int))), (4, .int (zI (k : Int)))] := by rw [hq]; exact hl
                refine z_iinc (lv' := [(4, .int (zI ((k : Int) + 1))), (5, .null), (0, .ref (B 0 0)), (1, .ref (B 40 i)), (2, .int (zI (ab1 S (abt S (S 3 i) t) (min (k + 1) (S 0 0)) : Int))), (3, .int (zI (t : Int)))]) hx hb dX7_allBefore_56 hl (q := 5) rfl (by decide) rfl (fun ls hl => ?_)
                refine lv_goto (tgt := 15) hx hb dX7_allBefore_59 (by decide) ?_
                exact ih15 (k + 1) _ _ (by omega) (by omega) hW hS _ (lv_sub hl [2, 3, 4, 5, 0] rfl)
        exact lp15 5 0 _ _ (by omega) (by omega) hW hS _ (lv_sub hl [1, 2, 3, 4, 0] rfl)
  exact lp7 5 0 _ _ (by omega) (by omega) hW hS _ (lv_sub hl [2, 3, 1, 0] rfl)
