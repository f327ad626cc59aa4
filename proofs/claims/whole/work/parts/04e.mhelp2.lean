theorem ds_X8_opens : yX8_opens.cls ≠ "java/lang/invoke/MethodHandle" ∧ yX8_opens.cls ≠ "java/lang/invoke/VarHandle" ∧ (parseMethodDescriptor yX8_opens.desc).map (fun d => d.parameters.length) = some 1 := by decide +kernel
theorem in_X8_opens_8 : ∀ w ∈ wsX80, w ∈ wsX8_opens := by decide +kernel
def rX8_opens : Room := { frames := 0, cells := 0, slots := 0, locals := 0 }
set_option maxHeartbeats 4000000 in
set_option maxRecDepth 100000 in
theorem k_X8_opens {l : Launch} {Z : gZ} {B : gB} {C0 : gC} {S : gS} {T : gTx} {th : Int} {i : Nat} (hmd : md Z B C0 S T th) (hwf : wf S T) (hi : i < S 0 0) : Met l yX8_opens wsX8_opens rX8_opens (gPc Z B C0 [.ref (B 70 0), .int (zI (i : Int))]) (gQi Z B (fun r C1 => r = zI (opn S i : Int) ∧ C1 = C0)) 0 0 (gA Z) := by
  refine g_ofI (cc := cX8_opens) (maxL := 4) (by decide) rfl (Nat.le_of_ble_eq_true rfl) ?_
  intro p e s m args below meth c Q X kret hW hS ls hl
  have hx := X.1.1
  have hb := X.1.2.1
  have hts := X.1.2.2.2.2
  have hl : lv_has ls 4 [(0, .ref (B 70 0)), (1, .int (zI (i : Int)))] := hl
  obtain ⟨⟨mg, hm70⟩, ⟨F71, F72, hm71, hm72, hmt⟩, ⟨F73, hm73, ha73⟩, ⟨F74, hm74, ha74⟩, ⟨F75, hm75, ha75⟩, ⟨F76, hm76, ha76⟩, ⟨F77, hm77, ha77⟩, ⟨F78, hm78, ha78⟩, ⟨F79, hm79, ha79⟩, ⟨F80, hm80, ha80⟩, ⟨F81, hm81, ha81⟩, ⟨F82, hm82, ha82⟩, ⟨F83, hm83, ha83⟩, ⟨F84, hm84, ha84⟩, ⟨F85, hm85, ha85⟩, ⟨F86, hm86, ha86⟩, ⟨F87, hm87⟩, ⟨F88, hm88⟩, ⟨F89, hm89⟩, ⟨F90, hm90⟩⟩ := id hmd
  have hwn := hwf.n
  refine lv_iconst (v := zI (0)) hx hb dX8_opens_0 rfl ?_
  refine lv_istore_n (lv' := [(2, .int (zI 0)), (0, .ref (B 70 0)), (1, .int (zI (i : Int)))]) hx hb dX8_opens_1 rfl hl (by decide) rfl (fun ls hl => ?_)
  refine lv_iconst (v := zI (0)) hx hb dX8_opens_2 rfl ?_
  refine lv_istore_n (lv' := [(3, .int (zI 0)), (2, .int (zI 0)), (0, .ref (B 70 0)), (1, .int (zI (i : Int)))]) hx hb dX8_opens_3 rfl hl (by decide) rfl (fun ls hl => ?_)
  have lp4 : ∀ (n : Nat) (k : Nat) (H : Heap) (locs : List Loc), (S 0 2 - k < n) → (k ≤ S 0 2) → gw Z B C0 H → va_S (gA Z) s.heap H locs → ∀ ls : Array Slot, lv_has ls 4 [(0, .ref (B 70 0)), (1, .int (zI (i : Int))), (2, .int (zI (opnr S i k : Int))), (3, .int (zI (k : Int)))] → W p l e rX8_opens s m args below meth c H locs 0 0 Q (F0 m 4 ls []) := by
    intro n
    induction n with
    | zero =>
      intro k  H locs hm hkc hW hS ls hl
      exact absurd hm (by omega)
    | succ n ih4 =>
      intro k  H locs hm hkc hW hS ls hl
      have hol := opnr_le S i k
      have hwr := fun hk => hwf.rm (q := k) hk
      refine lv_iload_n hx hb dX8_opens_4 rfl (lv_at hl 3 rfl) ?_
      refine lv_aload_n hx hb dX8_opens_5 rfl (lv_at hl 0 rfl) ?_
      refine g_get (ci := 8) X in_X8_opens_8 rfl hW hm70 3 (by decide) (hts _ (List.mem_of_getElem? (i := 1) rfl)) rfl dX8_opens_6 ?_
      refine z_icmp_ge (tgt := 45) hx hb dX8_opens_9 (by decide) (⟨by omega, by omega⟩) (⟨by omega, by omega⟩) (fun h_9 => ?_) (fun h_9 => ?_)
      · refine lv_iload_n hx hb dX8_opens_45 rfl (lv_at hl 2 rfl) ?_
        exact kret _ _ _ _ _ _ _ _ (⟨by rw [show k = S 0 2 by omega], rfl⟩) hW hS (Nat.le_of_ble_eq_true rfl) (Nat.le_of_ble_eq_true rfl) dX8_opens_46
      · refine lv_iload_n hx hb dX8_opens_12 rfl (lv_at hl 2 rfl) ?_
        refine lv_aload_n hx hb dX8_opens_13 rfl (lv_at hl 0 rfl) ?_
        refine g_get (ci := 8) X in_X8_opens_8 rfl hW hm70 17 (by decide) (hts _ (List.mem_of_getElem? (i := 2) rfl)) rfl dX8_opens_14 ?_
        refine lv_iload_n hx hb dX8_opens_17 rfl (lv_at hl 3 rfl) ?_
        refine z_iald X hW hm83 (by omega) (by omega) (by omega) dX8_opens_18 ?_
        rw [show F83 (k : Int).toNat = (S 11 k : Int) from by rw [show (k : Int).toNat = k by omega]; exact ha83 _ (by omega)]
        have hwr1 := hwr (by omega)
        refine lv_iload_n hx hb dX8_opens_19 rfl (lv_at hl 1 rfl) ?_
        refine z_icmp_ne (tgt := 36) hx hb dX8_opens_20 (by decide) (⟨by omega, by omega⟩) (⟨by omega, by omega⟩) (fun h_20 => ?_) (fun h_20 => ?_)
        · refine lv_iconst (v := zI (0)) hx hb dX8_opens_36 rfl ?_
          refine z_iadd hx hb dX8_opens_37 ?_
          refine lv_istore_n (lv' := [(2, .int (zI ((opnr S i k : Int) + 0))), (0, .ref (B 70 0)), (1, .int (zI (i : Int))), (3, .int (zI (k : Int)))]) hx hb dX8_opens_38 rfl hl (by decide) rfl (fun ls hl => ?_)
          have hq : opnr S i (k + 1) = opnr S i k := by rw [opnr_s, if_neg (fun z9 => h_20 (by omega)), Nat.add_zero]
          rw [show (opnr S i k : Int) + 0 = ((opnr S i (k + 1) : Nat) : Int) from by rw [hq]; omega] at hl
          refine z_iinc (lv' := [(3, .int (zI ((k : Int) + 1))), (2, .int (zI (opnr S i (k + 1) : Int))), (0, .ref (B 70 0)), (1, .int (zI (i : Int)))]) hx hb dX8_opens_39 hl (q := 3) rfl (by decide) rfl (fun ls hl => ?_)
          refine lv_goto (tgt := 4) hx hb dX8_opens_42 (by decide) ?_
          exact ih4 (k + 1) _ _ (by omega) (by omega) hW hS _ (lv_sub hl [2, 3, 1, 0] rfl)
        · refine lv_aload_n hx hb dX8_opens_23 rfl (lv_at hl 0 rfl) ?_
          refine g_get (ci := 8) X in_X8_opens_8 rfl hW hm70 20 (by decide) (hts _ (List.mem_of_getElem? (i := 3) rfl)) rfl dX8_opens_24 ?_
          refine lv_iload_n hx hb dX8_opens_27 rfl (lv_at hl 3 rfl) ?_
          refine z_iald X hW hm86 (by omega) (by omega) (by omega) dX8_opens_28 ?_
          rw [show F86 (k : Int).toNat = (S 14 k : Int) from by rw [show (k : Int).toNat = k by omega]; exact ha86 _ (by omega)]
          refine z_if_ne (tgt := 36) hx hb dX8_opens_29 (by decide) (⟨by omega, by omega⟩) (fun h_29 => ?_) (fun h_29 => ?_)
          · refine lv_iconst (v := zI (0)) hx hb dX8_opens_36 rfl ?_
            refine z_iadd hx hb dX8_opens_37 ?_
            refine lv_istore_n (lv' := [(2, .int (zI ((opnr S i k : Int) + 0))), (0, .ref (B 70 0)), (1, .int (zI (i : Int))), (3, .int (zI (k : Int)))]) hx hb dX8_opens_38 rfl hl (by decide) rfl (fun ls hl => ?_)
            have hq : opnr S i (k + 1) = opnr S i k := by rw [opnr_s, if_neg (fun z9 => h_29 (by omega)), Nat.add_zero]
            rw [show (opnr S i k : Int) + 0 = ((opnr S i (k + 1) : Nat) : Int) from by rw [hq]; omega] at hl
            refine z_iinc (lv' := [(3, .int (zI ((k : Int) + 1))), (2, .int (zI (opnr S i (k + 1) : Int))), (0, .ref (B 70 0)), (1, .int (zI (i : Int)))]) hx hb dX8_opens_39 hl (q := 3) rfl (by decide) rfl (fun ls hl => ?_)
            refine lv_goto (tgt := 4) hx hb dX8_opens_42 (by decide) ?_
            exact ih4 (k + 1) _ _ (by omega) (by omega) hW hS _ (lv_sub hl [2, 3, 1, 0] rfl)
          · refine lv_iconst (v := zI (1)) hx hb dX8_opens_32 rfl ?_
            refine lv_goto (tgt := 37) hx hb dX8_opens_33 (by decide) ?_
            refine z_iadd hx hb dX8_opens_37 ?_
            refine lv_istore_n (lv' := [(2, .int (zI ((opnr S i k : Int) + 1))), (0, .ref (B 70 0)), (1, .int (zI (i : Int))), (3, .int (zI (k : Int)))]) hx hb dX8_opens_38 rfl hl (by decide) rfl (fun ls hl => ?_)
            have hq : opnr S i (k + 1) = opnr S i k + 1 := by rw [opnr_s, if_pos ⟨by omega, by omega⟩]
            rw [show (opnr S i k : Int) + 1 = ((opnr S i (k + 1) : Nat) : Int) from by rw [hq]; omega] at hl
            refine z_iinc (lv' := [(3, .int (zI ((k : Int) + 1))), (2, .int (zI (opnr S i (k + 1) : Int))), (0, .ref (B 70 0)), (1, .int (zI (i : Int)))]) hx hb dX8_opens_39 hl (q := 3) rfl (by decide) rfl (fun ls hl => ?_)
            refine lv_goto (tgt := 4) hx hb dX8_opens_42 (by decide) ?_
            exact ih4 (k + 1) _ _ (by omega) (by omega) hW hS _ (lv_sub hl [2, 3, 1, 0] rfl)
  exact lp4 (S 0 2 + 1) 0 _ _ (by omega) (by omega) hW hS _ (lv_sub hl [2, 3, 1, 0] rfl)

theorem ds_X8_isNeeded : yX8_isNeeded.cls ≠ "java/lang/invoke/MethodHandle" ∧ yX8_isNeeded.cls ≠ "java/lang/invoke/VarHandle" ∧ (parseMethodDescriptor yX8_isNeeded.desc).map (fun d => d.parameters.length) = some 2 := by decide +kernel
theorem in_X8_isNeeded_8 : ∀ w ∈ wsX80, w ∈ wsX8_isNeeded := by decide +kernel
def rX8_isNeeded : Room := { frames := 3, cells := 0, slots := 0, locals := 73 }
set_option maxHeartbeats 4000000 in
set_option maxRecDepth 100000 in
theorem k_X8_isNeeded {l : Launch} {Z : gZ} {B : gB} {C0 : gC} {S : gS} {T : gTx} {th : Int} {i : Nat} {u : Nat} (hmd : md Z B C0 S T th) (hwf : wf S T) (hi : i < S 0 0) (hu : u < 5) : Met l yX8_isNeeded wsX8_isNeeded rX8_isNeeded (gPc Z B C0 [.ref (B 70 0), .int (zI (i : Int)), .int (zI (u : Int))]) (gQi Z B (fun r C1 => r = zI (if (nee S T i).testBit u = true then 1 else 0) ∧ md Z B C1 S T th ∧ fmd C0 C1)) 0 0 (gA Z) := by
  refine g_ofZ (cc := cX8_isNeeded) (maxL := 3) (by decide) rfl (Nat.le_of_ble_eq_true rfl) (fun r C1 h => by obtain ⟨h, -⟩ := h; rw [h]; split <;> rfl) ?_
  intro p e s m args below meth c Q X kret hW hS ls hl
  have hx := X.1.1
  have hb := X.1.2.1
  have hts := X.1.2.2.2.2
  have hl : lv_has ls 3 [(0, .ref (B 70 0)), (1, .int (zI (i : Int))), (2, .int (zI (u : Int)))] := hl
  obtain ⟨⟨mg, hm70⟩, ⟨F71, F72, hm71, hm72, hmt⟩, ⟨F73, hm73, ha73⟩, ⟨F74, hm74, ha74⟩, ⟨F75, hm75, ha75⟩, ⟨F76, hm76, ha76⟩, ⟨F77, hm77, ha77⟩, ⟨F78, hm78, ha78⟩, ⟨F79, hm79, ha79⟩, ⟨F80, hm80, ha80⟩, ⟨F81, hm81, ha81⟩, ⟨F82, hm82, ha82⟩, ⟨F83, hm83, ha83⟩, ⟨F84, hm84, ha84⟩, ⟨F85, hm85, ha85⟩, ⟨F86, hm86, ha86⟩, ⟨F87, hm87⟩, ⟨F88, hm88⟩, ⟨F89, hm89⟩, ⟨F90, hm90⟩⟩ := id hmd
  have hwn := hwf.n
  have hwi := hwf.ch hi
  refine lv_aload_n hx hb dX8_isNeeded_0 rfl (lv_at hl 0 rfl) ?_
  refine g_get (ci := 8) X in_X8_isNeeded_8 rfl hW hm70 11 (by decide) (hts _ (List.mem_of_getElem? (i := 1) rfl)) rfl dX8_isNeeded_1 ?_
  refine lv_iload_n hx hb dX8_isNeeded_4 rfl (lv_at hl 1 rfl) ?_
  refine z_iald X hW hm77 (by omega) (by omega) (by omega) dX8_isNeeded_5 ?_
  rw [show F77 (i : Int).toNat = (S 2 i : Int) from by rw [show (i : Int).toNat = i by omega]; exact ha77 _ (by omega)]
  refine z_if_le (tgt := 39) hx hb dX8_isNeeded_6 (by decide) (⟨by omega, by omega⟩) (fun h_6 => ?_) (fun h_6 => ?_)
  · refine lv_iconst (v := zI (0)) hx hb dX8_isNeeded_39 rfl ?_
    exact kret _ _ _ _ _ _ _ _ (⟨by rw [if_neg (by rw [nee_t hwf hi hu, decide_eq_false (show ¬ 0 < S 2 i by omega)]; simp)], hmd, fmd.rfl'⟩) hW hS (Nat.le_of_ble_eq_true rfl) (Nat.le_of_ble_eq_true rfl) dX8_isNeeded_40
  · refine lv_iload_n hx hb dX8_isNeeded_9 rfl (lv_at hl 2 rfl) ?_
    refine lv_aload_n hx hb dX8_isNeeded_10 rfl (lv_at hl 0 rfl) ?_
    refine g_get (ci := 8) X in_X8_isNeeded_8 rfl hW hm70 10 (by decide) (hts _ (List.mem_of_getElem? (i := 2) rfl)) rfl dX8_isNeeded_11 ?_
    refine lv_iload_n hx hb dX8_isNeeded_14 rfl (lv_at hl 1 rfl) ?_
    refine z_iald X hW hm76 (by omega) (by omega) (by omega) dX8_isNeeded_15 ?_
    rw [show F76 (i : Int).toNat = (S 1 i : Int) from by rw [show (i : Int).toNat = i by omega]; exact ha76 _ (by omega)]
    refine z_icmp_eq (tgt := 39) hx hb dX8_isNeeded_16 (by decide) (⟨by omega, by omega⟩) (⟨by omega, by omega⟩) (fun h_16 => ?_) (fun h_16 => ?_)
    · refine lv_iconst (v := zI (0)) hx hb dX8_isNeeded_39 rfl ?_
      exact kret _ _ _ _ _ _ _ _ (⟨by rw [if_neg (by rw [nee_t hwf hi hu, decide_eq_false (show ¬ ¬ u = S 1 i by omega)]; simp)], hmd, fmd.rfl'⟩) hW hS (Nat.le_of_ble_eq_true rfl) (Nat.le_of_ble_eq_true rfl) dX8_isNeeded_40
    · refine lv_aload_n hx hb dX8_isNeeded_19 rfl (lv_at hl 0 rfl) ?_
      refine lv_iconst (v := zI (1)) hx hb dX8_isNeeded_20 rfl ?_
      refine lv_iload_n hx hb dX8_isNeeded_21 rfl (lv_at hl 1 rfl) ?_
      refine z_iadd hx hb dX8_isNeeded_22 ?_
      refine lv_aload_n hx hb dX8_isNeeded_23 rfl (lv_at hl 0 rfl) ?_
      refine lv_iload_n hx hb dX8_isNeeded_24 rfl (lv_at hl 1 rfl) ?_
      refine g_ci (g_runV X (k_X8_present (i := i) hmd hwf hi (by omega)) (cwV 1 hts gX8_isNeeded_X8_present rfl rfl rfl ⟨rfl, ds_X8_present⟩ ⟨Nat.le_of_ble_eq_true rfl, Nat.le_of_ble_eq_true rfl⟩) hW hS hm70 rfl rfl hl.1 rfl (Nat.le_of_ble_eq_true rfl) dX8_isNeeded_25 ⟨Nat.le_of_ble_eq_true rfl, Nat.le_of_ble_eq_true rfl⟩) hS (fun r3 C1 H locs hp2 hW hS => ?_)
      obtain ⟨rfl, ehp2⟩ := hp2
      rw [ehp2] at hW
      refine lv_iload_n hx hb dX8_isNeeded_28 rfl (lv_at hl 2 rfl) ?_
      rw [show zI (1 + (i : Int)) = zI (((1 + i : Nat) : Nat) : Int) from congrArg zI (by omega)]
      refine g_ci (g_runV X (k_X8_touches (sa := (1 + i)) (sb := (9 + 4 * i + (S 2 i - 1))) (u := u) hmd hwf (by omega) (by omega) (by omega)) (cwV 3 hts gX8_isNeeded_X8_touches rfl rfl rfl ⟨rfl, ds_X8_touches⟩ ⟨Nat.le_of_ble_eq_true rfl, Nat.le_of_ble_eq_true rfl⟩) hW hS hm70 rfl rfl hl.1 rfl (Nat.le_of_ble_eq_true rfl) dX8_isNeeded_29 ⟨Nat.le_of_ble_eq_true rfl, Nat.le_of_ble_eq_true rfl⟩) hS (fun r6 C4 H locs hp5 hW hS => ?_)
      obtain ⟨e7, hmd8, hf9⟩ := hp5
      rw [e7]
      obtain ⟨⟨mgz8, hm70z8⟩, ⟨F71z8, F72z8, hm71z8, hm72z8, hmtz8⟩, ⟨F73z8, hm73z8, ha73z8⟩, ⟨F74z8, hm74z8, ha74z8⟩, ⟨F75z8, hm75z8, ha75z8⟩, ⟨F76z8, hm76z8, ha76z8⟩, ⟨F77z8, hm77z8, ha77z8⟩, ⟨F78z8, hm78z8, ha78z8⟩, ⟨F79z8, hm79z8, ha79z8⟩, ⟨F80z8, hm80z8, ha80z8⟩, ⟨F81z8, hm81z8, ha81z8⟩, ⟨F82z8, hm82z8, ha82z8⟩, ⟨F83z8, hm83z8, ha83z8⟩, ⟨F84z8, hm84z8, ha84z8⟩, ⟨F85z8, hm85z8, ha85z8⟩, ⟨F86z8, hm86z8, ha86z8⟩, ⟨F87z8, hm87z8⟩, ⟨F88z8, hm88z8⟩, ⟨F89z8, hm89z8⟩, ⟨F90z8, hm90z8⟩⟩ := id hmd8
      have hwnz8 := hwf.n
      refine z_ifb_eq (tgt := 39) hx hb dX8_isNeeded_32 (by decide) (fun h_32 => ?_) (fun h_32 => ?_)
      · refine lv_iconst (v := zI (0)) hx hb dX8_isNeeded_39 rfl ?_
        exact kret _ _ _ _ _ _ _ _ (⟨by rw [if_neg (by rw [nee_t hwf hi hu, decide_eq_true (show 0 < S 2 i by omega), decide_eq_true (show ¬ u = S 1 i by omega)]; simpa using h_32)], hmd8, (fun k' i' h => (hf9 k' i' (by omega)))⟩) hW hS (Nat.le_of_ble_eq_true rfl) (Nat.le_of_ble_eq_true rfl) dX8_isNeeded_40
      · refine lv_iconst (v := zI (1)) hx hb dX8_isNeeded_35 rfl ?_
        refine lv_goto (tgt := 40) hx hb dX8_isNeeded_36 (by decide) ?_
        exact kret _ _ _ _ _ _ _ _ (⟨by rw [if_pos (by rw [nee_t hwf hi hu, decide_eq_true (show 0 < S 2 i by omega), decide_eq_true (show ¬ u = S 1 i by omega)]; simpa using h_32)], hmd8, (fun k' i' h => (hf9 k' i' (by omega)))⟩) hW hS (Nat.le_of_ble_eq_true rfl) (Nat.le_of_ble_eq_true rfl) dX8_isNeeded_40

theorem ds_X8_isOld : yX8_isOld.cls ≠ "java/lang/invoke/MethodHandle" ∧ yX8_isOld.cls ≠ "java/lang/invoke/VarHandle" ∧ (parseMethodDescriptor yX8_isOld.desc).map (fun d => d.parameters.length) = some 2 := by decide +kernel
theorem in_X8_isOld_8 : ∀ w ∈ wsX80, w ∈ wsX8_isOld := by decide +kernel
def rX8_isOld : Room := { frames := 3, cells := 0, slots := 0, locals := 73 }
set_option maxHeartbeats 4000000 in
set_option maxRecDepth 100000 in
theorem k_X8_isOld {l : Launch} {Z : gZ} {B : gB} {C0 : gC} {S : gS} {T : gTx} {th : Int} {i : Nat} {u : Nat} (hmd : md Z B C0 S T th) (hwf : wf S T) (hi : i < S 0 0) (hu : u < 5) (h71 : 1 ≤ S 7 (5 * i + u)) : Met l yX8_isOld wsX8_isOld rX8_isOld (gPc Z B C0 [.ref (B 70 0), .int (zI (i : Int)), .int (zI (u : Int))]) (gQi Z B (fun r C1 => r = zI (if old S T i u (S 7 (5 * i + u)) = true then 1 else 0) ∧ md Z B C1 S T th ∧ fmd C0 C1)) 0 0 (gA Z) := by
  refine g_ofZ (cc := cX8_isOld) (maxL := 4) (by decide) rfl (Nat.le_of_ble_eq_true rfl) (fun r C1 h => by obtain ⟨h, -⟩ := h; rw [h]; split <;> rfl) ?_
  intro p e s m args below meth c Q X kret hW hS ls hl
  have hx := X.1.1
  have hb := X.1.2.1
  have hts := X.1.2.2.2.2
  have hl : lv_has ls 4 [(0, .ref (B 70 0)), (1, .int (zI (i : Int))), (2, .int (zI (u : Int)))] := hl
  obtain ⟨⟨mg, hm70⟩, ⟨F71, F72, hm71, hm72, hmt⟩, ⟨F73, hm73, ha73⟩, ⟨F74, hm74, ha74⟩, ⟨F75, hm75, ha75⟩, ⟨F76, hm76, ha76⟩, ⟨F77, hm77, ha77⟩, ⟨F78, hm78, ha78⟩, ⟨F79, hm79, ha79⟩, ⟨F80, hm80, ha80⟩, ⟨F81, hm81, ha81⟩, ⟨F82, hm82, ha82⟩, ⟨F83, hm83, ha83⟩, ⟨F84, hm84, ha84⟩, ⟨F85, hm85, ha85⟩, ⟨F86, hm86, ha86⟩, ⟨F87, hm87⟩, ⟨F88, hm88⟩, ⟨F89, hm89⟩, ⟨F90, hm90⟩⟩ := id hmd
  have hwn := hwf.n
  have hwi := hwf.ch hi
  have hw7 := hwi.2.2.2.2.2 u hu
  refine lv_aload_n hx hb dX8_isOld_0 rfl (lv_at hl 0 rfl) ?_
  refine lv_iload_n hx hb dX8_isOld_1 rfl (lv_at hl 1 rfl) ?_
  refine lv_iload_n hx hb dX8_isOld_2 rfl (lv_at hl 2 rfl) ?_
  refine g_ci (g_runV X (k_X8_given (i := i) (u := u) hmd hwf hi (by omega)) (cwV 2 hts gX8_isOld_X8_given rfl rfl rfl ⟨rfl, ds_X8_given⟩ ⟨Nat.le_of_ble_eq_true rfl, Nat.le_of_ble_eq_true rfl⟩) hW hS hm70 rfl rfl hl.1 rfl (Nat.le_of_ble_eq_true rfl) dX8_isOld_3 ⟨Nat.le_of_ble_eq_true rfl, Nat.le_of_ble_eq_true rfl⟩) hS (fun r3 C1 H locs hp2 hW hS => ?_)
  obtain ⟨rfl, ehp2⟩ := hp2
  rw [ehp2] at hW
  refine lv_istore_n (lv' := [(3, .int (zI ((S 7 (5 * i + u) : Int) - 1))), (0, .ref (B 70 0)), (1, .int (zI (i : Int))), (2, .int (zI (u : Int)))]) hx hb dX8_isOld_6 rfl hl (by decide) rfl (fun ls hl => ?_)
  have lp7 : ∀ (n : Nat) (q : Nat) (Cl : gC) (H : Heap) (locs : List Loc), (S 2 i - q < n) → (1 ≤ q ∧ q ≤ S 2 i) → (old S T i u q = old S T i u (S 7 (5 * i + u))) → (md Z B Cl S T th) → (fmd C0 Cl) → gw Z B Cl H → va_S (gA Z) s.heap H locs → ∀ ls : Array Slot, lv_has ls 4 [(0, .ref (B 70 0)), (1, .int (zI (i : Int))), (2, .int (zI (u : Int))), (3, .int (zI ((q : Int) - 1)))] → W p l e rX8_isOld s m args below meth c H locs 0 0 Q (F0 m 7 ls []) := by
    intro n
    induction n with
    | zero =>
      intro q Cl H locs hm hq1 hold hmdl hfl hW hS ls hl
      exact absurd hm (by omega)
    | succ n ih7 =>
      intro q Cl H locs hm hq1 hold hmdl hfl hW hS ls hl
      obtain ⟨⟨mgl, hm70l⟩, ⟨F71l, F72l, hm71l, hm72l, hmtl⟩, ⟨F73l, hm73l, ha73l⟩, ⟨F74l, hm74l, ha74l⟩, ⟨F75l, hm75l, ha75l⟩, ⟨F76l, hm76l, ha76l⟩, ⟨F77l, hm77l, ha77l⟩, ⟨F78l, hm78l, ha78l⟩, ⟨F79l, hm79l, ha79l⟩, ⟨F80l, hm80l, ha80l⟩, ⟨F81l, hm81l, ha81l⟩, ⟨F82l, hm82l, ha82l⟩, ⟨F83l, hm83l, ha83l⟩, ⟨F84l, hm84l, ha84l⟩, ⟨F85l, hm85l, ha85l⟩, ⟨F86l, hm86l, ha86l⟩, ⟨F87l, hm87l⟩, ⟨F88l, hm88l⟩, ⟨F89l, hm89l⟩, ⟨F90l, hm90l⟩⟩ := id hmdl
      have hwnl := hwf.n
      refine lv_iload_n hx hb dX8_isOld_7 rfl (lv_at hl 3 rfl) ?_
      refine lv_iconst (v := zI (1)) hx hb dX8_isOld_8 rfl ?_
      refine z_iadd hx hb dX8_isOld_9 ?_
      refine lv_aload_n hx hb dX8_isOld_10 rfl (lv_at hl 0 rfl) ?_
      refine g_get (ci := 8) X in_X8_isOld_8 rfl hW hm70l 11 (by decide) (hts _ (List.mem_of_getElem? (i := 1) rfl)) rfl dX8_isOld_11 ?_
      refine lv_iload_n hx hb dX8_isOld_14 rfl (lv_at hl 1 rfl) ?_
      refine z_iald X hW hm77l (by omega) (by omega) (by omega) dX8_isOld_15 ?_
      rw [show F77l (i : Int).toNat = (S 2 i : Int) from by rw [show (i : Int).toNat = i by omega]; exact ha77l _ (by omega)]
      refine z_icmp_ge (tgt := 47) hx hb dX8_isOld_16 (by decide) (⟨by omega, by omega⟩) (⟨by omega, by omega⟩) (fun h_16 => ?_) (fun h_16 => ?_)
      · refine lv_iconst (v := zI (0)) hx hb dX8_isOld_47 rfl ?_
        exact kret _ _ _ _ _ _ _ _ (⟨by rw [if_neg (by rw [← hold, old_end (by omega)]; decide)], hmdl, hfl⟩) hW hS (Nat.le_of_ble_eq_true rfl) (Nat.le_of_ble_eq_true rfl) dX8_isOld_48
      · refine lv_aload_n hx hb dX8_isOld_19 rfl (lv_at hl 0 rfl) ?_
        refine lv_iload_n hx hb dX8_isOld_20 rfl (lv_at hl 1 rfl) ?_
        refine lv_iload_n hx hb dX8_isOld_21 rfl (lv_at hl 3 rfl) ?_
        refine g_ci (g_runS X (k_X8_slot (a := (i : Int)) (b := ((q : Int) - 1))) (va_cwS 2 hts gX8_isOld_X8_slot rfl rfl rfl ds_X8_slot ⟨Nat.le_of_ble_eq_true rfl, Nat.le_of_ble_eq_true rfl⟩) hW hS rfl hl.1 rfl (Nat.le_of_ble_eq_true rfl) dX8_isOld_22 ⟨Nat.le_of_ble_eq_true rfl, Nat.le_of_ble_eq_true rfl⟩) hS (fun r6 C4 H locs hp5 hW hS => ?_)
        obtain ⟨rfl, ehp5⟩ := hp5
        rw [ehp5] at hW
        refine lv_iload_n hx hb dX8_isOld_25 rfl (lv_at hl 1 rfl) ?_
        refine lv_iload_n hx hb dX8_isOld_26 rfl (lv_at hl 3 rfl) ?_
        refine lv_iconst (v := zI (1)) hx hb dX8_isOld_27 rfl ?_
        refine z_iadd hx hb dX8_isOld_28 ?_
        refine g_ci (g_runS X (k_X8_slot (a := (i : Int)) (b := (((q : Int) - 1) + 1))) (va_cwS 2 hts gX8_isOld_X8_slot rfl rfl rfl ds_X8_slot ⟨Nat.le_of_ble_eq_true rfl, Nat.le_of_ble_eq_true rfl⟩) hW hS rfl hl.1 rfl (Nat.le_of_ble_eq_true rfl) dX8_isOld_29 ⟨Nat.le_of_ble_eq_true rfl, Nat.le_of_ble_eq_true rfl⟩) hS (fun r9 C7 H locs hp8 hW hS => ?_)
        obtain ⟨rfl, ehp8⟩ := hp8
        rw [ehp8] at hW
        refine lv_iload_n hx hb dX8_isOld_32 rfl (lv_at hl 2 rfl) ?_
        rw [show zI (9 + 4 * (i : Int) + ((q : Int) - 1)) = zI (((9 + 4 * i + (q - 1) : Nat) : Nat) : Int) from congrArg zI (by omega)]
        rw [show zI (9 + 4 * (i : Int) + (((q : Int) - 1) + 1)) = zI (((9 + 4 * i + q : Nat) : Nat) : Int) from congrArg zI (by omega)]
        refine g_ci (g_runV X (k_X8_touches (sa := (9 + 4 * i + (q - 1))) (sb := (9 + 4 * i + q)) (u := u) hmdl hwf (by omega) (by omega) (by omega)) (cwV 3 hts gX8_isOld_X8_touches rfl rfl rfl ⟨rfl, ds_X8_touches⟩ ⟨Nat.le_of_ble_eq_true rfl, Nat.le_of_ble_eq_true rfl⟩) hW hS hm70l rfl rfl hl.1 rfl (Nat.le_of_ble_eq_true rfl) dX8_isOld_33 ⟨Nat.le_of_ble_eq_true rfl, Nat.le_of_ble_eq_true rfl⟩) hS (fun r12 C10 H locs hp11 hW hS => ?_)
        obtain ⟨e13, hmd14, hf15⟩ := hp11
        rw [e13]
        obtain ⟨⟨mgz14, hm70z14⟩, ⟨F71z14, F72z14, hm71z14, hm72z14, hmtz14⟩, ⟨F73z14, hm73z14, ha73z14⟩, ⟨F74z14, hm74z14, ha74z14⟩, ⟨F75z14, hm75z14, ha75z14⟩, ⟨F76z14, hm76z14, ha76z14⟩, ⟨F77z14, hm77z14, ha77z14⟩, ⟨F78z14, hm78z14, ha78z14⟩, ⟨F79z14, hm79z14, ha79z14⟩, ⟨F80z14, hm80z14, ha80z14⟩, ⟨F81z14, hm81z14, ha81z14⟩, ⟨F82z14, hm82z14, ha82z14⟩, ⟨F83z14, hm83z14, ha83z14⟩, ⟨F84z14, hm84z14, ha84z14⟩, ⟨F85z14, hm85z14, ha85z14⟩, ⟨F86z14, hm86z14, ha86z14⟩, ⟨F87z14, hm87z14⟩, ⟨F88z14, hm88z14⟩, ⟨F89z14, hm89z14⟩, ⟨F90z14, hm90z14⟩⟩ := id hmd14
        have hwnz14 := hwf.n
        refine z_ifb_eq (tgt := 41) hx hb dX8_isOld_36 (by decide) (fun h_36 => ?_) (fun h_36 => ?_)
        · refine z_iinc (lv' := [(3, .int (zI (((q : Int) - 1) + 1))), (0, .ref (B 70 0)), (1, .int (zI (i : Int))), (2, .int (zI (u : Int)))]) hx hb dX8_isOld_41 hl (q := 3) rfl (by decide) rfl (fun ls hl => ?_)
          refine lv_goto (tgt := 7) hx hb dX8_isOld_44 (by decide) ?_
          rw [show ((q : Int) - 1 + 1) = ((q + 1 : Nat) : Int) - 1 by omega] at hl
          exact ih7 (q + 1) _ _ _ (by omega) (by omega) (by rw [← hold, old_s (q := q) (by omega), show tch S (rdt T i (q - 1)) (rdt T i q) u = false from by simpa using h_36]; rfl) hmd14 (fmd.trans hfl (fun k' i' h => (hf15 k' i' (by omega)))) hW hS _ (lv_sub hl [1, 2, 3, 0] rfl)
        · refine lv_iconst (v := zI (1)) hx hb dX8_isOld_39 rfl ?_
          exact kret _ _ _ _ _ _ _ _ (⟨by rw [if_pos (by rw [← hold, old_s (q := q) (by omega), show tch S (rdt T i (q - 1)) (rdt T i q) u = true from h_36]; rfl)], hmd14, (fmd.trans hfl (fun k' i' h => (hf15 k' i' (by omega))))⟩) hW hS (Nat.le_of_ble_eq_true rfl) (Nat.le_of_ble_eq_true rfl) dX8_isOld_40
  exact lp7 (S 2 i + 1) (S 7 (5 * i + u)) _ _ _ (by omega) (by omega) rfl hmd fmd.rfl' hW hS _ (lv_sub hl [1, 2, 3, 0] rfl)

def cntb (p : Nat → Bool) : Nat → Nat
  | 0 => 0
  | n + 1 => cntb p n + (p n).toNat
theorem cntb_le (p : Nat → Bool) : ∀ n, cntb p n ≤ n
  | 0 => Nat.le_refl _
  | n + 1 => by
    have := cntb_le p n
    have h : (p n).toNat ≤ 1 := by cases p n <;> decide
    unfold cntb
    omega
theorem cntb_s (p : Nat → Bool) (n : Nat) : cntb p (n + 1) = cntb p n + (p n).toNat := rfl
theorem cntb_5 (p : Nat → Bool) : cntb p 5 = bcnt (mkb p 5) := by
  have h := fun j hj => mkb_t p 5 (by omega) j hj
  unfold bcnt
  rw [h 0 (by omega), h 1 (by omega), h 2 (by omega), h 3 (by omega), h 4 (by omega)]
  simp [cntb]
theorem lac_t {S : gS} {T : gTx} {i u : Nat} (hwf : wf S T) (hi : i < S 0 0) (hu : u < 5) : (bdif (nee S T i) (fre S T i)).testBit u = ((nee S T i).testBit u && !frb S T i u) := by
  rw [bdif_t (nee_lt hwf.rg (hwf.ch hi).1) fre_lt hu, fre, mkb_t _ 5 (by omega) u hu]
  simp [hu]

theorem ds_X8_fresh : yX8_fresh.cls ≠ "java/lang/invoke/MethodHandle" ∧ yX8_fresh.cls ≠ "java/lang/invoke/VarHandle" ∧ (parseMethodDescriptor yX8_fresh.desc).map (fun d => d.parameters.length) = some 1 := by decide +kernel
def rX8_fresh : Room := { frames := 4, cells := 0, slots := 0, locals := 96 }
set_option maxHeartbeats 4000000 in
set_option maxRecDepth 100000 in
theorem k_X8_fresh {l : Launch} {Z : gZ} {B : gB} {C0 : gC} {S : gS} {T : gTx} {th : Int} {i : Nat} (hmd : md Z B C0 S T th) (hwf : wf S T) (hi : i < S 0 0) : Met l yX8_fresh wsX8_fresh rX8_fresh (gPc Z B C0 [.ref (B 70 0), .int (zI (i : Int))]) (gQi Z B (fun r C1 => r = zI (bcnt (fre S T i) : Int) ∧ md Z B C1 S T th ∧ fmd C0 C1)) 0 0 (gA Z) := by
  refine g_ofI (cc := cX8_fresh) (maxL := 4) (by decide) rfl (Nat.le_of_ble_eq_true rfl) ?_
  intro p e s m args below meth c Q X kret hW hS ls hl
  have hx := X.1.1
  have hb := X.1.2.1
  have hts := X.1.2.2.2.2
  have hl : lv_has ls 4 [(0, .ref (B 70 0)), (1, .int (zI (i : Int)))] := hl
  obtain ⟨⟨mg, hm70⟩, ⟨F71, F72, hm71, hm72, hmt⟩, ⟨F73, hm73, ha73⟩, ⟨F74, hm74, ha74⟩, ⟨F75, hm75, ha75⟩, ⟨F76, hm76, ha76⟩, ⟨F77, hm77, ha77⟩, ⟨F78, hm78, ha78⟩, ⟨F79, hm79, ha79⟩, ⟨F80, hm80, ha80⟩, ⟨F81, hm81, ha81⟩, ⟨F82, hm82, ha82⟩, ⟨F83, hm83, ha83⟩, ⟨F84, hm84, ha84⟩, ⟨F85, hm85, ha85⟩, ⟨F86, hm86, ha86⟩, ⟨F87, hm87⟩, ⟨F88, hm88⟩, ⟨F89, hm89⟩, ⟨F90, hm90⟩⟩ := id hmd
  have hwn := hwf.n
  have hwi := hwf.ch hi
  refine lv_iconst (v := zI (0)) hx hb dX8_fresh_0 rfl ?_
  refine lv_istore_n (lv' := [(2, .int (zI 0)), (0, .ref (B 70 0)), (1, .int (zI (i : Int)))]) hx hb dX8_fresh_1 rfl hl (by decide) rfl (fun ls hl => ?_)
  refine lv_iconst (v := zI (0)) hx hb dX8_fresh_2 rfl ?_
  refine lv_istore_n (lv' := [(3, .int (zI 0)), (2, .int (zI 0)), (0, .ref (B 70 0)), (1, .int (zI (i : Int)))]) hx hb dX8_fresh_3 rfl hl (by decide) rfl (fun ls hl => ?_)
  have lp4 : ∀ (n : Nat) (k : Nat) (Cl : gC) (H : Heap) (locs : List Loc), (5 - k < n) → (k ≤ 5) → (md Z B Cl S T th) → (fmd C0 Cl) → gw Z B Cl H → va_S (gA Z) s.heap H locs → ∀ ls : Array Slot, lv_has ls 4 [(0, .ref (B 70 0)), (1, .int (zI (i : Int))), (2, .int (zI (cntb (frb S T i) k : Int))), (3, .int (zI (k : Int)))] → W p l e rX8_fresh s m args below meth c H locs 0 0 Q (F0 m 4 ls []) := by
    intro n
    induction n with
    | zero =>
      intro k Cl H locs hm hk5 hmdl hfl hW hS ls hl
      exact absurd hm (by omega)
    | succ n ih4 =>
      intro k Cl H locs hm hk5 hmdl hfl hW hS ls hl
      obtain ⟨⟨mgl, hm70l⟩, ⟨F71l, F72l, hm71l, hm72l, hmtl⟩, ⟨F73l, hm73l, ha73l⟩, ⟨F74l, hm74l, ha74l⟩, ⟨F75l, hm75l, ha75l⟩, ⟨F76l, hm76l, ha76l⟩, ⟨F77l, hm77l, ha77l⟩, ⟨F78l, hm78l, ha78l⟩, ⟨F79l, hm79l, ha79l⟩, ⟨F80l, hm80l, ha80l⟩, ⟨F81l, hm81l, ha81l⟩, ⟨F82l, hm82l, ha82l⟩, ⟨F83l, hm83l, ha83l⟩, ⟨F84l, hm84l, ha84l⟩, ⟨F85l, hm85l, ha85l⟩, ⟨F86l, hm86l, ha86l⟩, ⟨F87l, hm87l⟩, ⟨F88l, hm88l⟩, ⟨F89l, hm89l⟩, ⟨F90l, hm90l⟩⟩ := id hmdl
      have hwnl := hwf.n
      have hcl := cntb_le (frb S T i) k
      refine lv_iload_n hx hb dX8_fresh_4 rfl (lv_at hl 3 rfl) ?_
      refine lv_iconst (v := zI (5)) hx hb dX8_fresh_5 rfl ?_
      refine z_icmp_ge (tgt := 41) hx hb dX8_fresh_6 (by decide) (⟨by omega, by omega⟩) (⟨by omega, by omega⟩) (fun h_6 => ?_) (fun h_6 => ?_)
      · refine lv_iload_n hx hb dX8_fresh_41 rfl (lv_at hl 2 rfl) ?_
        exact kret _ _ _ _ _ _ _ _ (⟨by rw [show k = 5 by omega, cntb_5]; rfl, hmdl, hfl⟩) hW hS (Nat.le_of_ble_eq_true rfl) (Nat.le_of_ble_eq_true rfl) dX8_fresh_42
      · refine lv_iload_n hx hb dX8_fresh_9 rfl (lv_at hl 2 rfl) ?_
        refine lv_aload_n hx hb dX8_fresh_10 rfl (lv_at hl 0 rfl) ?_
        refine lv_iload_n hx hb dX8_fresh_11 rfl (lv_at hl 1 rfl) ?_
        refine lv_iload_n hx hb dX8_fresh_12 rfl (lv_at hl 3 rfl) ?_
        refine g_ci (g_runV X (k_X8_given (i := i) (u := k) hmdl hwf hi (by omega)) (cwV 2 hts gX8_fresh_X8_given rfl rfl rfl ⟨rfl, ds_X8_given⟩ ⟨Nat.le_of_ble_eq_true rfl, Nat.le_of_ble_eq_true rfl⟩) hW hS hm70l rfl rfl hl.1 rfl (Nat.le_of_ble_eq_true rfl) dX8_fresh_13 ⟨Nat.le_of_ble_eq_true rfl, Nat.le_of_ble_eq_true rfl⟩) hS (fun r3 C1 H locs hp2 hW hS => ?_)
        obtain ⟨rfl, ehp2⟩ := hp2
        rw [ehp2] at hW
        have hw7 := hwi.2.2.2.2.2 k (by omega)
        refine z_if_lt (tgt := 32) hx hb dX8_fresh_16 (by decide) (⟨by omega, by omega⟩) (fun h_16 => ?_) (fun h_16 => ?_)
        · refine lv_iconst (v := zI (0)) hx hb dX8_fresh_32 rfl ?_
          refine z_iadd hx hb dX8_fresh_33 ?_
          refine lv_istore_n (lv' := [(2, .int (zI ((cntb (frb S T i) k : Int) + 0))), (0, .ref (B 70 0)), (1, .int (zI (i : Int))), (3, .int (zI (k : Int)))]) hx hb dX8_fresh_34 rfl hl (by decide) rfl (fun ls hl => ?_)
          have hq : cntb (frb S T i) (k + 1) = cntb (frb S T i) k := by rw [cntb_s, show frb S T i k = false from by unfold frb; rw [decide_eq_false (by omega)]; rfl]; rfl
          rw [show (cntb (frb S T i) k : Int) + 0 = ((cntb (frb S T i) (k + 1) : Nat) : Int) from by rw [hq]; omega] at hl
          refine z_iinc (lv' := [(3, .int (zI ((k : Int) + 1))), (2, .int (zI (cntb (frb S T i) (k + 1) : Int))), (0, .ref (B 70 0)), (1, .int (zI (i : Int)))]) hx hb dX8_fresh_35 hl (q := 3) rfl (by decide) rfl (fun ls hl => ?_)
          refine lv_goto (tgt := 4) hx hb dX8_fresh_38 (by decide) ?_
          exact ih4 (k + 1) _ _ _ (by omega) (by omega) hmdl hfl hW hS _ (lv_sub hl [2, 3, 1, 0] rfl)
        · refine lv_aload_n hx hb dX8_fresh_19 rfl (lv_at hl 0 rfl) ?_
          refine lv_iload_n hx hb dX8_fresh_20 rfl (lv_at hl 1 rfl) ?_
          refine lv_iload_n hx hb dX8_fresh_21 rfl (lv_at hl 3 rfl) ?_
          refine g_ci (g_runV X (k_X8_isOld (i := i) (u := k) hmdl hwf hi (by omega) (by omega)) (cwV 2 hts gX8_fresh_X8_isOld rfl rfl rfl ⟨rfl, ds_X8_isOld⟩ ⟨Nat.le_of_ble_eq_true rfl, Nat.le_of_ble_eq_true rfl⟩) hW hS hm70l rfl rfl hl.1 rfl (Nat.le_of_ble_eq_true rfl) dX8_fresh_22 ⟨Nat.le_of_ble_eq_true rfl, Nat.le_of_ble_eq_true rfl⟩) hS (fun r6 C4 H locs hp5 hW hS => ?_)
          obtain ⟨e7, hmd8, hf9⟩ := hp5
          rw [e7]
          obtain ⟨⟨mgz8, hm70z8⟩, ⟨F71z8, F72z8, hm71z8, hm72z8, hmtz8⟩, ⟨F73z8, hm73z8, ha73z8⟩, ⟨F74z8, hm74z8, ha74z8⟩, ⟨F75z8, hm75z8, ha75z8⟩, ⟨F76z8, hm76z8, ha76z8⟩, ⟨F77z8, hm77z8, ha77z8⟩, ⟨F78z8, hm78z8, ha78z8⟩, ⟨F79z8, hm79z8, ha79z8⟩, ⟨F80z8, hm80z8, ha80z8⟩, ⟨F81z8, hm81z8, ha81z8⟩, ⟨F82z8, hm82z8, ha82z8⟩, ⟨F83z8, hm83z8, ha83z8⟩, ⟨F84z8, hm84z8, ha84z8⟩, ⟨F85z8, hm85z8, ha85z8⟩, ⟨F86z8, hm86z8, ha86z8⟩, ⟨F87z8, hm87z8⟩, ⟨F88z8, hm88z8⟩, ⟨F89z8, hm89z8⟩, ⟨F90z8, hm90z8⟩⟩ := id hmd8
          have hwnz8 := hwf.n
          refine z_ifb_ne (tgt := 32) hx hb dX8_fresh_25 (by decide) (fun h_25 => ?_) (fun h_25 => ?_)
          · refine lv_iconst (v := zI (0)) hx hb dX8_fresh_32 rfl ?_
            refine z_iadd hx hb dX8_fresh_33 ?_
            refine lv_istore_n (lv' := [(2, .int (zI ((cntb (frb S T i) k : Int) + 0))), (0, .ref (B 70 0)), (1, .int (zI (i : Int))), (3, .int (zI (k : Int)))]) hx hb dX8_fresh_34 rfl hl (by decide) rfl (fun ls hl => ?_)
            have hq : cntb (frb S T i) (k + 1) = cntb (frb S T i) k := by rw [cntb_s, show frb S T i k = false from by unfold frb; rw [h_25]; simp]; rfl
            rw [show (cntb (frb S T i) k : Int) + 0 = ((cntb (frb S T i) (k + 1) : Nat) : Int) from by rw [hq]; omega] at hl
            refine z_iinc (lv' := [(3, .int (zI ((k : Int) + 1))), (2, .int (zI (cntb (frb S T i) (k + 1) : Int))), (0, .ref (B 70 0)), (1, .int (zI (i : Int)))]) hx hb dX8_fresh_35 hl (q := 3) rfl (by decide) rfl (fun ls hl => ?_)
            refine lv_goto (tgt := 4) hx hb dX8_fresh_38 (by decide) ?_
            exact ih4 (k + 1) _ _ _ (by omega) (by omega) hmd8 (fmd.trans hfl (fun k' i' h => (hf9 k' i' (by omega)))) hW hS _ (lv_sub hl [2, 3, 1, 0] rfl)
          · refine lv_iconst (v := zI (1)) hx hb dX8_fresh_28 rfl ?_
            refine lv_goto (tgt := 33) hx hb dX8_fresh_29 (by decide) ?_
            refine z_iadd hx hb dX8_fresh_33 ?_
            refine lv_istore_n (lv' := [(2, .int (zI ((cntb (frb S T i) k : Int) + 1))), (0, .ref (B 70 0)), (1, .int (zI (i : Int))), (3, .int (zI (k : Int)))]) hx hb dX8_fresh_34 rfl hl (by decide) rfl (fun ls hl => ?_)
            have hq : cntb (frb S T i) (k + 1) = cntb (frb S T i) k + 1 := by rw [cntb_s, show frb S T i k = true from by unfold frb; rw [decide_eq_true (by omega)]; simpa using h_25]; rfl
            rw [show (cntb (frb S T i) k : Int) + 1 = ((cntb (frb S T i) (k + 1) : Nat) : Int) from by rw [hq]; omega] at hl
            refine z_iinc (lv' := [(3, .int (zI ((k : Int) + 1))), (2, .int (zI (cntb (frb S T i) (k + 1) : Int))), (0, .ref (B 70 0)), (1, .int (zI (i : Int)))]) hx hb dX8_fresh_35 hl (q := 3) rfl (by decide) rfl (fun ls hl => ?_)
            refine lv_goto (tgt := 4) hx hb dX8_fresh_38 (by decide) ?_
            exact ih4 (k + 1) _ _ _ (by omega) (by omega) hmd8 (fmd.trans hfl (fun k' i' h => (hf9 k' i' (by omega)))) hW hS _ (lv_sub hl [2, 3, 1, 0] rfl)
  exact lp4 6 0 _ _ _ (by omega) (by omega) hmd fmd.rfl' hW hS _ (lv_sub hl [2, 3, 1, 0] rfl)

theorem ds_X8_lacking : yX8_lacking.cls ≠ "java/lang/invoke/MethodHandle" ∧ yX8_lacking.cls ≠ "java/lang/invoke/VarHandle" ∧ (parseMethodDescriptor yX8_lacking.desc).map (fun d => d.parameters.length) = some 1 := by decide +kernel
def rX8_lacking : Room := { frames := 4, cells := 0, slots := 0, locals := 96 }
set_option maxHeartbeats 4000000 in
set_option maxRecDepth 100000 in
theorem k_X8_lacking {l : Launch} {Z : gZ} {B : gB} {C0 : gC} {S : gS} {T : gTx} {th : Int} {i : Nat} (hmd : md Z B C0 S T th) (hwf : wf S T) (hi : i < S 0 0) : Met l yX8_lacking wsX8_lacking rX8_lacking (gPc Z B C0 [.ref (B 70 0), .int (zI (i : Int))]) (gQi Z B (fun r C1 => r = zI (enc (mis S T i)) ∧ md Z B C1 S T th ∧ fmd C0 C1)) 0 0 (gA Z) := by
  refine g_ofI (cc := cX8_lacking) (maxL := 3) (by decide) rfl (Nat.le_of_ble_eq_true rfl) ?_
  intro p e s m args below meth c Q X kret hW hS ls hl
  have hx := X.1.1
  have hb := X.1.2.1
  have hts := X.1.2.2.2.2
  have hl : lv_has ls 3 [(0, .ref (B 70 0)), (1, .int (zI (i : Int)))] := hl
  obtain ⟨⟨mg, hm70⟩, ⟨F71, F72, hm71, hm72, hmt⟩, ⟨F73, hm73, ha73⟩, ⟨F74, hm74, ha74⟩, ⟨F75, hm75, ha75⟩, ⟨F76, hm76, ha76⟩, ⟨F77, hm77, ha77⟩, ⟨F78, hm78, ha78⟩, ⟨F79, hm79, ha79⟩, ⟨F80, hm80, ha80⟩, ⟨F81, hm81, ha81⟩, ⟨F82, hm82, ha82⟩, ⟨F83, hm83, ha83⟩, ⟨F84, hm84, ha84⟩, ⟨F85, hm85, ha85⟩, ⟨F86, hm86, ha86⟩, ⟨F87, hm87⟩, ⟨F88, hm88⟩, ⟨F89, hm89⟩, ⟨F90, hm90⟩⟩ := id hmd
  have hwn := hwf.n
  have hwi := hwf.ch hi
  refine lv_iconst (v := zI (0)) hx hb dX8_lacking_0 rfl ?_
  refine lv_istore_n (lv' := [(2, .int (zI 0)), (0, .ref (B 70 0)), (1, .int (zI (i : Int)))]) hx hb dX8_lacking_1 rfl hl (by decide) rfl (fun ls hl => ?_)
  have lp2 : ∀ (n : Nat) (k : Nat) (Cl : gC) (H : Heap) (locs : List Loc), (5 - k < n) → (k ≤ 5) → (fst5 (bdif (nee S T i) (fre S T i)) (5 - k) = mis S T i) → (md Z B Cl S T th) → (fmd C0 Cl) → gw Z B Cl H → va_S (gA Z) s.heap H locs → ∀ ls : Array Slot, lv_has ls 3 [(0, .ref (B 70 0)), (1, .int (zI (i : Int))), (2, .int (zI (k : Int)))] → W p l e rX8_lacking s m args below meth c H locs 0 0 Q (F0 m 2 ls []) := by
    intro n
    induction n with
    | zero =>
      intro k Cl H locs hm hk5 hfs hmdl hfl hW hS ls hl
      exact absurd hm (by omega)
    | succ n ih2 =>
      intro k Cl H locs hm hk5 hfs hmdl hfl hW hS ls hl
      obtain ⟨⟨mgl, hm70l⟩, ⟨F71l, F72l, hm71l, hm72l, hmtl⟩, ⟨F73l, hm73l, ha73l⟩, ⟨F74l, hm74l, ha74l⟩, ⟨F75l, hm75l, ha75l⟩, ⟨F76l, hm76l, ha76l⟩, ⟨F77l, hm77l, ha77l⟩, ⟨F78l, hm78l, ha78l⟩, ⟨F79l, hm79l, ha79l⟩, ⟨F80l, hm80l, ha80l⟩, ⟨F81l, hm81l, ha81l⟩, ⟨F82l, hm82l, ha82l⟩, ⟨F83l, hm83l, ha83l⟩, ⟨F84l, hm84l, ha84l⟩, ⟨F85l, hm85l, ha85l⟩, ⟨F86l, hm86l, ha86l⟩, ⟨F87l, hm87l⟩, ⟨F88l, hm88l⟩, ⟨F89l, hm89l⟩, ⟨F90l, hm90l⟩⟩ := id hmdl
      have hwnl := hwf.n
      refine lv_iload_n hx hb dX8_lacking_2 rfl (lv_at hl 2 rfl) ?_
      refine lv_iconst (v := zI (5)) hx hb dX8_lacking_3 rfl ?_
      refine z_icmp_ge (tgt := 42) hx hb dX8_lacking_4 (by decide) (⟨by omega, by omega⟩) (⟨by omega, by omega⟩) (fun h_4 => ?_) (fun h_4 => ?_)
      · refine lv_iconst (v := zI (-1)) hx hb dX8_lacking_42 rfl ?_
        exact kret _ _ _ _ _ _ _ _ (⟨by rw [← hfs, show 5 - k = 0 by omega]; rfl, hmdl, hfl⟩) hW hS (Nat.le_of_ble_eq_true rfl) (Nat.le_of_ble_eq_true rfl) dX8_lacking_43
      · refine lv_aload_n hx hb dX8_lacking_7 rfl (lv_at hl 0 rfl) ?_
        refine lv_iload_n hx hb dX8_lacking_8 rfl (lv_at hl 1 rfl) ?_
        refine lv_iload_n hx hb dX8_lacking_9 rfl (lv_at hl 2 rfl) ?_
        refine g_ci (g_runV X (k_X8_isNeeded (i := i) (u := k) hmdl hwf hi (by omega)) (cwV 2 hts gX8_lacking_X8_isNeeded rfl rfl rfl ⟨rfl, ds_X8_isNeeded⟩ ⟨Nat.le_of_ble_eq_true rfl, Nat.le_of_ble_eq_true rfl⟩) hW hS hm70l rfl rfl hl.1 rfl (Nat.le_of_ble_eq_true rfl) dX8_lacking_10 ⟨Nat.le_of_ble_eq_true rfl, Nat.le_of_ble_eq_true rfl⟩) hS (fun r3 C1 H locs hp2 hW hS => ?_)
        obtain ⟨e4, hmd5, hf6⟩ := hp2
        rw [e4]
        obtain ⟨⟨mgz5, hm70z5⟩, ⟨F71z5, F72z5, hm71z5, hm72z5, hmtz5⟩, ⟨F73z5, hm73z5, ha73z5⟩, ⟨F74z5, hm74z5, ha74z5⟩, ⟨F75z5, hm75z5, ha75z5⟩, ⟨F76z5, hm76z5, ha76z5⟩, ⟨F77z5, hm77z5, ha77z5⟩, ⟨F78z5, hm78z5, ha78z5⟩, ⟨F79z5, hm79z5, ha79z5⟩, ⟨F80z5, hm80z5, ha80z5⟩, ⟨F81z5, hm81z5, ha81z5⟩, ⟨F82z5, hm82z5, ha82z5⟩, ⟨F83z5, hm83z5, ha83z5⟩, ⟨F84z5, hm84z5, ha84z5⟩, ⟨F85z5, hm85z5, ha85z5⟩, ⟨F86z5, hm86z5, ha86z5⟩, ⟨F87z5, hm87z5⟩, ⟨F88z5, hm88z5⟩, ⟨F89z5, hm89z5⟩, ⟨F90z5, hm90z5⟩⟩ := id hmd5
        have hwnz5 := hwf.n
        refine z_ifb_eq (tgt := 36) hx hb dX8_lacking_13 (by decide) (fun h_13 => ?_) (fun h_13 => ?_)
        · refine z_iinc (lv' := [(2, .int (zI ((k : Int) + 1))), (0, .ref (B 70 0)), (1, .int (zI (i : Int)))]) hx hb dX8_lacking_36 hl (q := 2) rfl (by decide) rfl (fun ls hl => ?_)
          refine lv_goto (tgt := 2) hx hb dX8_lacking_39 (by decide) ?_
          exact ih2 (k + 1) _ _ _ (by omega) (by omega) ((fst5_f (by omega) (by rw [lac_t hwf hi (by omega), show (nee S T i).testBit k = false from by simpa using h_13]; simp)).trans hfs) hmd5 (fmd.trans hfl (fun k' i' h => (hf6 k' i' (by omega)))) hW hS _ (lv_sub hl [1, 2, 0] rfl)
        · refine lv_aload_n hx hb dX8_lacking_16 rfl (lv_at hl 0 rfl) ?_
          refine lv_iload_n hx hb dX8_lacking_17 rfl (lv_at hl 1 rfl) ?_
          refine lv_iload_n hx hb dX8_lacking_18 rfl (lv_at hl 2 rfl) ?_
          refine g_ci (g_runV X (k_X8_given (i := i) (u := k) hmd5 hwf hi (by omega)) (cwV 2 hts gX8_lacking_X8_given rfl rfl rfl ⟨rfl, ds_X8_given⟩ ⟨Nat.le_of_ble_eq_true rfl, Nat.le_of_ble_eq_true rfl⟩) hW hS hm70z5 rfl rfl hl.1 rfl (Nat.le_of_ble_eq_true rfl) dX8_lacking_19 ⟨Nat.le_of_ble_eq_true rfl, Nat.le_of_ble_eq_true rfl⟩) hS (fun r9 C7 H locs hp8 hW hS => ?_)
          obtain ⟨rfl, ehp8⟩ := hp8
          rw [ehp8] at hW
          have hw7 := hwi.2.2.2.2.2 k (by omega)
          refine z_if_lt (tgt := 34) hx hb dX8_lacking_22 (by decide) (⟨by omega, by omega⟩) (fun h_22 => ?_) (fun h_22 => ?_)
          · refine lv_iload_n hx hb dX8_lacking_34 rfl (lv_at hl 2 rfl) ?_
            exact kret _ _ _ _ _ _ _ _ (⟨by rw [← hfs, fst5_t (by omega) (by rw [lac_t hwf hi (by omega), h_13, show frb S T i k = false from by unfold frb; rw [decide_eq_false (by omega)]; rfl]; rfl)]; rfl, hmd5, (fmd.trans hfl (fun k' i' h => (hf6 k' i' (by omega))))⟩) hW hS (Nat.le_of_ble_eq_true rfl) (Nat.le_of_ble_eq_true rfl) dX8_lacking_35
          · refine lv_aload_n hx hb dX8_lacking_25 rfl (lv_at hl 0 rfl) ?_
            refine lv_iload_n hx hb dX8_lacking_26 rfl (lv_at hl 1 rfl) ?_
            refine lv_iload_n hx hb dX8_lacking_27 rfl (lv_at hl 2 rfl) ?_
            refine g_ci (g_runV X (k_X8_isOld (i := i) (u := k) hmd5 hwf hi (by omega) (by omega)) (cwV 2 hts gX8_lacking_X8_isOld rfl rfl rfl ⟨rfl, ds_X8_isOld⟩ ⟨Nat.le_of_ble_eq_true rfl, Nat.le_of_ble_eq_true rfl⟩) hW hS hm70z5 rfl rfl hl.1 rfl (Nat.le_of_ble_eq_true rfl) dX8_lacking_28 ⟨Nat.le_of_ble_eq_true rfl, Nat.le_of_ble_eq_true rfl⟩) hS (fun r12 C10 H locs hp11 hW hS => ?_)
            obtain ⟨e13, hmd14, hf15⟩ := hp11
            rw [e13]
            obtain ⟨⟨mgz14, hm70z14⟩, ⟨F71z14, F72z14, hm71z14, hm72z14, hmtz14⟩, ⟨F73z14, hm73z14, ha73z14⟩, ⟨F74z14, hm74z14, ha74z14⟩, ⟨F75z14, hm75z14, ha75z14⟩, ⟨F76z14, hm76z14, ha76z14⟩, ⟨F77z14, hm77z14, ha77z14⟩, ⟨F78z14, hm78z14, ha78z14⟩, ⟨F79z14, hm79z14, ha79z14⟩, ⟨F80z14, hm80z14, ha80z14⟩, ⟨F81z14, hm81z14, ha81z14⟩, ⟨F82z14, hm82z14, ha82z14⟩, ⟨F83z14, hm83z14, ha83z14⟩, ⟨F84z14, hm84z14, ha84z14⟩, ⟨F85z14, hm85z14, ha85z14⟩, ⟨F86z14, hm86z14, ha86z14⟩, ⟨F87z14, hm87z14⟩, ⟨F88z14, hm88z14⟩, ⟨F89z14, hm89z14⟩, ⟨F90z14, hm90z14⟩⟩ := id hmd14
            have hwnz14 := hwf.n
            refine z_ifb_eq (tgt := 36) hx hb dX8_lacking_31 (by decide) (fun h_31 => ?_) (fun h_31 => ?_)
            · refine z_iinc (lv' := [(2, .int (zI ((k : Int) + 1))), (0, .ref (B 70 0)), (1, .int (zI (i : Int)))]) hx hb dX8_lacking_36 hl (q := 2) rfl (by decide) rfl (fun ls hl => ?_)
              refine lv_goto (tgt := 2) hx hb dX8_lacking_39 (by decide) ?_
              exact ih2 (k + 1) _ _ _ (by omega) (by omega) ((fst5_f (by omega) (by rw [lac_t hwf hi (by omega), show frb S T i k = true from by unfold frb; rw [decide_eq_true (by omega)]; simpa using h_31]; simp)).trans hfs) hmd14 (fmd.trans hfl (fun k' i' h => (hf15 k' i' (by omega)).trans ((hf6 k' i' (by omega))))) hW hS _ (lv_sub hl [1, 2, 0] rfl)
            · refine lv_iload_n hx hb dX8_lacking_34 rfl (lv_at hl 2 rfl) ?_
              exact kret _ _ _ _ _ _ _ _ (⟨by rw [← hfs, fst5_t (by omega) (by rw [lac_t hwf hi (by omega), h_13, show frb S T i k = false from by unfold frb; rw [h_31]; simp]; rfl)]; rfl, hmd14, (fmd.trans hfl (fun k' i' h => (hf15 k' i' (by omega)).trans ((hf6 k' i' (by omega)))))⟩) hW hS (Nat.le_of_ble_eq_true rfl) (Nat.le_of_ble_eq_true rfl) dX8_lacking_35
  exact lp2 6 0 _ _ _ (by omega) (by omega) rfl hmd fmd.rfl' hW hS _ (lv_sub hl [1, 2, 0] rfl)

theorem ds_X8_allAfter : yX8_allAfter.cls ≠ "java/lang/invoke/MethodHandle" ∧ yX8_allAfter.cls ≠ "java/lang/invoke/VarHandle" ∧ (parseMethodDescriptor yX8_allAfter.desc).map (fun d => d.parameters.length) = some 1 := by decide +kernel
theorem in_X8_allAfter_8 : ∀ w ∈ wsX80, w ∈ wsX8_allAfter := by decide +kernel
def rX8_allAfter : Room := { frames := 0, cells := 0, slots := 0, locals := 0 }
set_option maxHeartbeats 4000000 in
set_option maxRecDepth 100000 in
theorem k_X8_allAfter {l : Launch} {Z : gZ} {B : gB} {C0 : gC} {S : gS} {T : gTx} {th : Int} {i : Nat} (hmd : md Z B C0 S T th) (hwf : wf S T) (hi : i < S 0 0) : Met l yX8_allAfter wsX8_allAfter rX8_allAfter (gPc Z B C0 [.ref (B 70 0), .int (zI (i : Int))]) (gQi Z B (fun r C1 => r = zI (abf S i : Int) ∧ C1 = C0)) 0 0 (gA Z) := by
  refine g_ofI (cc := cX8_allAfter) (maxL := 5) (by decide) rfl (Nat.le_of_ble_eq_true rfl) ?_
  intro p e s m args below meth c Q X kret hW hS ls hl
  have hx := X.1.1
  have hb := X.1.2.1
  have hts := X.1.2.2.2.2
  have hl : lv_has ls 5 [(0, .ref (B 70 0)), (1, .int (zI (i : Int)))] := hl
  obtain ⟨⟨mg, hm70⟩, ⟨F71, F72, hm71, hm72, hmt⟩, ⟨F73, hm73, ha73⟩, ⟨F74, hm74, ha74⟩, ⟨F75, hm75, ha75⟩, ⟨F76, hm76, ha76⟩, ⟨F77, hm77, ha77⟩, ⟨F78, hm78, ha78⟩, ⟨F79, hm79, ha79⟩, ⟨F80, hm80, ha80⟩, ⟨F81, hm81, ha81⟩, ⟨F82, hm82, ha82⟩, ⟨F83, hm83, ha83⟩, ⟨F84, hm84, ha84⟩, ⟨F85, hm85, ha85⟩, ⟨F86, hm86, ha86⟩, ⟨F87, hm87⟩, ⟨F88, hm88⟩, ⟨F89, hm89⟩, ⟨F90, hm90⟩⟩ := id hmd
  have hwn := hwf.n
  have hwi := hwf.ch hi
  refine lv_aload_n hx hb dX8_allAfter_0 rfl (lv_at hl 0 rfl) ?_
  refine g_get (ci := 8) X in_X8_allAfter_8 rfl hW hm70 12 (by decide) (hts _ (List.mem_of_getElem? (i := 1) rfl)) rfl dX8_allAfter_1 ?_
  refine lv_iload_n hx hb dX8_allAfter_4 rfl (lv_at hl 1 rfl) ?_
  refine z_iald X hW hm78 (by omega) (by omega) (by omega) dX8_allAfter_5 ?_
  rw [show F78 (i : Int).toNat = (S 3 i : Int) from by rw [show (i : Int).toNat = i by omega]; exact ha78 _ (by omega)]
  refine lv_istore_n (lv' := [(2, .int (zI (S 3 i : Int))), (0, .ref (B 70 0)), (1, .int (zI (i : Int)))]) hx hb dX8_allAfter_6 rfl hl (by decide) rfl (fun ls hl => ?_)
  refine lv_iconst (v := zI (0)) hx hb dX8_allAfter_7 rfl ?_
  refine lv_istore_n (lv' := [(3, .int (zI 0)), (2, .int (zI (S 3 i : Int))), (0, .ref (B 70 0)), (1, .int (zI (i : Int)))]) hx hb dX8_allAfter_8 rfl hl (by decide) rfl (fun ls hl => ?_)
  have lp9 : ∀ (n : Nat) (t : Nat) (H : Heap) (locs : List Loc), (4 - t < n) → (t ≤ 4) → gw Z B C0 H → va_S (gA Z) s.heap H locs → ∀ ls : Array Slot, lv_has ls 5 [(0, .ref (B 70 0)), (1, .int (zI (i : Int))), (2, .int (zI (abt S (S 3 i) t : Int))), (3, .int (zI (t : Int)))] → W p l e rX8_allAfter s m args below meth c H locs 0 0 Q (F0 m 9 ls []) := by
    intro n
    induction n with
    | zero =>
      intro t  H locs hm ht4 hW hS ls hl
      exact absurd hm (by omega)
    | succ n ih9 =>
      intro t  H locs hm ht4 hW hS ls hl
      refine lv_iload_n hx hb dX8_allAfter_9 rfl (lv_at hl 3 rfl) ?_
      refine lv_iconst (v := zI (4)) hx hb dX8_allAfter_10 rfl ?_
      refine z_icmp_ge (tgt := 58) hx hb dX8_allAfter_11 (by decide) (⟨by omega, by omega⟩) (⟨by omega, by omega⟩) (fun h_11 => ?_) (fun h_11 => ?_)
      · refine lv_iload_n hx hb dX8_allAfter_58 rfl (lv_at hl 2 rfl) ?_
        exact kret _ _ _ _ _ _ _ _ (⟨by rw [show t = 4 by omega]; rfl, rfl⟩) hW hS (Nat.le_of_ble_eq_true rfl) (Nat.le_of_ble_eq_true rfl) dX8_allAfter_59
      · refine lv_iconst (v := zI (0)) hx hb dX8_allAfter_14 rfl ?_
        refine lv_istore (lv' := [(4, .int (zI 0)), (0, .ref (B 70 0)), (1, .int (zI (i : Int))), (2, .int (zI (abt S (S 3 i) t : Int))), (3, .int (zI (t : Int)))]) hx hb dX8_allAfter_15 hl (by decide) rfl (fun ls hl => ?_)
        have hl : lv_has ls 5 [(4, .int (zI 0)), (0, .ref (B 70 0)), (1, .int (zI (i : Int))), (2, .int (zI (ab1 S (abt S (S 3 i) t) 0 : Int))), (3, .int (zI (t : Int)))] := hl
        have lp17 : ∀ (n : Nat) (k : Nat) (H : Heap) (locs : List Loc), (S 0 0 - k < n) → (k ≤ S 0 0) → gw Z B C0 H → va_S (gA Z) s.heap H locs → ∀ ls : Array Slot, lv_has ls 5 [(0, .ref (B 70 0)), (1, .int (zI (i : Int))), (2, .int (zI (ab1 S (abt S (S 3 i) t) k : Int))), (3, .int (zI (t : Int))), (4, .int (zI (k : Int)))] → W p l e rX8_allAfter s m args below meth c H locs 0 0 Q (F0 m 17 ls []) := by
          intro n
          induction n with
          | zero =>
            intro k  H locs hm hkn hW hS ls hl
            exact absurd hm (by omega)
          | succ n ih17 =>
            intro k  H locs hm hkn hW hS ls hl
            have hlt : ab1 S (abt S (S 3 i) t) k < 16 := ab1_lt (abt_lt hwi.2.2.1 (fun c hc => (hwf.ch hc).2.2.1) t) _ (fun c hc => (hwf.ch (show c < S 0 0 by omega)).2.2.1)
            refine lv_iload hx hb dX8_allAfter_17 (lv_at hl 4 rfl) ?_
            refine lv_aload_n hx hb dX8_allAfter_19 rfl (lv_at hl 0 rfl) ?_
            refine g_get (ci := 8) X in_X8_allAfter_8 rfl hW hm70 1 (by decide) (hts _ (List.mem_of_getElem? (i := 2) rfl)) rfl dX8_allAfter_20 ?_
            refine z_icmp_ge (tgt := 52) hx hb dX8_allAfter_23 (by decide) (⟨by omega, by omega⟩) (⟨by omega, by omega⟩) (fun h_23 => ?_) (fun h_23 => ?_)
            · have hl : lv_has ls 5 [(0, .ref (B 70 0)), (1, .int (zI (i : Int))), (2, .int (zI (abt S (S 3 i) (t + 1) : Int))), (3, .int (zI (t : Int))), (4, .int (zI (k : Int)))] := by rw [show abt S (S 3 i) (t + 1) = ab1 S (abt S (S 3 i) t) k from by rw [show k = S 0 0 by omega]; rfl]; exact hl
              refine z_iinc (lv' := [(3, .int (zI ((t : Int) + 1))), (0, .ref (B 70 0)), (1, .int (zI (i : Int))), (2, .int (zI (abt S (S 3 i) (t + 1) : Int))), (4, .int (zI (k : Int)))]) hx hb dX8_allAfter_52 hl (q := 3) rfl (by decide) rfl (fun ls hl => ?_)
              refine lv_goto (tgt := 9) hx hb dX8_allAfter_55 (by decide) ?_
              exact ih9 (t + 1) _ _ (by omega) (by omega) hW hS _ (lv_sub hl [1, 2, 3, 0] rfl)
            · refine lv_iload_n hx hb dX8_allAfter_26 rfl (lv_at hl 2 rfl) ?_
              refine lv_iload hx hb dX8_allAfter_27 (lv_at hl 4 rfl) ?_
              refine lv_ishr hx hb dX8_allAfter_29 ?_
              refine lv_iconst (v := zI (1)) hx hb dX8_allAfter_30 rfl ?_
              refine lv_iand hx hb dX8_allAfter_31 ?_
              rw [show (((zI (ab1 S (abt S (S 3 i) t) k : Int)) >>> ((zI (k : Int)) &&& 31)) &&& (zI 1)) = zI (if (ab1 S (abt S (S 3 i) t) k).testBit k = true then 1 else 0) from bitm (by omega) (by omega)]
              refine lv_iconst (v := zI (1)) hx hb dX8_allAfter_32 rfl ?_
              refine z_icmp_ne (tgt := 46) hx hb dX8_allAfter_33 (by decide) (⟨by split <;> omega, by split <;> omega⟩) (⟨by omega, by omega⟩) (fun h_33 => ?_) (fun h_33 => ?_)
              · have hq : ab1 S (abt S (S 3 i) t) (k + 1) = ab1 S (abt S (S 3 i) t) k := by rw [ab1_s, if_neg (fun z9 => h_33 (if_pos z9))]
                have hl : lv_has ls 5 [(0, .ref (B 70 0)), (1, .int (zI (i : Int))), (2, .int (zI (ab1 S (abt S (S 3 i) t) (k + 1) : Int))), (3, .int (zI (t : Int))), (4, .int (zI (k : Int)))] := by rw [hq]; exact hl
                refine z_iinc (lv' := [(4, .int (zI ((k : Int) + 1))), (0, .ref (B 70 0)), (1, .int (zI (i : Int))), (2, .int (zI (ab1 S (abt S (S 3 i) t) (k + 1) : Int))), (3, .int (zI (t : Int)))]) hx hb dX8_allAfter_46 hl (q := 4) rfl (by decide) rfl (fun ls hl => ?_)
                refine lv_goto (tgt := 17) hx hb dX8_allAfter_49 (by decide) ?_
                exact ih17 (k + 1) _ _ (by omega) (by omega) hW hS _ (lv_sub hl [1, 2, 3, 4, 0] rfl)
              · refine lv_iload_n hx hb dX8_allAfter_36 rfl (lv_at hl 2 rfl) ?_
                refine lv_aload_n hx hb dX8_allAfter_37 rfl (lv_at hl 0 rfl) ?_
                refine g_get (ci := 8) X in_X8_allAfter_8 rfl hW hm70 12 (by decide) (hts _ (List.mem_of_getElem? (i := 1) rfl)) rfl dX8_allAfter_38 ?_
                refine lv_iload hx hb dX8_allAfter_41 (lv_at hl 4 rfl) ?_
                refine z_iald X hW hm78 (by omega) (by omega) (by omega) dX8_allAfter_43 ?_
                rw [show F78 (k : Int).toNat = (S 3 k : Int) from by rw [show (k : Int).toNat = k by omega]; exact ha78 _ (by omega)]
                have hwk := hwf.ch (show k < S 0 0 by omega)
                refine lv_ior hx hb dX8_allAfter_44 ?_
                rw [show ((zI (ab1 S (abt S (S 3 i) t) k : Int)) ||| (zI (S 3 k : Int))) = zI ((ab1 S (abt S (S 3 i) t) k ||| S 3 k : Nat) : Int) from bor_i (by omega) (by omega)]
                refine lv_istore_n (lv' := [(2, .int (zI ((ab1 S (abt S (S 3 i) t) k ||| S 3 k : Nat) : Int))), (0, .ref (B 70 0)), (1, .int (zI (i : Int))), (3, .int (zI (t : Int))), (4, .int (zI (k : Int)))]) hx hb dX8_allAfter_45 rfl hl (by decide) rfl (fun ls hl => ?_)
                have hq : ab1 S (abt S (S 3 i) t) (k + 1) = (ab1 S (abt S (S 3 i) t) k ||| S 3 k) := by rw [ab1_s, if_pos (by by_cases q9 : (ab1 S (abt S (S 3 i) t) k).testBit k = true; exact q9; rw [if_neg q9] at h_33; omega)]
                have hl : lv_has ls 5 [(2, .int (zI (ab1 S (abt S (S 3 i) t) (k + 1) : Int))), (0, .ref (B 70 0)), (1, .int (zI (i : Int))), (3, .int (zI (t : Int))), (4, .int (zI (k : Int)))] := by rw [hq]; exact hl
                refine z_iinc (lv' := [(4, .int (zI ((k : Int) + 1))), (2, .int (zI (ab1 S (abt S (S 3 i) t) (k + 1) : Int))), (0, .ref (B 70 0)), (1, .int (zI (i : Int))), (3, .int (zI (t : Int)))]) hx hb dX8_allAfter_46 hl (q := 4) rfl (by decide) rfl (fun ls hl => ?_)
                refine lv_goto (tgt := 17) hx hb dX8_allAfter_49 (by decide) ?_
                exact ih17 (k + 1) _ _ (by omega) (by omega) hW hS _ (lv_sub hl [2, 3, 1, 4, 0] rfl)
        exact lp17 (S 0 0 + 1) 0 _ _ (by omega) (by omega) hW hS _ (lv_sub hl [1, 2, 3, 4, 0] rfl)
  exact lp9 5 0 _ _ (by omega) (by omega) hW hS _ (lv_sub hl [2, 3, 1, 0] rfl)
