/-! THE REFERENCE'S CALLS THAT CHANGE -/
theorem bitm2 {n : Nat} {j : Int} (hn : n < 32) (h0 : 0 ≤ j) (hj : j < 5) : (zI (n : Int) >>> (zI j &&& 31)) &&& zI 1 = zI (if n.testBit j.toNat = true then 1 else 0) := by
  have := bitm (n := n) (j := j.toNat) hn (by omega)
  rwa [show ((j.toNat : Nat) : Int) = j from Int.toNat_of_nonneg h0] at this
theorem lies.thr {Z : gZ} {B : gB} {C C' : gC} {S : gS} {T : gTx} {th v : Int} {x : List Int} (h : lies Z B C S T th x) (e : C' 70 0 = mdO B v (S 0 0 : Int) (S 0 1 : Int) (S 0 2 : Int) (S 0 3 : Int) ((x.length : Nat) : Int)) (h1 : C' 71 0 = C 71 0) (h2 : C' 72 0 = C 72 0) : lies Z B C' S T v x := by
  obtain ⟨-, F, Fs, a1, a2, a3, a4⟩ := h
  exact ⟨e, F, Fs, h1.trans a1, a2, h2.trans a3, a4⟩

theorem ds_X8_setPriority : yX8_setPriority.cls ≠ "java/lang/invoke/MethodHandle" ∧ yX8_setPriority.cls ≠ "java/lang/invoke/VarHandle" ∧ (parseMethodDescriptor yX8_setPriority.desc).map (fun d => d.parameters.length) = some 2 := by decide +kernel
theorem in_X8_setPriority_8 : ∀ w ∈ wsX80, w ∈ wsX8_setPriority := by decide +kernel
def rX8_setPriority : Room := { frames := 2, cells := 0, slots := 0, locals := 43 }
set_option maxHeartbeats 4000000 in
set_option maxRecDepth 100000 in
theorem k_X8_setPriority {l : Launch} {Z : gZ} {B : gB} {C0 : gC} {S : gS} {T : gTx} {th : Int} {cc a : Int} (hmd : md Z B C0 S T th) (hwf : wf S T) (rcc : zr cc) (ra : zr a) : Met l yX8_setPriority wsX8_setPriority rX8_setPriority (gPc Z B C0 [.ref (B 70 0), .int (zI cc), .int (zI a)]) (gQi Z B (fun r C1 => (cd_setPriority S cc a = 0 → r = zI (S 4 cc.toNat : Int) ∧ md Z B C1 (nS_setPriority S cc a) T 0) ∧ (¬ cd_setPriority S cc a = 0 → md Z B C1 S T (cd_setPriority S cc a : Int)) ∧ fmd C0 C1)) 0 0 (gA Z) := by
  refine g_ofI (cc := cX8_setPriority) (maxL := 4) (by decide) rfl (Nat.le_of_ble_eq_true rfl) ?_
  intro p e s m args below meth c Q X kret hW hS ls hl
  have hx := X.1.1
  have hb := X.1.2.1
  have hts := X.1.2.2.2.2
  have hl : lv_has ls 4 [(0, .ref (B 70 0)), (1, .int (zI cc)), (2, .int (zI a))] := hl
  obtain ⟨⟨mg, hm70⟩, ⟨F71, F72, hm71, hm72, hmt⟩, ⟨F73, hm73, ha73⟩, ⟨F74, hm74, ha74⟩, ⟨F75, hm75, ha75⟩, ⟨F76, hm76, ha76⟩, ⟨F77, hm77, ha77⟩, ⟨F78, hm78, ha78⟩, ⟨F79, hm79, ha79⟩, ⟨F80, hm80, ha80⟩, ⟨F81, hm81, ha81⟩, ⟨F82, hm82, ha82⟩, ⟨F83, hm83, ha83⟩, ⟨F84, hm84, ha84⟩, ⟨F85, hm85, ha85⟩, ⟨F86, hm86, ha86⟩, ⟨F87, hm87⟩, ⟨F88, hm88⟩, ⟨F89, hm89⟩, ⟨F90, hm90⟩⟩ := id hmd
  have hwn := hwf.n
  refine lv_aload_n hx hb dX8_setPriority_0 rfl (lv_at hl 0 rfl) ?_
  refine lv_iload_n hx hb dX8_setPriority_1 rfl (lv_at hl 1 rfl) ?_
  refine g_ci (g_runV X (k_X8_isChange (a := cc) hmd hwf (rcc)) (cwV 1 hts gX8_setPriority_X8_isChange rfl rfl rfl ⟨rfl, ds_X8_isChange⟩ ⟨Nat.le_of_ble_eq_true rfl, Nat.le_of_ble_eq_true rfl⟩) hW hS hm70 rfl rfl hl.1 rfl (Nat.le_of_ble_eq_true rfl) dX8_setPriority_2 ⟨Nat.le_of_ble_eq_true rfl, Nat.le_of_ble_eq_true rfl⟩) hS (fun r3 C1 H locs hp2 hW hS => ?_)
  obtain ⟨rfl, ehp2⟩ := hp2
  rw [ehp2] at hW
  refine z_ifb_ne (tgt := 14) hx hb dX8_setPriority_5 (by decide) (fun h_5 => ?_) (fun h_5 => ?_)
  · have hwi := hwf.ch (show cc.toNat < S 0 0 by omega)
    refine lv_iload_n hx hb dX8_setPriority_14 rfl (lv_at hl 2 rfl) ?_
    refine lv_iconst (v := zI (0)) hx hb dX8_setPriority_15 rfl ?_
    refine lv_bipush (v := zI (9)) hx hb dX8_setPriority_16 (by decide) ?_
    refine g_ci (g_runS X (k_X8_isIn (B := B) (C0 := C0) (x := a) (a := 0) (b := 9) (ra) (⟨by omega, by omega⟩) (⟨by omega, by omega⟩)) (va_cwS 3 hts gX8_setPriority_X8_isIn rfl rfl rfl ds_X8_isIn ⟨Nat.le_of_ble_eq_true rfl, Nat.le_of_ble_eq_true rfl⟩) hW hS rfl hl.1 rfl (Nat.le_of_ble_eq_true rfl) dX8_setPriority_18 ⟨Nat.le_of_ble_eq_true rfl, Nat.le_of_ble_eq_true rfl⟩) hS (fun r6 C4 H locs hp5 hW hS => ?_)
    obtain ⟨rfl, ehp5⟩ := hp5
    rw [ehp5] at hW
    refine z_ifb_ne (tgt := 30) hx hb dX8_setPriority_21 (by decide) (fun h_21 => ?_) (fun h_21 => ?_)
    · refine lv_aload_n hx hb dX8_setPriority_30 rfl (lv_at hl 0 rfl) ?_
      refine lv_iconst (v := zI (0)) hx hb dX8_setPriority_31 rfl ?_
      refine g_put (ci := 8) (ty := .int) X in_X8_setPriority_8 tyX8 tyX8_ok nmX8 rfl hW hS hm70 0 (by decide) (hts _ (List.mem_of_getElem? (i := 1) rfl)) rfl (by decide +kernel) (rfl) (rfl) (Nat.le_of_ble_eq_true rfl) dX8_setPriority_32 (fun C7 H locs hs8 hn9 hW hS => ?_)
      refine lv_aload_n hx hb dX8_setPriority_35 rfl (lv_at hl 0 rfl) ?_
      refine g_get (ci := 8) X in_X8_setPriority_8 rfl hW hs8 13 (by decide) (hts _ (List.mem_of_getElem? (i := 2) rfl)) rfl dX8_setPriority_36 ?_
      refine lv_iload_n hx hb dX8_setPriority_39 rfl (lv_at hl 1 rfl) ?_
      have f10 : C7 79 0 = some (gJ Z 4 F79) := ((hn9 79 0 (gk (by decide))).trans hm79)
      refine z_iald X hW f10 (by omega) (by omega) (by omega) dX8_setPriority_40 ?_
      rw [show F79 (cc).toNat = (S 4 cc.toNat : Int) from by rw [show (cc).toNat = cc.toNat by omega]; exact ha79 _ (by omega)]
      refine lv_istore_n (lv' := [(3, .int (zI (S 4 cc.toNat : Int))), (0, .ref (B 70 0)), (1, .int (zI cc)), (2, .int (zI a))]) hx hb dX8_setPriority_41 rfl hl (by decide) rfl (fun ls hl => ?_)
      refine lv_aload_n hx hb dX8_setPriority_42 rfl (lv_at hl 1 rfl) ?_
      refine g_get (ci := 8) X in_X8_setPriority_8 rfl hW hs8 13 (by decide) (hts _ (List.mem_of_getElem? (i := 2) rfl)) rfl dX8_setPriority_43 ?_
      refine lv_iload_n hx hb dX8_setPriority_46 rfl (lv_at hl 2 rfl) ?_
      refine lv_iload_n hx hb dX8_setPriority_47 rfl (lv_at hl 3 rfl) ?_
      refine z_iast X hW hS f10 (by omega) (by omega) (by omega) dX8_setPriority_48 (fun C11 H locs hs12 hn13 hW hS => ?_)
      refine lv_iload_n hx hb dX8_setPriority_49 rfl (lv_at hl 0 rfl) ?_
      have hcd : cd_setPriority S cc a = 0 := by unfold cd_setPriority; rw [if_neg (fun z => z h_5), if_neg (by omega)]
      have so : ∀ k' i', ¬ (k' = 4 ∧ i' = cc.toNat) → nS_setPriority S cc a k' i' = S k' i' := fun k' i' a0 => by rw [nS_setPriority, su_n a0]
      have s00 : nS_setPriority S cc a 0 0 = S 0 0 := so 0 0 (by omega)
      have s01 : nS_setPriority S cc a 0 1 = S 0 1 := so 0 1 (by omega)
      have s02 : nS_setPriority S cc a 0 2 = S 0 2 := so 0 2 (by omega)
      have s03 : nS_setPriority S cc a 0 3 = S 0 3 := so 0 3 (by omega)
      have f14 : C11 70 0 = some (.inr (8, [.int (zI 0), .int (zI (S 0 0 : Int)), .int (zI (S 0 1 : Int)), .int (zI (S 0 2 : Int)), .int (zI (S 0 3 : Int)), .ref (B 71 0), .ref (B 72 0), .ref (B 73 0), .ref (B 74 0), .ref (B 75 0), .ref (B 76 0), .ref (B 77 0), .ref (B 78 0), .ref (B 79 0), .ref (B 80 0), .ref (B 81 0), .ref (B 82 0), .ref (B 83 0), .ref (B 84 0), .ref (B 85 0), .ref (B 86 0), .ref (B 87 0), .ref (B 88 0), .ref (B 89 0), .ref (B 90 0), .int (zI mg)])) := ((hn13 70 0 (gk (by decide))).trans hs8)
      have f15 : C11 71 0 = some (gJ Z 312 F71) := ((hn13 71 0 (gk (by decide))).trans ((hn9 71 0 (gk (by decide))).trans hm71))
      have f16 : C11 72 0 = some (gJ Z 26 F72) := ((hn13 72 0 (gk (by decide))).trans ((hn9 72 0 (gk (by decide))).trans hm72))
      have hmdN17 : md Z B C11 (nS_setPriority S cc a) T 0 := by
        refine md.new hmd (by rw [s00, s01, s02, s03]; exact f14) ⟨_, _, f15, f16, hmt⟩ (fun k n q hq hrow => ?_) (fun k' h1 h2 => ((hn13 (k') 0 (by omega)).trans ((hn9 (k') 0 (by omega)).trans rfl)))
        by_cases e0 : k = 79
        · subst e0
          obtain ⟨rfl, rfl⟩ := mrw_79 hq
          exact row.put (i := cc.toNat) (v := a) ha79 hs12 (by rw [nS_setPriority, su_s]; omega) (fun j hj hne => so 4 j (by omega))
        · skip
          have hqb := mrw_b hq
          exact hrow.same ((hn13 k 0 (by omega)).trans ((hn9 k 0 (by omega)).trans rfl)) (fun j hj => so q j (by omega))
      exact kret _ _ _ _ _ _ _ _ (⟨fun _ => ⟨rfl, hmdN17⟩, fun z9 => absurd hcd z9, fun k' i' h => (hn13 k' i' (by omega)).trans ((hn9 k' i' (by omega)))⟩) hW hS (Nat.le_of_ble_eq_true rfl) (Nat.le_of_ble_eq_true rfl) dX8_setPriority_50
    · refine lv_aload_n hx hb dX8_setPriority_24 rfl (lv_at hl 0 rfl) ?_
      refine lv_iconst (v := zI (2)) hx hb dX8_setPriority_25 rfl ?_
      refine g_ci (g_runV X (k_X8_fail (v := 2) hmd) (cwV 1 hts gX8_setPriority_X8_fail rfl rfl rfl ⟨rfl, ds_X8_fail⟩ ⟨Nat.le_of_ble_eq_true rfl, Nat.le_of_ble_eq_true rfl⟩) hW hS hm70 rfl rfl hl.1 rfl (Nat.le_of_ble_eq_true rfl) dX8_setPriority_26 ⟨Nat.le_of_ble_eq_true rfl, Nat.le_of_ble_eq_true rfl⟩) hS (fun r20 C18 H locs hp19 hW hS => ?_)
      obtain ⟨e21, hmd22, hf23⟩ := hp19
      rw [e21]
      obtain ⟨⟨mgz22, hm70z22⟩, ⟨F71z22, F72z22, hm71z22, hm72z22, hmtz22⟩, ⟨F73z22, hm73z22, ha73z22⟩, ⟨F74z22, hm74z22, ha74z22⟩, ⟨F75z22, hm75z22, ha75z22⟩, ⟨F76z22, hm76z22, ha76z22⟩, ⟨F77z22, hm77z22, ha77z22⟩, ⟨F78z22, hm78z22, ha78z22⟩, ⟨F79z22, hm79z22, ha79z22⟩, ⟨F80z22, hm80z22, ha80z22⟩, ⟨F81z22, hm81z22, ha81z22⟩, ⟨F82z22, hm82z22, ha82z22⟩, ⟨F83z22, hm83z22, ha83z22⟩, ⟨F84z22, hm84z22, ha84z22⟩, ⟨F85z22, hm85z22, ha85z22⟩, ⟨F86z22, hm86z22, ha86z22⟩, ⟨F87z22, hm87z22⟩, ⟨F88z22, hm88z22⟩, ⟨F89z22, hm89z22⟩, ⟨F90z22, hm90z22⟩⟩ := id hmd22
      have hwnz22 := hwf.n
      have hcd : cd_setPriority S cc a = 2 := by unfold cd_setPriority; rw [if_neg (fun z => z h_5), if_pos (by omega)]
      exact kret _ _ _ _ _ _ _ _ (⟨fun z9 => absurd (z9.symm.trans hcd) (by decide), fun _ => by rw [hcd]; exact hmd22, fun k' i' h => (hf23 k' i' (by omega))⟩) hW hS (Nat.le_of_ble_eq_true rfl) (Nat.le_of_ble_eq_true rfl) dX8_setPriority_29
  · refine lv_aload_n hx hb dX8_setPriority_8 rfl (lv_at hl 0 rfl) ?_
    refine lv_iconst (v := zI (1)) hx hb dX8_setPriority_9 rfl ?_
    refine g_ci (g_runV X (k_X8_fail (v := 1) hmd) (cwV 1 hts gX8_setPriority_X8_fail rfl rfl rfl ⟨rfl, ds_X8_fail⟩ ⟨Nat.le_of_ble_eq_true rfl, Nat.le_of_ble_eq_true rfl⟩) hW hS hm70 rfl rfl hl.1 rfl (Nat.le_of_ble_eq_true rfl) dX8_setPriority_10 ⟨Nat.le_of_ble_eq_true rfl, Nat.le_of_ble_eq_true rfl⟩) hS (fun r26 C24 H locs hp25 hW hS => ?_)
    obtain ⟨e27, hmd28, hf29⟩ := hp25
    rw [e27]
    obtain ⟨⟨mgz28, hm70z28⟩, ⟨F71z28, F72z28, hm71z28, hm72z28, hmtz28⟩, ⟨F73z28, hm73z28, ha73z28⟩, ⟨F74z28, hm74z28, ha74z28⟩, ⟨F75z28, hm75z28, ha75z28⟩, ⟨F76z28, hm76z28, ha76z28⟩, ⟨F77z28, hm77z28, ha77z28⟩, ⟨F78z28, hm78z28, ha78z28⟩, ⟨F79z28, hm79z28, ha79z28⟩, ⟨F80z28, hm80z28, ha80z28⟩, ⟨F81z28, hm81z28, ha81z28⟩, ⟨F82z28, hm82z28, ha82z28⟩, ⟨F83z28, hm83z28, ha83z28⟩, ⟨F84z28, hm84z28, ha84z28⟩, ⟨F85z28, hm85z28, ha85z28⟩, ⟨F86z28, hm86z28, ha86z28⟩, ⟨F87z28, hm87z28⟩, ⟨F88z28, hm88z28⟩, ⟨F89z28, hm89z28⟩, ⟨F90z28, hm90z28⟩⟩ := id hmd28
    have hwnz28 := hwf.n
    have hcd : cd_setPriority S cc a = 1 := by unfold cd_setPriority; rw [if_pos (h_5)]
    exact kret _ _ _ _ _ _ _ _ (⟨fun z9 => absurd (z9.symm.trans hcd) (by decide), fun _ => by rw [hcd]; exact hmd28, fun k' i' h => (hf29 k' i' (by omega))⟩) hW hS (Nat.le_of_ble_eq_true rfl) (Nat.le_of_ble_eq_true rfl) dX8_setPriority_13

theorem ds_X8_giveRange : yX8_giveRange.cls ≠ "java/lang/invoke/MethodHandle" ∧ yX8_giveRange.cls ≠ "java/lang/invoke/VarHandle" ∧ (parseMethodDescriptor yX8_giveRange.desc).map (fun d => d.parameters.length) = some 3 := by decide +kernel
theorem in_X8_giveRange_8 : ∀ w ∈ wsX80, w ∈ wsX8_giveRange := by decide +kernel
def rX8_giveRange : Room := { frames := 2, cells := 0, slots := 0, locals := 42 }
set_option maxHeartbeats 4000000 in
set_option maxRecDepth 100000 in
theorem k_X8_giveRange {l : Launch} {Z : gZ} {B : gB} {C0 : gC} {S : gS} {T : gTx} {th : Int} {a b u : Int} (hmd : md Z B C0 S T th) (hwf : wf S T) (ra : zr a) (rb : zr b) (ru : zr u) : Met l yX8_giveRange wsX8_giveRange rX8_giveRange (gPc Z B C0 [.ref (B 70 0), .int (zI a), .int (zI b), .int (zI u)]) (gQi Z B (fun r C1 => (cd_giveRange S a b u = 0 → r = zI ((S 0 1 : Int) + 1) ∧ md Z B C1 (nS_giveRange S a b u) T 0) ∧ (¬ cd_giveRange S a b u = 0 → md Z B C1 S T (cd_giveRange S a b u : Int)) ∧ fmd C0 C1)) 0 0 (gA Z) := by
  refine g_ofI (cc := cX8_giveRange) (maxL := 4) (by decide) rfl (Nat.le_of_ble_eq_true rfl) ?_
  intro p e s m args below meth c Q X kret hW hS ls hl
  have hx := X.1.1
  have hb := X.1.2.1
  have hts := X.1.2.2.2.2
  have hl : lv_has ls 4 [(0, .ref (B 70 0)), (1, .int (zI a)), (2, .int (zI b)), (3, .int (zI u))] := hl
  obtain ⟨⟨mg, hm70⟩, ⟨F71, F72, hm71, hm72, hmt⟩, ⟨F73, hm73, ha73⟩, ⟨F74, hm74, ha74⟩, ⟨F75, hm75, ha75⟩, ⟨F76, hm76, ha76⟩, ⟨F77, hm77, ha77⟩, ⟨F78, hm78, ha78⟩, ⟨F79, hm79, ha79⟩, ⟨F80, hm80, ha80⟩, ⟨F81, hm81, ha81⟩, ⟨F82, hm82, ha82⟩, ⟨F83, hm83, ha83⟩, ⟨F84, hm84, ha84⟩, ⟨F85, hm85, ha85⟩, ⟨F86, hm86, ha86⟩, ⟨F87, hm87⟩, ⟨F88, hm88⟩, ⟨F89, hm89⟩, ⟨F90, hm90⟩⟩ := id hmd
  have hwn := hwf.n
  refine lv_iload_n hx hb dX8_giveRange_0 rfl (lv_at hl 3 rfl) ?_
  refine g_ci (g_runS X (k_X8_isUser (B := B) (C0 := C0) (a := u) (ru)) (va_cwS 1 hts gX8_giveRange_X8_isUser rfl rfl rfl ds_X8_isUser ⟨Nat.le_of_ble_eq_true rfl, Nat.le_of_ble_eq_true rfl⟩) hW hS rfl hl.1 rfl (Nat.le_of_ble_eq_true rfl) dX8_giveRange_1 ⟨Nat.le_of_ble_eq_true rfl, Nat.le_of_ble_eq_true rfl⟩) hS (fun r3 C1 H locs hp2 hW hS => ?_)
  obtain ⟨rfl, ehp2⟩ := hp2
  rw [ehp2] at hW
  refine z_ifb_ne (tgt := 13) hx hb dX8_giveRange_4 (by decide) (fun h_4 => ?_) (fun h_4 => ?_)
  · refine lv_iload_n hx hb dX8_giveRange_13 rfl (lv_at hl 1 rfl) ?_
    refine lv_iconst (v := zI (0)) hx hb dX8_giveRange_14 rfl ?_
    refine lv_bipush (v := zI (99)) hx hb dX8_giveRange_15 (by decide) ?_
    refine g_ci (g_runS X (k_X8_isIn (B := B) (C0 := C0) (x := a) (a := 0) (b := 99) (ra) (⟨by omega, by omega⟩) (⟨by omega, by omega⟩)) (va_cwS 3 hts gX8_giveRange_X8_isIn rfl rfl rfl ds_X8_isIn ⟨Nat.le_of_ble_eq_true rfl, Nat.le_of_ble_eq_true rfl⟩) hW hS rfl hl.1 rfl (Nat.le_of_ble_eq_true rfl) dX8_giveRange_17 ⟨Nat.le_of_ble_eq_true rfl, Nat.le_of_ble_eq_true rfl⟩) hS (fun r6 C4 H locs hp5 hW hS => ?_)
    obtain ⟨rfl, ehp5⟩ := hp5
    rw [ehp5] at hW
    refine z_ifb_eq (tgt := 38) hx hb dX8_giveRange_20 (by decide) (fun h_20 => ?_) (fun h_20 => ?_)
    · refine lv_aload_n hx hb dX8_giveRange_38 rfl (lv_at hl 0 rfl) ?_
      refine lv_iconst (v := zI (2)) hx hb dX8_giveRange_39 rfl ?_
      refine g_ci (g_runV X (k_X8_fail (v := 2) hmd) (cwV 1 hts gX8_giveRange_X8_fail rfl rfl rfl ⟨rfl, ds_X8_fail⟩ ⟨Nat.le_of_ble_eq_true rfl, Nat.le_of_ble_eq_true rfl⟩) hW hS hm70 rfl rfl hl.1 rfl (Nat.le_of_ble_eq_true rfl) dX8_giveRange_40 ⟨Nat.le_of_ble_eq_true rfl, Nat.le_of_ble_eq_true rfl⟩) hS (fun r9 C7 H locs hp8 hW hS => ?_)
      obtain ⟨e10, hmd11, hf12⟩ := hp8
      rw [e10]
      obtain ⟨⟨mgz11, hm70z11⟩, ⟨F71z11, F72z11, hm71z11, hm72z11, hmtz11⟩, ⟨F73z11, hm73z11, ha73z11⟩, ⟨F74z11, hm74z11, ha74z11⟩, ⟨F75z11, hm75z11, ha75z11⟩, ⟨F76z11, hm76z11, ha76z11⟩, ⟨F77z11, hm77z11, ha77z11⟩, ⟨F78z11, hm78z11, ha78z11⟩, ⟨F79z11, hm79z11, ha79z11⟩, ⟨F80z11, hm80z11, ha80z11⟩, ⟨F81z11, hm81z11, ha81z11⟩, ⟨F82z11, hm82z11, ha82z11⟩, ⟨F83z11, hm83z11, ha83z11⟩, ⟨F84z11, hm84z11, ha84z11⟩, ⟨F85z11, hm85z11, ha85z11⟩, ⟨F86z11, hm86z11, ha86z11⟩, ⟨F87z11, hm87z11⟩, ⟨F88z11, hm88z11⟩, ⟨F89z11, hm89z11⟩, ⟨F90z11, hm90z11⟩⟩ := id hmd11
      have hwnz11 := hwf.n
      have hcd : cd_giveRange S a b u = 2 := by unfold cd_giveRange; rw [if_neg (fun z => z h_4), if_pos (by omega)]
      exact kret _ _ _ _ _ _ _ _ (⟨fun z9 => absurd (z9.symm.trans hcd) (by decide), fun _ => by rw [hcd]; exact hmd11, fun k' i' h => (hf12 k' i' (by omega))⟩) hW hS (Nat.le_of_ble_eq_true rfl) (Nat.le_of_ble_eq_true rfl) dX8_giveRange_43
    · refine lv_iload_n hx hb dX8_giveRange_23 rfl (lv_at hl 2 rfl) ?_
      refine lv_iconst (v := zI (0)) hx hb dX8_giveRange_24 rfl ?_
      refine lv_bipush (v := zI (99)) hx hb dX8_giveRange_25 (by decide) ?_
      refine g_ci (g_runS X (k_X8_isIn (B := B) (C0 := C0) (x := b) (a := 0) (b := 99) (rb) (⟨by omega, by omega⟩) (⟨by omega, by omega⟩)) (va_cwS 3 hts gX8_giveRange_X8_isIn rfl rfl rfl ds_X8_isIn ⟨Nat.le_of_ble_eq_true rfl, Nat.le_of_ble_eq_true rfl⟩) hW hS rfl hl.1 rfl (Nat.le_of_ble_eq_true rfl) dX8_giveRange_27 ⟨Nat.le_of_ble_eq_true rfl, Nat.le_of_ble_eq_true rfl⟩) hS (fun r15 C13 H locs hp14 hW hS => ?_)
      obtain ⟨rfl, ehp14⟩ := hp14
      rw [ehp14] at hW
      refine z_ifb_eq (tgt := 38) hx hb dX8_giveRange_30 (by decide) (fun h_30 => ?_) (fun h_30 => ?_)
      · refine lv_aload_n hx hb dX8_giveRange_38 rfl (lv_at hl 0 rfl) ?_
        refine lv_iconst (v := zI (2)) hx hb dX8_giveRange_39 rfl ?_
        refine g_ci (g_runV X (k_X8_fail (v := 2) hmd) (cwV 1 hts gX8_giveRange_X8_fail rfl rfl rfl ⟨rfl, ds_X8_fail⟩ ⟨Nat.le_of_ble_eq_true rfl, Nat.le_of_ble_eq_true rfl⟩) hW hS hm70 rfl rfl hl.1 rfl (Nat.le_of_ble_eq_true rfl) dX8_giveRange_40 ⟨Nat.le_of_ble_eq_true rfl, Nat.le_of_ble_eq_true rfl⟩) hS (fun r18 C16 H locs hp17 hW hS => ?_)
        obtain ⟨e19, hmd20, hf21⟩ := hp17
        rw [e19]
        obtain ⟨⟨mgz20, hm70z20⟩, ⟨F71z20, F72z20, hm71z20, hm72z20, hmtz20⟩, ⟨F73z20, hm73z20, ha73z20⟩, ⟨F74z20, hm74z20, ha74z20⟩, ⟨F75z20, hm75z20, ha75z20⟩, ⟨F76z20, hm76z20, ha76z20⟩, ⟨F77z20, hm77z20, ha77z20⟩, ⟨F78z20, hm78z20, ha78z20⟩, ⟨F79z20, hm79z20, ha79z20⟩, ⟨F80z20, hm80z20, ha80z20⟩, ⟨F81z20, hm81z20, ha81z20⟩, ⟨F82z20, hm82z20, ha82z20⟩, ⟨F83z20, hm83z20, ha83z20⟩, ⟨F84z20, hm84z20, ha84z20⟩, ⟨F85z20, hm85z20, ha85z20⟩, ⟨F86z20, hm86z20, ha86z20⟩, ⟨F87z20, hm87z20⟩, ⟨F88z20, hm88z20⟩, ⟨F89z20, hm89z20⟩, ⟨F90z20, hm90z20⟩⟩ := id hmd20
        have hwnz20 := hwf.n
        have hcd : cd_giveRange S a b u = 2 := by unfold cd_giveRange; rw [if_neg (fun z => z h_4), if_pos (by omega)]
        exact kret _ _ _ _ _ _ _ _ (⟨fun z9 => absurd (z9.symm.trans hcd) (by decide), fun _ => by rw [hcd]; exact hmd20, fun k' i' h => (hf21 k' i' (by omega))⟩) hW hS (Nat.le_of_ble_eq_true rfl) (Nat.le_of_ble_eq_true rfl) dX8_giveRange_43
      · refine lv_iload_n hx hb dX8_giveRange_33 rfl (lv_at hl 1 rfl) ?_
        refine lv_iload_n hx hb dX8_giveRange_34 rfl (lv_at hl 2 rfl) ?_
        refine z_icmp_le (tgt := 44) hx hb dX8_giveRange_35 (by decide) (ra) (rb) (fun h_35 => ?_) (fun h_35 => ?_)
        · refine lv_aload_n hx hb dX8_giveRange_44 rfl (lv_at hl 0 rfl) ?_
          refine g_get (ci := 8) X in_X8_giveRange_8 rfl hW hm70 2 (by decide) (hts _ (List.mem_of_getElem? (i := 1) rfl)) rfl dX8_giveRange_45 ?_
          refine lv_bipush (v := zI (6)) hx hb dX8_giveRange_48 (by decide) ?_
          refine z_icmp_ne (tgt := 59) hx hb dX8_giveRange_50 (by decide) (⟨by omega, by omega⟩) (⟨by omega, by omega⟩) (fun h_50 => ?_) (fun h_50 => ?_)
          · refine lv_aload_n hx hb dX8_giveRange_59 rfl (lv_at hl 0 rfl) ?_
            refine lv_iconst (v := zI (0)) hx hb dX8_giveRange_60 rfl ?_
            refine g_put (ci := 8) (ty := .int) X in_X8_giveRange_8 tyX8 tyX8_ok nmX8 rfl hW hS hm70 0 (by decide) (hts _ (List.mem_of_getElem? (i := 2) rfl)) rfl (by decide +kernel) (rfl) (rfl) (Nat.le_of_ble_eq_true rfl) dX8_giveRange_61 (fun C22 H locs hs23 hn24 hW hS => ?_)
            refine lv_aload_n hx hb dX8_giveRange_64 rfl (lv_at hl 0 rfl) ?_
            refine g_get (ci := 8) X in_X8_giveRange_8 rfl hW hs23 7 (by decide) (hts _ (List.mem_of_getElem? (i := 3) rfl)) rfl dX8_giveRange_65 ?_
            refine lv_aload_n hx hb dX8_giveRange_68 rfl (lv_at hl 0 rfl) ?_
            refine g_get (ci := 8) X in_X8_giveRange_8 rfl hW hs23 2 (by decide) (hts _ (List.mem_of_getElem? (i := 1) rfl)) rfl dX8_giveRange_69 ?_
            refine lv_iload_n hx hb dX8_giveRange_72 rfl (lv_at hl 1 rfl) ?_
            have f25 : C22 73 0 = some (gJ Z 6 F73) := ((hn24 73 0 (gk (by decide))).trans hm73)
            refine z_iast X hW hS f25 (by omega) (by omega) (by omega) dX8_giveRange_73 (fun C26 H locs hs27 hn28 hW hS => ?_)
            refine lv_aload_n hx hb dX8_giveRange_74 rfl (lv_at hl 0 rfl) ?_
            have f29 : C26 70 0 = some (.inr (8, [.int (zI 0), .int (zI (S 0 0 : Int)), .int (zI (S 0 1 : Int)), .int (zI (S 0 2 : Int)), .int (zI (S 0 3 : Int)), .ref (B 71 0), .ref (B 72 0), .ref (B 73 0), .ref (B 74 0), .ref (B 75 0), .ref (B 76 0), .ref (B 77 0), .ref (B 78 0), .ref (B 79 0), .ref (B 80 0), .ref (B 81 0), .ref (B 82 0), .ref (B 83 0), .ref (B 84 0), .ref (B 85 0), .ref (B 86 0), .ref (B 87 0), .ref (B 88 0), .ref (B 89 0), .ref (B 90 0), .int (zI mg)])) := ((hn28 70 0 (gk (by decide))).trans hs23)
            refine g_get (ci := 8) X in_X8_giveRange_8 rfl hW f29 8 (by decide) (hts _ (List.mem_of_getElem? (i := 4) rfl)) rfl dX8_giveRange_75 ?_
            refine lv_aload_n hx hb dX8_giveRange_78 rfl (lv_at hl 0 rfl) ?_
            refine g_get (ci := 8) X in_X8_giveRange_8 rfl hW f29 2 (by decide) (hts _ (List.mem_of_getElem? (i := 1) rfl)) rfl dX8_giveRange_79 ?_
            refine lv_iload_n hx hb dX8_giveRange_82 rfl (lv_at hl 2 rfl) ?_
            have f30 : C26 74 0 = some (gJ Z 6 F74) := ((hn28 74 0 (gk (by decide))).trans ((hn24 74 0 (gk (by decide))).trans hm74))
            refine z_iast X hW hS f30 (by omega) (by omega) (by omega) dX8_giveRange_83 (fun C31 H locs hs32 hn33 hW hS => ?_)
            refine lv_aload_n hx hb dX8_giveRange_84 rfl (lv_at hl 0 rfl) ?_
            have f34 : C31 70 0 = some (.inr (8, [.int (zI 0), .int (zI (S 0 0 : Int)), .int (zI (S 0 1 : Int)), .int (zI (S 0 2 : Int)), .int (zI (S 0 3 : Int)), .ref (B 71 0), .ref (B 72 0), .ref (B 73 0), .ref (B 74 0), .ref (B 75 0), .ref (B 76 0), .ref (B 77 0), .ref (B 78 0), .ref (B 79 0), .ref (B 80 0), .ref (B 81 0), .ref (B 82 0), .ref (B 83 0), .ref (B 84 0), .ref (B 85 0), .ref (B 86 0), .ref (B 87 0), .ref (B 88 0), .ref (B 89 0), .ref (B 90 0), .int (zI mg)])) := ((hn33 70 0 (gk (by decide))).trans f29)
            refine g_get (ci := 8) X in_X8_giveRange_8 rfl hW f34 9 (by decide) (hts _ (List.mem_of_getElem? (i := 5) rfl)) rfl dX8_giveRange_85 ?_
            refine lv_aload_n hx hb dX8_giveRange_88 rfl (lv_at hl 0 rfl) ?_
            refine g_get (ci := 8) X in_X8_giveRange_8 rfl hW f34 2 (by decide) (hts _ (List.mem_of_getElem? (i := 1) rfl)) rfl dX8_giveRange_89 ?_
            refine lv_iload_n hx hb dX8_giveRange_92 rfl (lv_at hl 3 rfl) ?_
            have f35 : C31 75 0 = some (gJ Z 6 F75) := ((hn33 75 0 (gk (by decide))).trans ((hn28 75 0 (gk (by decide))).trans ((hn24 75 0 (gk (by decide))).trans hm75)))
            refine z_iast X hW hS f35 (by omega) (by omega) (by omega) dX8_giveRange_93 (fun C36 H locs hs37 hn38 hW hS => ?_)
            refine lv_aload_n hx hb dX8_giveRange_94 rfl (lv_at hl 0 rfl) ?_
            refine lv_dup hx hb dX8_giveRange_95 rfl ?_
            have f39 : C36 70 0 = some (.inr (8, [.int (zI 0), .int (zI (S 0 0 : Int)), .int (zI (S 0 1 : Int)), .int (zI (S 0 2 : Int)), .int (zI (S 0 3 : Int)), .ref (B 71 0), .ref (B 72 0), .ref (B 73 0), .ref (B 74 0), .ref (B 75 0), .ref (B 76 0), .ref (B 77 0), .ref (B 78 0), .ref (B 79 0), .ref (B 80 0), .ref (B 81 0), .ref (B 82 0), .ref (B 83 0), .ref (B 84 0), .ref (B 85 0), .ref (B 86 0), .ref (B 87 0), .ref (B 88 0), .ref (B 89 0), .ref (B 90 0), .int (zI mg)])) := ((hn38 70 0 (gk (by decide))).trans f34)
            refine g_get (ci := 8) X in_X8_giveRange_8 rfl hW f39 2 (by decide) (hts _ (List.mem_of_getElem? (i := 1) rfl)) rfl dX8_giveRange_96 ?_
            refine lv_iconst (v := zI (1)) hx hb dX8_giveRange_99 rfl ?_
            refine z_iadd hx hb dX8_giveRange_100 ?_
            refine g_put (ci := 8) (ty := .int) X in_X8_giveRange_8 tyX8 tyX8_ok nmX8 rfl hW hS f39 2 (by decide) (hts _ (List.mem_of_getElem? (i := 1) rfl)) rfl (by decide +kernel) (rfl) (rfl) (Nat.le_of_ble_eq_true rfl) dX8_giveRange_101 (fun C40 H locs hs41 hn42 hW hS => ?_)
            refine lv_aload_n hx hb dX8_giveRange_104 rfl (lv_at hl 0 rfl) ?_
            refine g_get (ci := 8) X in_X8_giveRange_8 rfl hW hs41 2 (by decide) (hts _ (List.mem_of_getElem? (i := 1) rfl)) rfl dX8_giveRange_105 ?_
            have hcd : cd_giveRange S a b u = 0 := by unfold cd_giveRange; rw [if_neg (fun z => z h_4), if_neg (fun z => z ⟨⟨by omega, by omega⟩, ⟨by omega, by omega⟩, by omega⟩), if_neg (by omega)]
            have so : ∀ k' i', ¬ (k' = 0 ∧ i' = 1) → ¬ (k' = 10 ∧ i' = S 0 1) → ¬ (k' = 9 ∧ i' = S 0 1) → ¬ (k' = 8 ∧ i' = S 0 1) → nS_giveRange S a b u k' i' = S k' i' := fun k' i' a0 a1 a2 a3 => by rw [nS_giveRange, su_n a0, su_n a1, su_n a2, su_n a3]
            have s00 : nS_giveRange S a b u 0 0 = S 0 0 := so 0 0 (by omega) (by omega) (by omega) (by omega)
            have s01 : nS_giveRange S a b u 0 1 = S 0 1 + 1 := su_s
            have s02 : nS_giveRange S a b u 0 2 = S 0 2 := so 0 2 (by omega) (by omega) (by omega) (by omega)
            have s03 : nS_giveRange S a b u 0 3 = S 0 3 := so 0 3 (by omega) (by omega) (by omega) (by omega)
            have f43 : C40 71 0 = some (gJ Z 312 F71) := ((hn42 71 0 (gk (by decide))).trans ((hn38 71 0 (gk (by decide))).trans ((hn33 71 0 (gk (by decide))).trans ((hn28 71 0 (gk (by decide))).trans ((hn24 71 0 (gk (by decide))).trans hm71)))))
            have f44 : C40 72 0 = some (gJ Z 26 F72) := ((hn42 72 0 (gk (by decide))).trans ((hn38 72 0 (gk (by decide))).trans ((hn33 72 0 (gk (by decide))).trans ((hn28 72 0 (gk (by decide))).trans ((hn24 72 0 (gk (by decide))).trans hm72)))))
            have f45 : C40 73 0 = some (gJ Z 6 (ju F73 (S 0 1 : Int).toNat a)) := ((hn42 73 0 (gk (by decide))).trans ((hn38 73 0 (gk (by decide))).trans ((hn33 73 0 (gk (by decide))).trans hs27)))
            have f46 : C40 74 0 = some (gJ Z 6 (ju F74 (S 0 1 : Int).toNat b)) := ((hn42 74 0 (gk (by decide))).trans ((hn38 74 0 (gk (by decide))).trans hs32))
            have f47 : C40 75 0 = some (gJ Z 6 (ju F75 (S 0 1 : Int).toNat u)) := ((hn42 75 0 (gk (by decide))).trans hs37)
            have hmdN48 : md Z B C40 (nS_giveRange S a b u) T 0 := by
              refine md.new hmd (by rw [s00, s01, s02, s03]; exact hs41) ⟨_, _, f43, f44, hmt⟩ (fun k n q hq hrow => ?_) (fun k' h1 h2 => ((hn42 (k') 0 (by omega)).trans ((hn38 (k') 0 (by omega)).trans ((hn33 (k') 0 (by omega)).trans ((hn28 (k') 0 (by omega)).trans ((hn24 (k') 0 (by omega)).trans rfl))))))
              by_cases e0 : k = 73
              · subst e0
                obtain ⟨rfl, rfl⟩ := mrw_73 hq
                exact row.put (i := S 0 1) (v := a) ha73 f45 (by rw [nS_giveRange, su_n (by omega), su_n (by omega), su_n (by omega), su_s]; omega) (fun j hj hne => so 8 j (by omega) (by omega) (by omega) (by omega))
              · skip
                by_cases e1 : k = 74
                · subst e1
                  obtain ⟨rfl, rfl⟩ := mrw_74 hq
                  exact row.put (i := S 0 1) (v := b) ha74 f46 (by rw [nS_giveRange, su_n (by omega), su_n (by omega), su_s]; omega) (fun j hj hne => so 9 j (by omega) (by omega) (by omega) (by omega))
                · skip
                  by_cases e2 : k = 75
                  · subst e2
                    obtain ⟨rfl, rfl⟩ := mrw_75 hq
                    exact row.put (i := S 0 1) (v := u) ha75 f47 (by rw [nS_giveRange, su_n (by omega), su_s]; omega) (fun j hj hne => so 10 j (by omega) (by omega) (by omega) (by omega))
                  · skip
                    have hqb := mrw_b hq
                    exact hrow.same ((hn42 k 0 (by omega)).trans ((hn38 k 0 (by omega)).trans ((hn33 k 0 (by omega)).trans ((hn28 k 0 (by omega)).trans ((hn24 k 0 (by omega)).trans rfl))))) (fun j hj => so q j (by omega) (by omega) (by omega) (by omega))
            exact kret _ _ _ _ _ _ _ _ (⟨fun _ => ⟨rfl, hmdN48⟩, fun z9 => absurd hcd z9, fun k' i' h => (hn42 k' i' (by omega)).trans ((hn38 k' i' (by omega)).trans ((hn33 k' i' (by omega)).trans ((hn28 k' i' (by omega)).trans ((hn24 k' i' (by omega))))))⟩) hW hS (Nat.le_of_ble_eq_true rfl) (Nat.le_of_ble_eq_true rfl) dX8_giveRange_108
          · refine lv_aload_n hx hb dX8_giveRange_53 rfl (lv_at hl 0 rfl) ?_
            refine lv_iconst (v := zI (3)) hx hb dX8_giveRange_54 rfl ?_
            refine g_ci (g_runV X (k_X8_fail (v := 3) hmd) (cwV 1 hts gX8_giveRange_X8_fail rfl rfl rfl ⟨rfl, ds_X8_fail⟩ ⟨Nat.le_of_ble_eq_true rfl, Nat.le_of_ble_eq_true rfl⟩) hW hS hm70 rfl rfl hl.1 rfl (Nat.le_of_ble_eq_true rfl) dX8_giveRange_55 ⟨Nat.le_of_ble_eq_true rfl, Nat.le_of_ble_eq_true rfl⟩) hS (fun r51 C49 H locs hp50 hW hS => ?_)
            obtain ⟨e52, hmd53, hf54⟩ := hp50
            rw [e52]
            obtain ⟨⟨mgz53, hm70z53⟩, ⟨F71z53, F72z53, hm71z53, hm72z53, hmtz53⟩, ⟨F73z53, hm73z53, ha73z53⟩, ⟨F74z53, hm74z53, ha74z53⟩, ⟨F75z53, hm75z53, ha75z53⟩, ⟨F76z53, hm76z53, ha76z53⟩, ⟨F77z53, hm77z53, ha77z53⟩, ⟨F78z53, hm78z53, ha78z53⟩, ⟨F79z53, hm79z53, ha79z53⟩, ⟨F80z53, hm80z53, ha80z53⟩, ⟨F81z53, hm81z53, ha81z53⟩, ⟨F82z53, hm82z53, ha82z53⟩, ⟨F83z53, hm83z53, ha83z53⟩, ⟨F84z53, hm84z53, ha84z53⟩, ⟨F85z53, hm85z53, ha85z53⟩, ⟨F86z53, hm86z53, ha86z53⟩, ⟨F87z53, hm87z53⟩, ⟨F88z53, hm88z53⟩, ⟨F89z53, hm89z53⟩, ⟨F90z53, hm90z53⟩⟩ := id hmd53
            have hwnz53 := hwf.n
            have hcd : cd_giveRange S a b u = 3 := by unfold cd_giveRange; rw [if_neg (fun z => z h_4), if_neg (fun z => z ⟨⟨by omega, by omega⟩, ⟨by omega, by omega⟩, by omega⟩), if_pos (by omega)]
            exact kret _ _ _ _ _ _ _ _ (⟨fun z9 => absurd (z9.symm.trans hcd) (by decide), fun _ => by rw [hcd]; exact hmd53, fun k' i' h => (hf54 k' i' (by omega))⟩) hW hS (Nat.le_of_ble_eq_true rfl) (Nat.le_of_ble_eq_true rfl) dX8_giveRange_58
        · refine lv_aload_n hx hb dX8_giveRange_38 rfl (lv_at hl 0 rfl) ?_
          refine lv_iconst (v := zI (2)) hx hb dX8_giveRange_39 rfl ?_
          refine g_ci (g_runV X (k_X8_fail (v := 2) hmd) (cwV 1 hts gX8_giveRange_X8_fail rfl rfl rfl ⟨rfl, ds_X8_fail⟩ ⟨Nat.le_of_ble_eq_true rfl, Nat.le_of_ble_eq_true rfl⟩) hW hS hm70 rfl rfl hl.1 rfl (Nat.le_of_ble_eq_true rfl) dX8_giveRange_40 ⟨Nat.le_of_ble_eq_true rfl, Nat.le_of_ble_eq_true rfl⟩) hS (fun r57 C55 H locs hp56 hW hS => ?_)
          obtain ⟨e58, hmd59, hf60⟩ := hp56
          rw [e58]
          obtain ⟨⟨mgz59, hm70z59⟩, ⟨F71z59, F72z59, hm71z59, hm72z59, hmtz59⟩, ⟨F73z59, hm73z59, ha73z59⟩, ⟨F74z59, hm74z59, ha74z59⟩, ⟨F75z59, hm75z59, ha75z59⟩, ⟨F76z59, hm76z59, ha76z59⟩, ⟨F77z59, hm77z59, ha77z59⟩, ⟨F78z59, hm78z59, ha78z59⟩, ⟨F79z59, hm79z59, ha79z59⟩, ⟨F80z59, hm80z59, ha80z59⟩, ⟨F81z59, hm81z59, ha81z59⟩, ⟨F82z59, hm82z59, ha82z59⟩, ⟨F83z59, hm83z59, ha83z59⟩, ⟨F84z59, hm84z59, ha84z59⟩, ⟨F85z59, hm85z59, ha85z59⟩, ⟨F86z59, hm86z59, ha86z59⟩, ⟨F87z59, hm87z59⟩, ⟨F88z59, hm88z59⟩, ⟨F89z59, hm89z59⟩, ⟨F90z59, hm90z59⟩⟩ := id hmd59
          have hwnz59 := hwf.n
          have hcd : cd_giveRange S a b u = 2 := by unfold cd_giveRange; rw [if_neg (fun z => z h_4), if_pos (by omega)]
          exact kret _ _ _ _ _ _ _ _ (⟨fun z9 => absurd (z9.symm.trans hcd) (by decide), fun _ => by rw [hcd]; exact hmd59, fun k' i' h => (hf60 k' i' (by omega))⟩) hW hS (Nat.le_of_ble_eq_true rfl) (Nat.le_of_ble_eq_true rfl) dX8_giveRange_43
  · refine lv_aload_n hx hb dX8_giveRange_7 rfl (lv_at hl 0 rfl) ?_
    refine lv_iconst (v := zI (1)) hx hb dX8_giveRange_8 rfl ?_
    refine g_ci (g_runV X (k_X8_fail (v := 1) hmd) (cwV 1 hts gX8_giveRange_X8_fail rfl rfl rfl ⟨rfl, ds_X8_fail⟩ ⟨Nat.le_of_ble_eq_true rfl, Nat.le_of_ble_eq_true rfl⟩) hW hS hm70 rfl rfl hl.1 rfl (Nat.le_of_ble_eq_true rfl) dX8_giveRange_9 ⟨Nat.le_of_ble_eq_true rfl, Nat.le_of_ble_eq_true rfl⟩) hS (fun r63 C61 H locs hp62 hW hS => ?_)
    obtain ⟨e64, hmd65, hf66⟩ := hp62
    rw [e64]
    obtain ⟨⟨mgz65, hm70z65⟩, ⟨F71z65, F72z65, hm71z65, hm72z65, hmtz65⟩, ⟨F73z65, hm73z65, ha73z65⟩, ⟨F74z65, hm74z65, ha74z65⟩, ⟨F75z65, hm75z65, ha75z65⟩, ⟨F76z65, hm76z65, ha76z65⟩, ⟨F77z65, hm77z65, ha77z65⟩, ⟨F78z65, hm78z65, ha78z65⟩, ⟨F79z65, hm79z65, ha79z65⟩, ⟨F80z65, hm80z65, ha80z65⟩, ⟨F81z65, hm81z65, ha81z65⟩, ⟨F82z65, hm82z65, ha82z65⟩, ⟨F83z65, hm83z65, ha83z65⟩, ⟨F84z65, hm84z65, ha84z65⟩, ⟨F85z65, hm85z65, ha85z65⟩, ⟨F86z65, hm86z65, ha86z65⟩, ⟨F87z65, hm87z65⟩, ⟨F88z65, hm88z65⟩, ⟨F89z65, hm89z65⟩, ⟨F90z65, hm90z65⟩⟩ := id hmd65
    have hwnz65 := hwf.n
    have hcd : cd_giveRange S a b u = 1 := by unfold cd_giveRange; rw [if_pos (h_4)]
    exact kret _ _ _ _ _ _ _ _ (⟨fun z9 => absurd (z9.symm.trans hcd) (by decide), fun _ => by rw [hcd]; exact hmd65, fun k' i' h => (hf66 k' i' (by omega))⟩) hW hS (Nat.le_of_ble_eq_true rfl) (Nat.le_of_ble_eq_true rfl) dX8_giveRange_12

theorem ds_X8_open : yX8_open.cls ≠ "java/lang/invoke/MethodHandle" ∧ yX8_open.cls ≠ "java/lang/invoke/VarHandle" ∧ (parseMethodDescriptor yX8_open.desc).map (fun d => d.parameters.length) = some 1 := by decide +kernel
theorem in_X8_open_8 : ∀ w ∈ wsX80, w ∈ wsX8_open := by decide +kernel
def rX8_open : Room := { frames := 2, cells := 0, slots := 0, locals := 45 }
set_option maxHeartbeats 4000000 in
set_option maxRecDepth 100000 in
theorem k_X8_open {l : Launch} {Z : gZ} {B : gB} {C0 : gC} {S : gS} {T : gTx} {th : Int} {a : Int} (hmd : md Z B C0 S T th) (hwf : wf S T) (ra : zr a) : Met l yX8_open wsX8_open rX8_open (gPc Z B C0 [.ref (B 70 0), .int (zI a)]) (gQi Z B (fun r C1 => (cd_open S a = 0 → r = zI (S 0 0 : Int) ∧ md Z B C1 (nS_open S a) (nT_open S T) 0) ∧ (¬ cd_open S a = 0 → md Z B C1 S T (cd_open S a : Int)) ∧ fmd C0 C1)) 0 0 (gA Z) := by
  refine g_ofI (cc := cX8_open) (maxL := 2) (by decide) rfl (Nat.le_of_ble_eq_true rfl) ?_
  intro p e s m args below meth c Q X kret hW hS ls hl
  have hx := X.1.1
  have hb := X.1.2.1
  have hts := X.1.2.2.2.2
  have hl : lv_has ls 2 [(0, .ref (B 70 0)), (1, .int (zI a))] := hl
  obtain ⟨⟨mg, hm70⟩, ⟨F71, F72, hm71, hm72, hmt⟩, ⟨F73, hm73, ha73⟩, ⟨F74, hm74, ha74⟩, ⟨F75, hm75, ha75⟩, ⟨F76, hm76, ha76⟩, ⟨F77, hm77, ha77⟩, ⟨F78, hm78, ha78⟩, ⟨F79, hm79, ha79⟩, ⟨F80, hm80, ha80⟩, ⟨F81, hm81, ha81⟩, ⟨F82, hm82, ha82⟩, ⟨F83, hm83, ha83⟩, ⟨F84, hm84, ha84⟩, ⟨F85, hm85, ha85⟩, ⟨F86, hm86, ha86⟩, ⟨F87, hm87⟩, ⟨F88, hm88⟩, ⟨F89, hm89⟩, ⟨F90, hm90⟩⟩ := id hmd
  have hwn := hwf.n
  refine lv_iload_n hx hb dX8_open_0 rfl (lv_at hl 1 rfl) ?_
  refine g_ci (g_runS X (k_X8_isUser (B := B) (C0 := C0) (a := a) (ra)) (va_cwS 1 hts gX8_open_X8_isUser rfl rfl rfl ds_X8_isUser ⟨Nat.le_of_ble_eq_true rfl, Nat.le_of_ble_eq_true rfl⟩) hW hS rfl hl.1 rfl (Nat.le_of_ble_eq_true rfl) dX8_open_1 ⟨Nat.le_of_ble_eq_true rfl, Nat.le_of_ble_eq_true rfl⟩) hS (fun r3 C1 H locs hp2 hW hS => ?_)
  obtain ⟨rfl, ehp2⟩ := hp2
  rw [ehp2] at hW
  refine z_ifb_ne (tgt := 13) hx hb dX8_open_4 (by decide) (fun h_4 => ?_) (fun h_4 => ?_)
  · have hl0 := hwf.tx 0
    refine lv_aload_n hx hb dX8_open_13 rfl (lv_at hl 0 rfl) ?_
    refine g_get (ci := 8) X in_X8_open_8 rfl hW hm70 1 (by decide) (hts _ (List.mem_of_getElem? (i := 1) rfl)) rfl dX8_open_14 ?_
    refine lv_iconst (v := zI (4)) hx hb dX8_open_17 rfl ?_
    refine z_icmp_ne (tgt := 27) hx hb dX8_open_18 (by decide) (⟨by omega, by omega⟩) (⟨by omega, by omega⟩) (fun h_18 => ?_) (fun h_18 => ?_)
    · refine lv_aload_n hx hb dX8_open_27 rfl (lv_at hl 0 rfl) ?_
      refine lv_iconst (v := zI (0)) hx hb dX8_open_28 rfl ?_
      refine g_put (ci := 8) (ty := .int) X in_X8_open_8 tyX8 tyX8_ok nmX8 rfl hW hS hm70 0 (by decide) (hts _ (List.mem_of_getElem? (i := 2) rfl)) rfl (by decide +kernel) (rfl) (rfl) (Nat.le_of_ble_eq_true rfl) dX8_open_29 (fun C4 H locs hs5 hn6 hW hS => ?_)
      refine lv_aload_n hx hb dX8_open_32 rfl (lv_at hl 0 rfl) ?_
      refine g_get (ci := 8) X in_X8_open_8 rfl hW hs5 10 (by decide) (hts _ (List.mem_of_getElem? (i := 3) rfl)) rfl dX8_open_33 ?_
      refine lv_aload_n hx hb dX8_open_36 rfl (lv_at hl 0 rfl) ?_
      refine g_get (ci := 8) X in_X8_open_8 rfl hW hs5 1 (by decide) (hts _ (List.mem_of_getElem? (i := 1) rfl)) rfl dX8_open_37 ?_
      refine lv_iload_n hx hb dX8_open_40 rfl (lv_at hl 1 rfl) ?_
      have f7 : C4 76 0 = some (gJ Z 4 F76) := ((hn6 76 0 (gk (by decide))).trans hm76)
      refine z_iast X hW hS f7 (by omega) (by omega) (by omega) dX8_open_41 (fun C8 H locs hs9 hn10 hW hS => ?_)
      refine lv_aload_n hx hb dX8_open_42 rfl (lv_at hl 0 rfl) ?_
      refine lv_iconst (v := zI (0)) hx hb dX8_open_43 rfl ?_
      refine lv_iconst (v := zI (1)) hx hb dX8_open_44 rfl ?_
      refine lv_aload_n hx hb dX8_open_45 rfl (lv_at hl 0 rfl) ?_
      have f11 : C8 70 0 = some (.inr (8, [.int (zI 0), .int (zI (S 0 0 : Int)), .int (zI (S 0 1 : Int)), .int (zI (S 0 2 : Int)), .int (zI (S 0 3 : Int)), .ref (B 71 0), .ref (B 72 0), .ref (B 73 0), .ref (B 74 0), .ref (B 75 0), .ref (B 76 0), .ref (B 77 0), .ref (B 78 0), .ref (B 79 0), .ref (B 80 0), .ref (B 81 0), .ref (B 82 0), .ref (B 83 0), .ref (B 84 0), .ref (B 85 0), .ref (B 86 0), .ref (B 87 0), .ref (B 88 0), .ref (B 89 0), .ref (B 90 0), .int (zI mg)])) := ((hn10 70 0 (gk (by decide))).trans hs5)
      refine g_get (ci := 8) X in_X8_open_8 rfl hW f11 1 (by decide) (hts _ (List.mem_of_getElem? (i := 1) rfl)) rfl dX8_open_46 ?_
      refine z_iadd hx hb dX8_open_49 ?_
      rw [show zI 0 = zI (((0 : Nat) : Nat) : Int) from congrArg zI (by omega)]
      rw [show zI (1 + (S 0 0 : Int)) = zI (((1 + S 0 0 : Nat) : Nat) : Int) from congrArg zI (by omega)]
      have f12 : C8 71 0 = some (gJ Z 312 F71) := ((hn10 71 0 (gk (by decide))).trans ((hn6 71 0 (gk (by decide))).trans hm71))
      have f13 : C8 72 0 = some (gJ Z 26 F72) := ((hn10 72 0 (gk (by decide))).trans ((hn6 72 0 (gk (by decide))).trans hm72))
      refine g_cv (g_runV X (k_X8_copies (sa := 0) (sb := (1 + S 0 0)) (t := (T 0)) f11 f12 f13 (hmt.1 0 (by omega)) (hmt.2 0 (by omega)) (by omega) (by omega) (by omega) (by omega)) (cwV 2 hts gX8_open_X8_copies rfl rfl rfl ⟨rfl, ds_X8_copies⟩ ⟨Nat.le_of_ble_eq_true rfl, Nat.le_of_ble_eq_true rfl⟩) hW hS f11 rfl rfl hl.1 rfl (Nat.le_of_ble_eq_true rfl) dX8_open_50 ⟨Nat.le_of_ble_eq_true rfl, Nat.le_of_ble_eq_true rfl⟩) hS (fun C14 H locs hp15 hW hS => ?_)
      obtain ⟨⟨F16, h17, hn18, ho19⟩, h20, hf21⟩ := hp15
      refine lv_aload_n hx hb dX8_open_53 rfl (lv_at hl 0 rfl) ?_
      refine lv_dup hx hb dX8_open_54 rfl ?_
      have f22 : C14 70 0 = some (.inr (8, [.int (zI 0), .int (zI (S 0 0 : Int)), .int (zI (S 0 1 : Int)), .int (zI (S 0 2 : Int)), .int (zI (S 0 3 : Int)), .ref (B 71 0), .ref (B 72 0), .ref (B 73 0), .ref (B 74 0), .ref (B 75 0), .ref (B 76 0), .ref (B 77 0), .ref (B 78 0), .ref (B 79 0), .ref (B 80 0), .ref (B 81 0), .ref (B 82 0), .ref (B 83 0), .ref (B 84 0), .ref (B 85 0), .ref (B 86 0), .ref (B 87 0), .ref (B 88 0), .ref (B 89 0), .ref (B 90 0), .int (zI mg)])) := ((hf21 70 0 (by omega)).trans f11)
      refine g_get (ci := 8) X in_X8_open_8 rfl hW f22 1 (by decide) (hts _ (List.mem_of_getElem? (i := 1) rfl)) rfl dX8_open_55 ?_
      refine lv_iconst (v := zI (1)) hx hb dX8_open_58 rfl ?_
      refine z_iadd hx hb dX8_open_59 ?_
      refine g_put (ci := 8) (ty := .int) X in_X8_open_8 tyX8 tyX8_ok nmX8 rfl hW hS f22 1 (by decide) (hts _ (List.mem_of_getElem? (i := 1) rfl)) rfl (by decide +kernel) (rfl) (rfl) (Nat.le_of_ble_eq_true rfl) dX8_open_60 (fun C23 H locs hs24 hn25 hW hS => ?_)
      refine lv_aload_n hx hb dX8_open_63 rfl (lv_at hl 0 rfl) ?_
      refine g_get (ci := 8) X in_X8_open_8 rfl hW hs24 1 (by decide) (hts _ (List.mem_of_getElem? (i := 1) rfl)) rfl dX8_open_64 ?_
      refine lv_iconst (v := zI (1)) hx hb dX8_open_67 rfl ?_
      refine z_isub hx hb dX8_open_68 ?_
      have hcd : cd_open S a = 0 := by unfold cd_open; rw [if_neg (fun z => z h_4), if_neg (by omega)]
      have so : ∀ k' i', ¬ (k' = 0 ∧ i' = 0) → ¬ (k' = 1 ∧ i' = S 0 0) → nS_open S a k' i' = S k' i' := fun k' i' a0 a1 => by rw [nS_open, su_n a0, su_n a1]
      have s00 : nS_open S a 0 0 = S 0 0 + 1 := su_s
      have s01 : nS_open S a 0 1 = S 0 1 := so 0 1 (by omega) (by omega)
      have s02 : nS_open S a 0 2 = S 0 2 := so 0 2 (by omega) (by omega)
      have s03 : nS_open S a 0 3 = S 0 3 := so 0 3 (by omega) (by omega)
      have f26 : C23 71 0 = some (gJ Z 312 F16) := ((hn25 71 0 (gk (by decide))).trans h17)
      have f27 : C23 72 0 = some (gJ Z 26 (ju F72 (1 + S 0 0) ((T 0).length : Int))) := ((hn25 72 0 (gk (by decide))).trans h20)
      have f28 : C23 76 0 = some (gJ Z 4 (ju F76 (S 0 0 : Int).toNat a)) := ((hn25 76 0 (gk (by decide))).trans ((hf21 76 0 (by omega)).trans hs9))
      have hmdN29 : md Z B C23 (nS_open S a) (nT_open S T) 0 := by
        refine md.new hmd (by rw [s00, s01, s02, s03]; exact hs24) ⟨_, _, f26, f27, mtx.copy hmt hwf.tx hn18 ho19⟩ (fun k n q hq hrow => ?_) (fun k' h1 h2 => ((hn25 (k') 0 (by omega)).trans ((hf21 (k') 0 (by omega)).trans ((hn10 (k') 0 (by omega)).trans ((hn6 (k') 0 (by omega)).trans rfl)))))
        by_cases e0 : k = 76
        · subst e0
          obtain ⟨rfl, rfl⟩ := mrw_76 hq
          exact row.put (i := S 0 0) (v := a) ha76 f28 (by rw [nS_open, su_n (by omega), su_s]; omega) (fun j hj hne => so 1 j (by omega) (by omega))
        · skip
          have hqb := mrw_b hq
          exact hrow.same ((hn25 k 0 (by omega)).trans ((hf21 k 0 (by omega)).trans ((hn10 k 0 (by omega)).trans ((hn6 k 0 (by omega)).trans rfl)))) (fun j hj => so q j (by omega) (by omega))
      exact kret _ _ _ _ _ _ _ _ (⟨fun _ => ⟨congrArg zI (by omega), hmdN29⟩, fun z9 => absurd hcd z9, fun k' i' h => (hn25 k' i' (by omega)).trans ((hf21 k' i' (by omega)).trans ((hn10 k' i' (by omega)).trans ((hn6 k' i' (by omega)))))⟩) hW hS (Nat.le_of_ble_eq_true rfl) (Nat.le_of_ble_eq_true rfl) dX8_open_69
    · refine lv_aload_n hx hb dX8_open_21 rfl (lv_at hl 0 rfl) ?_
      refine lv_iconst (v := zI (2)) hx hb dX8_open_22 rfl ?_
      refine g_ci (g_runV X (k_X8_fail (v := 2) hmd) (cwV 1 hts gX8_open_X8_fail rfl rfl rfl ⟨rfl, ds_X8_fail⟩ ⟨Nat.le_of_ble_eq_true rfl, Nat.le_of_ble_eq_true rfl⟩) hW hS hm70 rfl rfl hl.1 rfl (Nat.le_of_ble_eq_true rfl) dX8_open_23 ⟨Nat.le_of_ble_eq_true rfl, Nat.le_of_ble_eq_true rfl⟩) hS (fun r32 C30 H locs hp31 hW hS => ?_)
      obtain ⟨e33, hmd34, hf35⟩ := hp31
      rw [e33]
      obtain ⟨⟨mgz34, hm70z34⟩, ⟨F71z34, F72z34, hm71z34, hm72z34, hmtz34⟩, ⟨F73z34, hm73z34, ha73z34⟩, ⟨F74z34, hm74z34, ha74z34⟩, ⟨F75z34, hm75z34, ha75z34⟩, ⟨F76z34, hm76z34, ha76z34⟩, ⟨F77z34, hm77z34, ha77z34⟩, ⟨F78z34, hm78z34, ha78z34⟩, ⟨F79z34, hm79z34, ha79z34⟩, ⟨F80z34, hm80z34, ha80z34⟩, ⟨F81z34, hm81z34, ha81z34⟩, ⟨F82z34, hm82z34, ha82z34⟩, ⟨F83z34, hm83z34, ha83z34⟩, ⟨F84z34, hm84z34, ha84z34⟩, ⟨F85z34, hm85z34, ha85z34⟩, ⟨F86z34, hm86z34, ha86z34⟩, ⟨F87z34, hm87z34⟩, ⟨F88z34, hm88z34⟩, ⟨F89z34, hm89z34⟩, ⟨F90z34, hm90z34⟩⟩ := id hmd34
      have hwnz34 := hwf.n
      have hcd : cd_open S a = 2 := by unfold cd_open; rw [if_neg (fun z => z h_4), if_pos (by omega)]
      exact kret _ _ _ _ _ _ _ _ (⟨fun z9 => absurd (z9.symm.trans hcd) (by decide), fun _ => by rw [hcd]; exact hmd34, fun k' i' h => (hf35 k' i' (by omega))⟩) hW hS (Nat.le_of_ble_eq_true rfl) (Nat.le_of_ble_eq_true rfl) dX8_open_26
  · refine lv_aload_n hx hb dX8_open_7 rfl (lv_at hl 0 rfl) ?_
    refine lv_iconst (v := zI (1)) hx hb dX8_open_8 rfl ?_
    refine g_ci (g_runV X (k_X8_fail (v := 1) hmd) (cwV 1 hts gX8_open_X8_fail rfl rfl rfl ⟨rfl, ds_X8_fail⟩ ⟨Nat.le_of_ble_eq_true rfl, Nat.le_of_ble_eq_true rfl⟩) hW hS hm70 rfl rfl hl.1 rfl (Nat.le_of_ble_eq_true rfl) dX8_open_9 ⟨Nat.le_of_ble_eq_true rfl, Nat.le_of_ble_eq_true rfl⟩) hS (fun r38 C36 H locs hp37 hW hS => ?_)
    obtain ⟨e39, hmd40, hf41⟩ := hp37
    rw [e39]
    obtain ⟨⟨mgz40, hm70z40⟩, ⟨F71z40, F72z40, hm71z40, hm72z40, hmtz40⟩, ⟨F73z40, hm73z40, ha73z40⟩, ⟨F74z40, hm74z40, ha74z40⟩, ⟨F75z40, hm75z40, ha75z40⟩, ⟨F76z40, hm76z40, ha76z40⟩, ⟨F77z40, hm77z40, ha77z40⟩, ⟨F78z40, hm78z40, ha78z40⟩, ⟨F79z40, hm79z40, ha79z40⟩, ⟨F80z40, hm80z40, ha80z40⟩, ⟨F81z40, hm81z40, ha81z40⟩, ⟨F82z40, hm82z40, ha82z40⟩, ⟨F83z40, hm83z40, ha83z40⟩, ⟨F84z40, hm84z40, ha84z40⟩, ⟨F85z40, hm85z40, ha85z40⟩, ⟨F86z40, hm86z40, ha86z40⟩, ⟨F87z40, hm87z40⟩, ⟨F88z40, hm88z40⟩, ⟨F89z40, hm89z40⟩, ⟨F90z40, hm90z40⟩⟩ := id hmd40
    have hwnz40 := hwf.n
    have hcd : cd_open S a = 1 := by unfold cd_open; rw [if_pos (h_4)]
    exact kret _ _ _ _ _ _ _ _ (⟨fun z9 => absurd (z9.symm.trans hcd) (by decide), fun _ => by rw [hcd]; exact hmd40, fun k' i' h => (hf41 k' i' (by omega))⟩) hW hS (Nat.le_of_ble_eq_true rfl) (Nat.le_of_ble_eq_true rfl) dX8_open_12

theorem ds_X8_addLine : yX8_addLine.cls ≠ "java/lang/invoke/MethodHandle" ∧ yX8_addLine.cls ≠ "java/lang/invoke/VarHandle" ∧ (parseMethodDescriptor yX8_addLine.desc).map (fun d => d.parameters.length) = some 2 := by decide +kernel
theorem in_X8_addLine_8 : ∀ w ∈ wsX80, w ∈ wsX8_addLine := by decide +kernel
def rX8_addLine : Room := { frames := 2, cells := 0, slots := 0, locals := 43 }
set_option maxHeartbeats 4000000 in
set_option maxRecDepth 100000 in
theorem k_X8_addLine {l : Launch} {Z : gZ} {B : gB} {C0 : gC} {S : gS} {T : gTx} {th : Int} {cc a : Int} (hmd : md Z B C0 S T th) (hwf : wf S T) (rcc : zr cc) (ra : zr a) : Met l yX8_addLine wsX8_addLine rX8_addLine (gPc Z B C0 [.ref (B 70 0), .int (zI cc), .int (zI a)]) (gQi Z B (fun r C1 => (cd_addLine S T cc a = 0 → r = zI (((T (5 + cc.toNat)).length : Int) + 1) ∧ md Z B C1 S (nT_addLine T cc a) 0) ∧ (¬ cd_addLine S T cc a = 0 → md Z B C1 S T (cd_addLine S T cc a : Int)) ∧ fmd C0 C1)) 0 0 (gA Z) := by
  refine g_ofI (cc := cX8_addLine) (maxL := 4) (by decide) rfl (Nat.le_of_ble_eq_true rfl) ?_
  intro p e s m args below meth c Q X kret hW hS ls hl
  have hx := X.1.1
  have hb := X.1.2.1
  have hts := X.1.2.2.2.2
  have hl : lv_has ls 4 [(0, .ref (B 70 0)), (1, .int (zI cc)), (2, .int (zI a))] := hl
  obtain ⟨⟨mg, hm70⟩, ⟨F71, F72, hm71, hm72, hmt⟩, ⟨F73, hm73, ha73⟩, ⟨F74, hm74, ha74⟩, ⟨F75, hm75, ha75⟩, ⟨F76, hm76, ha76⟩, ⟨F77, hm77, ha77⟩, ⟨F78, hm78, ha78⟩, ⟨F79, hm79, ha79⟩, ⟨F80, hm80, ha80⟩, ⟨F81, hm81, ha81⟩, ⟨F82, hm82, ha82⟩, ⟨F83, hm83, ha83⟩, ⟨F84, hm84, ha84⟩, ⟨F85, hm85, ha85⟩, ⟨F86, hm86, ha86⟩, ⟨F87, hm87⟩, ⟨F88, hm88⟩, ⟨F89, hm89⟩, ⟨F90, hm90⟩⟩ := id hmd
  have hwn := hwf.n
  refine lv_aload_n hx hb dX8_addLine_0 rfl (lv_at hl 0 rfl) ?_
  refine lv_iload_n hx hb dX8_addLine_1 rfl (lv_at hl 1 rfl) ?_
  refine g_ci (g_runV X (k_X8_isChange (a := cc) hmd hwf (rcc)) (cwV 1 hts gX8_addLine_X8_isChange rfl rfl rfl ⟨rfl, ds_X8_isChange⟩ ⟨Nat.le_of_ble_eq_true rfl, Nat.le_of_ble_eq_true rfl⟩) hW hS hm70 rfl rfl hl.1 rfl (Nat.le_of_ble_eq_true rfl) dX8_addLine_2 ⟨Nat.le_of_ble_eq_true rfl, Nat.le_of_ble_eq_true rfl⟩) hS (fun r3 C1 H locs hp2 hW hS => ?_)
  obtain ⟨rfl, ehp2⟩ := hp2
  rw [ehp2] at hW
  refine z_ifb_ne (tgt := 14) hx hb dX8_addLine_5 (by decide) (fun h_5 => ?_) (fun h_5 => ?_)
  · have hwi := hwf.ch (show cc.toNat < S 0 0 by omega)
    have hdl := hwf.tx (5 + cc.toNat)
    refine lv_iload_n hx hb dX8_addLine_14 rfl (lv_at hl 2 rfl) ?_
    refine lv_iconst (v := zI (0)) hx hb dX8_addLine_15 rfl ?_
    refine lv_bipush (v := zI (99)) hx hb dX8_addLine_16 (by decide) ?_
    refine g_ci (g_runS X (k_X8_isIn (B := B) (C0 := C0) (x := a) (a := 0) (b := 99) (ra) (⟨by omega, by omega⟩) (⟨by omega, by omega⟩)) (va_cwS 3 hts gX8_addLine_X8_isIn rfl rfl rfl ds_X8_isIn ⟨Nat.le_of_ble_eq_true rfl, Nat.le_of_ble_eq_true rfl⟩) hW hS rfl hl.1 rfl (Nat.le_of_ble_eq_true rfl) dX8_addLine_18 ⟨Nat.le_of_ble_eq_true rfl, Nat.le_of_ble_eq_true rfl⟩) hS (fun r6 C4 H locs hp5 hW hS => ?_)
    obtain ⟨rfl, ehp5⟩ := hp5
    rw [ehp5] at hW
    refine z_ifb_ne (tgt := 30) hx hb dX8_addLine_21 (by decide) (fun h_21 => ?_) (fun h_21 => ?_)
    · refine lv_iconst (v := zI (5)) hx hb dX8_addLine_30 rfl ?_
      refine lv_iload_n hx hb dX8_addLine_31 rfl (lv_at hl 1 rfl) ?_
      refine z_iadd hx hb dX8_addLine_32 ?_
      refine lv_istore_n (lv' := [(3, .int (zI (5 + cc))), (0, .ref (B 70 0)), (1, .int (zI cc)), (2, .int (zI a))]) hx hb dX8_addLine_33 rfl hl (by decide) rfl (fun ls hl => ?_)
      refine lv_aload_n hx hb dX8_addLine_34 rfl (lv_at hl 1 rfl) ?_
      refine g_get (ci := 8) X in_X8_addLine_8 rfl hW hm70 14 (by decide) (hts _ (List.mem_of_getElem? (i := 1) rfl)) rfl dX8_addLine_35 ?_
      refine lv_iload_n hx hb dX8_addLine_38 rfl (lv_at hl 2 rfl) ?_
      refine z_iald X hW hm80 (by omega) (by omega) (by omega) dX8_addLine_39 ?_
      rw [show F80 (cc).toNat = (S 5 cc.toNat : Int) from by rw [show (cc).toNat = cc.toNat by omega]; exact ha80 _ (by omega)]
      refine lv_iconst (v := zI (1)) hx hb dX8_addLine_40 rfl ?_
      refine z_icmp_eq (tgt := 55) hx hb dX8_addLine_41 (by decide) (⟨by omega, by omega⟩) (⟨by omega, by omega⟩) (fun h_41 => ?_) (fun h_41 => ?_)
      · refine lv_aload_n hx hb dX8_addLine_55 rfl (lv_at hl 1 rfl) ?_
        refine lv_iconst (v := zI (3)) hx hb dX8_addLine_56 rfl ?_
        refine g_ci (g_runV X (k_X8_fail (v := 3) hmd) (cwV 1 hts gX8_addLine_X8_fail rfl rfl rfl ⟨rfl, ds_X8_fail⟩ ⟨Nat.le_of_ble_eq_true rfl, Nat.le_of_ble_eq_true rfl⟩) hW hS hm70 rfl rfl hl.1 rfl (Nat.le_of_ble_eq_true rfl) dX8_addLine_57 ⟨Nat.le_of_ble_eq_true rfl, Nat.le_of_ble_eq_true rfl⟩) hS (fun r9 C7 H locs hp8 hW hS => ?_)
        obtain ⟨e10, hmd11, hf12⟩ := hp8
        rw [e10]
        obtain ⟨⟨mgz11, hm70z11⟩, ⟨F71z11, F72z11, hm71z11, hm72z11, hmtz11⟩, ⟨F73z11, hm73z11, ha73z11⟩, ⟨F74z11, hm74z11, ha74z11⟩, ⟨F75z11, hm75z11, ha75z11⟩, ⟨F76z11, hm76z11, ha76z11⟩, ⟨F77z11, hm77z11, ha77z11⟩, ⟨F78z11, hm78z11, ha78z11⟩, ⟨F79z11, hm79z11, ha79z11⟩, ⟨F80z11, hm80z11, ha80z11⟩, ⟨F81z11, hm81z11, ha81z11⟩, ⟨F82z11, hm82z11, ha82z11⟩, ⟨F83z11, hm83z11, ha83z11⟩, ⟨F84z11, hm84z11, ha84z11⟩, ⟨F85z11, hm85z11, ha85z11⟩, ⟨F86z11, hm86z11, ha86z11⟩, ⟨F87z11, hm87z11⟩, ⟨F88z11, hm88z11⟩, ⟨F89z11, hm89z11⟩, ⟨F90z11, hm90z11⟩⟩ := id hmd11
        have hwnz11 := hwf.n
        have hcd : cd_addLine S T cc a = 3 := by unfold cd_addLine; rw [if_neg (fun z => z h_5), if_neg (fun z => z ⟨by omega, by omega⟩), if_pos (by omega)]
        exact kret _ _ _ _ _ _ _ _ (⟨fun z9 => absurd (z9.symm.trans hcd) (by decide), fun _ => by rw [hcd]; exact hmd11, fun k' i' h => (hf12 k' i' (by omega))⟩) hW hS (Nat.le_of_ble_eq_true rfl) (Nat.le_of_ble_eq_true rfl) dX8_addLine_60
      · refine lv_aload_n hx hb dX8_addLine_44 rfl (lv_at hl 1 rfl) ?_
        refine g_get (ci := 8) X in_X8_addLine_8 rfl hW hm70 6 (by decide) (hts _ (List.mem_of_getElem? (i := 2) rfl)) rfl dX8_addLine_45 ?_
        refine lv_iload_n hx hb dX8_addLine_48 rfl (lv_at hl 0 rfl) ?_
        refine z_iald X hW hm72 (by omega) (by omega) (by omega) dX8_addLine_49 ?_
        rw [show F72 (5 + cc).toNat = ((T (5 + cc.toNat)).length : Int) from by rw [show (5 + cc).toNat = 5 + cc.toNat by omega]; exact hmt.1 _ (by omega)]
        refine lv_bipush (v := zI (12)) hx hb dX8_addLine_50 (by decide) ?_
        refine z_icmp_ne (tgt := 61) hx hb dX8_addLine_52 (by decide) (⟨by omega, by omega⟩) (⟨by omega, by omega⟩) (fun h_52 => ?_) (fun h_52 => ?_)
        · refine lv_aload_n hx hb dX8_addLine_61 rfl (lv_at hl 1 rfl) ?_
          refine lv_iconst (v := zI (0)) hx hb dX8_addLine_62 rfl ?_
          refine g_put (ci := 8) (ty := .int) X in_X8_addLine_8 tyX8 tyX8_ok nmX8 rfl hW hS hm70 0 (by decide) (hts _ (List.mem_of_getElem? (i := 3) rfl)) rfl (by decide +kernel) (rfl) (rfl) (Nat.le_of_ble_eq_true rfl) dX8_addLine_63 (fun C13 H locs hs14 hn15 hW hS => ?_)
          refine lv_aload_n hx hb dX8_addLine_66 rfl (lv_at hl 1 rfl) ?_
          refine g_get (ci := 8) X in_X8_addLine_8 rfl hW hs14 5 (by decide) (hts _ (List.mem_of_getElem? (i := 4) rfl)) rfl dX8_addLine_67 ?_
          refine lv_bipush (v := zI (12)) hx hb dX8_addLine_70 (by decide) ?_
          refine lv_iload_n hx hb dX8_addLine_72 rfl (lv_at hl 0 rfl) ?_
          refine z_imul hx hb dX8_addLine_73 ?_
          refine lv_aload_n hx hb dX8_addLine_74 rfl (lv_at hl 1 rfl) ?_
          refine g_get (ci := 8) X in_X8_addLine_8 rfl hW hs14 6 (by decide) (hts _ (List.mem_of_getElem? (i := 2) rfl)) rfl dX8_addLine_75 ?_
          refine lv_iload_n hx hb dX8_addLine_78 rfl (lv_at hl 0 rfl) ?_
          have f16 : C13 72 0 = some (gJ Z 26 F72) := ((hn15 72 0 (gk (by decide))).trans hm72)
          refine z_iald X hW f16 (by omega) (by omega) (by omega) dX8_addLine_79 ?_
          rw [show F72 (5 + cc).toNat = ((T (5 + cc.toNat)).length : Int) from by rw [show (5 + cc).toNat = 5 + cc.toNat by omega]; exact hmt.1 _ (by omega)]
          refine z_iadd hx hb dX8_addLine_80 ?_
          refine lv_iload_n hx hb dX8_addLine_81 rfl (lv_at hl 3 rfl) ?_
          have f17 : C13 71 0 = some (gJ Z 312 F71) := ((hn15 71 0 (gk (by decide))).trans hm71)
          refine z_iast X hW hS f17 (by omega) (by omega) (by omega) dX8_addLine_82 (fun C18 H locs hs19 hn20 hW hS => ?_)
          refine lv_aload_n hx hb dX8_addLine_83 rfl (lv_at hl 1 rfl) ?_
          have f21 : C18 70 0 = some (.inr (8, [.int (zI 0), .int (zI (S 0 0 : Int)), .int (zI (S 0 1 : Int)), .int (zI (S 0 2 : Int)), .int (zI (S 0 3 : Int)), .ref (B 71 0), .ref (B 72 0), .ref (B 73 0), .ref (B 74 0), .ref (B 75 0), .ref (B 76 0), .ref (B 77 0), .ref (B 78 0), .ref (B 79 0), .ref (B 80 0), .ref (B 81 0), .ref (B 82 0), .ref (B 83 0), .ref (B 84 0), .ref (B 85 0), .ref (B 86 0), .ref (B 87 0), .ref (B 88 0), .ref (B 89 0), .ref (B 90 0), .int (zI mg)])) := ((hn20 70 0 (gk (by decide))).trans hs14)
          refine g_get (ci := 8) X in_X8_addLine_8 rfl hW f21 6 (by decide) (hts _ (List.mem_of_getElem? (i := 2) rfl)) rfl dX8_addLine_84 ?_
          refine lv_iload_n hx hb dX8_addLine_87 rfl (lv_at hl 0 rfl) ?_
          refine lv_dup2_11 hx hb dX8_addLine_88 rfl rfl ?_
          have f22 : C18 72 0 = some (gJ Z 26 F72) := ((hn20 72 0 (gk (by decide))).trans f16)
          refine z_iald X hW f22 (by omega) (by omega) (by omega) dX8_addLine_89 ?_
          rw [show F72 (5 + cc).toNat = ((T (5 + cc.toNat)).length : Int) from by rw [show (5 + cc).toNat = 5 + cc.toNat by omega]; exact hmt.1 _ (by omega)]
          refine lv_iconst (v := zI (1)) hx hb dX8_addLine_90 rfl ?_
          refine z_iadd hx hb dX8_addLine_91 ?_
          refine z_iast X hW hS f22 (by omega) (by omega) (by omega) dX8_addLine_92 (fun C23 H locs hs24 hn25 hW hS => ?_)
          refine lv_aload_n hx hb dX8_addLine_93 rfl (lv_at hl 1 rfl) ?_
          have f26 : C23 70 0 = some (.inr (8, [.int (zI 0), .int (zI (S 0 0 : Int)), .int (zI (S 0 1 : Int)), .int (zI (S 0 2 : Int)), .int (zI (S 0 3 : Int)), .ref (B 71 0), .ref (B 72 0), .ref (B 73 0), .ref (B 74 0), .ref (B 75 0), .ref (B 76 0), .ref (B 77 0), .ref (B 78 0), .ref (B 79 0), .ref (B 80 0), .ref (B 81 0), .ref (B 82 0), .ref (B 83 0), .ref (B 84 0), .ref (B 85 0), .ref (B 86 0), .ref (B 87 0), .ref (B 88 0), .ref (B 89 0), .ref (B 90 0), .int (zI mg)])) := ((hn25 70 0 (gk (by decide))).trans f21)
          refine g_get (ci := 8) X in_X8_addLine_8 rfl hW f26 6 (by decide) (hts _ (List.mem_of_getElem? (i := 2) rfl)) rfl dX8_addLine_94 ?_
          refine lv_iload_n hx hb dX8_addLine_97 rfl (lv_at hl 0 rfl) ?_
          refine z_iald X hW hs24 (by omega) (by omega) (by omega) dX8_addLine_98 ?_
          rw [show (ju F72 (5 + cc).toNat (((T (5 + cc.toNat)).length : Int) + 1)) (5 + cc).toNat = (((T (5 + cc.toNat)).length : Int) + 1) from ju_s]
          have hcd : cd_addLine S T cc a = 0 := by unfold cd_addLine; rw [if_neg (fun z => z h_5), if_neg (fun z => z ⟨by omega, by omega⟩), if_neg (by omega)]
          have so : ∀ k' i', S k' i' = S k' i' := fun _ _ => rfl
          have s00 : S 0 0 = S 0 0 := so 0 0 
          have s01 : S 0 1 = S 0 1 := so 0 1 
          have s02 : S 0 2 = S 0 2 := so 0 2 
          have s03 : S 0 3 = S 0 3 := so 0 3 
          have f27 : C23 71 0 = some (gJ Z 312 (ju F71 ((12 * (5 + cc)) + ((T (5 + cc.toNat)).length : Int)).toNat a)) := ((hn25 71 0 (gk (by decide))).trans hs19)
          have hmdN28 : md Z B C23 S (nT_addLine T cc a) 0 := by
            refine md.new hmd (by rw [s00, s01, s02, s03]; exact f26) ⟨_, _, (by have h9 := f27; rwa [show (12 * (5 + cc) + ((T (5 + cc.toNat)).length : Int)).toNat = 12 * (5 + cc.toNat) + (T (5 + cc.toNat)).length by omega] at h9), (by have h9 := hs24; rwa [show (5 + cc).toNat = 5 + cc.toNat by omega] at h9), mtx.app hmt hwf.tx (by omega)⟩ (fun k n q hq hrow => ?_) (fun k' h1 h2 => ((hn25 (k') 0 (by omega)).trans ((hn20 (k') 0 (by omega)).trans ((hn15 (k') 0 (by omega)).trans rfl))))
            have hqb := mrw_b hq
            exact hrow.same ((hn25 k 0 (by omega)).trans ((hn20 k 0 (by omega)).trans ((hn15 k 0 (by omega)).trans rfl))) (fun j hj => so q j )
          exact kret _ _ _ _ _ _ _ _ (⟨fun _ => ⟨rfl, hmdN28⟩, fun z9 => absurd hcd z9, fun k' i' h => (hn25 k' i' (by omega)).trans ((hn20 k' i' (by omega)).trans ((hn15 k' i' (by omega))))⟩) hW hS (Nat.le_of_ble_eq_true rfl) (Nat.le_of_ble_eq_true rfl) dX8_addLine_99
        · refine lv_aload_n hx hb dX8_addLine_55 rfl (lv_at hl 1 rfl) ?_
          refine lv_iconst (v := zI (3)) hx hb dX8_addLine_56 rfl ?_
          refine g_ci (g_runV X (k_X8_fail (v := 3) hmd) (cwV 1 hts gX8_addLine_X8_fail rfl rfl rfl ⟨rfl, ds_X8_fail⟩ ⟨Nat.le_of_ble_eq_true rfl, Nat.le_of_ble_eq_true rfl⟩) hW hS hm70 rfl rfl hl.1 rfl (Nat.le_of_ble_eq_true rfl) dX8_addLine_57 ⟨Nat.le_of_ble_eq_true rfl, Nat.le_of_ble_eq_true rfl⟩) hS (fun r31 C29 H locs hp30 hW hS => ?_)
          obtain ⟨e32, hmd33, hf34⟩ := hp30
          rw [e32]
          obtain ⟨⟨mgz33, hm70z33⟩, ⟨F71z33, F72z33, hm71z33, hm72z33, hmtz33⟩, ⟨F73z33, hm73z33, ha73z33⟩, ⟨F74z33, hm74z33, ha74z33⟩, ⟨F75z33, hm75z33, ha75z33⟩, ⟨F76z33, hm76z33, ha76z33⟩, ⟨F77z33, hm77z33, ha77z33⟩, ⟨F78z33, hm78z33, ha78z33⟩, ⟨F79z33, hm79z33, ha79z33⟩, ⟨F80z33, hm80z33, ha80z33⟩, ⟨F81z33, hm81z33, ha81z33⟩, ⟨F82z33, hm82z33, ha82z33⟩, ⟨F83z33, hm83z33, ha83z33⟩, ⟨F84z33, hm84z33, ha84z33⟩, ⟨F85z33, hm85z33, ha85z33⟩, ⟨F86z33, hm86z33, ha86z33⟩, ⟨F87z33, hm87z33⟩, ⟨F88z33, hm88z33⟩, ⟨F89z33, hm89z33⟩, ⟨F90z33, hm90z33⟩⟩ := id hmd33
          have hwnz33 := hwf.n
          have hcd : cd_addLine S T cc a = 3 := by unfold cd_addLine; rw [if_neg (fun z => z h_5), if_neg (fun z => z ⟨by omega, by omega⟩), if_pos (by omega)]
          exact kret _ _ _ _ _ _ _ _ (⟨fun z9 => absurd (z9.symm.trans hcd) (by decide), fun _ => by rw [hcd]; exact hmd33, fun k' i' h => (hf34 k' i' (by omega))⟩) hW hS (Nat.le_of_ble_eq_true rfl) (Nat.le_of_ble_eq_true rfl) dX8_addLine_60
    · refine lv_aload_n hx hb dX8_addLine_24 rfl (lv_at hl 0 rfl) ?_
      refine lv_iconst (v := zI (2)) hx hb dX8_addLine_25 rfl ?_
      refine g_ci (g_runV X (k_X8_fail (v := 2) hmd) (cwV 1 hts gX8_addLine_X8_fail rfl rfl rfl ⟨rfl, ds_X8_fail⟩ ⟨Nat.le_of_ble_eq_true rfl, Nat.le_of_ble_eq_true rfl⟩) hW hS hm70 rfl rfl hl.1 rfl (Nat.le_of_ble_eq_true rfl) dX8_addLine_26 ⟨Nat.le_of_ble_eq_true rfl, Nat.le_of_ble_eq_true rfl⟩) hS (fun r37 C35 H locs hp36 hW hS => ?_)
      obtain ⟨e38, hmd39, hf40⟩ := hp36
      rw [e38]
      obtain ⟨⟨mgz39, hm70z39⟩, ⟨F71z39, F72z39, hm71z39, hm72z39, hmtz39⟩, ⟨F73z39, hm73z39, ha73z39⟩, ⟨F74z39, hm74z39, ha74z39⟩, ⟨F75z39, hm75z39, ha75z39⟩, ⟨F76z39, hm76z39, ha76z39⟩, ⟨F77z39, hm77z39, ha77z39⟩, ⟨F78z39, hm78z39, ha78z39⟩, ⟨F79z39, hm79z39, ha79z39⟩, ⟨F80z39, hm80z39, ha80z39⟩, ⟨F81z39, hm81z39, ha81z39⟩, ⟨F82z39, hm82z39, ha82z39⟩, ⟨F83z39, hm83z39, ha83z39⟩, ⟨F84z39, hm84z39, ha84z39⟩, ⟨F85z39, hm85z39, ha85z39⟩, ⟨F86z39, hm86z39, ha86z39⟩, ⟨F87z39, hm87z39⟩, ⟨F88z39, hm88z39⟩, ⟨F89z39, hm89z39⟩, ⟨F90z39, hm90z39⟩⟩ := id hmd39
      have hwnz39 := hwf.n
      have hcd : cd_addLine S T cc a = 2 := by unfold cd_addLine; rw [if_neg (fun z => z h_5), if_pos (by omega)]
      exact kret _ _ _ _ _ _ _ _ (⟨fun z9 => absurd (z9.symm.trans hcd) (by decide), fun _ => by rw [hcd]; exact hmd39, fun k' i' h => (hf40 k' i' (by omega))⟩) hW hS (Nat.le_of_ble_eq_true rfl) (Nat.le_of_ble_eq_true rfl) dX8_addLine_29
  · refine lv_aload_n hx hb dX8_addLine_8 rfl (lv_at hl 0 rfl) ?_
    refine lv_iconst (v := zI (1)) hx hb dX8_addLine_9 rfl ?_
    refine g_ci (g_runV X (k_X8_fail (v := 1) hmd) (cwV 1 hts gX8_addLine_X8_fail rfl rfl rfl ⟨rfl, ds_X8_fail⟩ ⟨Nat.le_of_ble_eq_true rfl, Nat.le_of_ble_eq_true rfl⟩) hW hS hm70 rfl rfl hl.1 rfl (Nat.le_of_ble_eq_true rfl) dX8_addLine_10 ⟨Nat.le_of_ble_eq_true rfl, Nat.le_of_ble_eq_true rfl⟩) hS (fun r43 C41 H locs hp42 hW hS => ?_)
    obtain ⟨e44, hmd45, hf46⟩ := hp42
    rw [e44]
    obtain ⟨⟨mgz45, hm70z45⟩, ⟨F71z45, F72z45, hm71z45, hm72z45, hmtz45⟩, ⟨F73z45, hm73z45, ha73z45⟩, ⟨F74z45, hm74z45, ha74z45⟩, ⟨F75z45, hm75z45, ha75z45⟩, ⟨F76z45, hm76z45, ha76z45⟩, ⟨F77z45, hm77z45, ha77z45⟩, ⟨F78z45, hm78z45, ha78z45⟩, ⟨F79z45, hm79z45, ha79z45⟩, ⟨F80z45, hm80z45, ha80z45⟩, ⟨F81z45, hm81z45, ha81z45⟩, ⟨F82z45, hm82z45, ha82z45⟩, ⟨F83z45, hm83z45, ha83z45⟩, ⟨F84z45, hm84z45, ha84z45⟩, ⟨F85z45, hm85z45, ha85z45⟩, ⟨F86z45, hm86z45, ha86z45⟩, ⟨F87z45, hm87z45⟩, ⟨F88z45, hm88z45⟩, ⟨F89z45, hm89z45⟩, ⟨F90z45, hm90z45⟩⟩ := id hmd45
    have hwnz45 := hwf.n
    have hcd : cd_addLine S T cc a = 1 := by unfold cd_addLine; rw [if_pos (h_5)]
    exact kret _ _ _ _ _ _ _ _ (⟨fun z9 => absurd (z9.symm.trans hcd) (by decide), fun _ => by rw [hcd]; exact hmd45, fun k' i' h => (hf46 k' i' (by omega))⟩) hW hS (Nat.le_of_ble_eq_true rfl) (Nat.le_of_ble_eq_true rfl) dX8_addLine_13

theorem ds_X8_lay : yX8_lay.cls ≠ "java/lang/invoke/MethodHandle" ∧ yX8_lay.cls ≠ "java/lang/invoke/VarHandle" ∧ (parseMethodDescriptor yX8_lay.desc).map (fun d => d.parameters.length) = some 1 := by decide +kernel
theorem in_X8_lay_8 : ∀ w ∈ wsX80, w ∈ wsX8_lay := by decide +kernel
def rX8_lay : Room := { frames := 2, cells := 0, slots := 0, locals := 45 }
set_option maxHeartbeats 4000000 in
set_option maxRecDepth 100000 in
theorem k_X8_lay {l : Launch} {Z : gZ} {B : gB} {C0 : gC} {S : gS} {T : gTx} {th : Int} {cc : Int} (hmd : md Z B C0 S T th) (hwf : wf S T) (rcc : zr cc) : Met l yX8_lay wsX8_lay rX8_lay (gPc Z B C0 [.ref (B 70 0), .int (zI cc)]) (gQi Z B (fun r C1 => (cd_lay S cc = 0 → r = zI (S 2 cc.toNat : Int) ∧ md Z B C1 (nS_lay S cc.toNat) (nT_lay S T cc.toNat) 0) ∧ (¬ cd_lay S cc = 0 → md Z B C1 S T (cd_lay S cc : Int)) ∧ fmd C0 C1)) 0 0 (gA Z) := by
  refine g_ofI (cc := cX8_lay) (maxL := 2) (by decide) rfl (Nat.le_of_ble_eq_true rfl) ?_
  intro p e s m args below meth c Q X kret hW hS ls hl
  have hx := X.1.1
  have hb := X.1.2.1
  have hts := X.1.2.2.2.2
  have hl : lv_has ls 2 [(0, .ref (B 70 0)), (1, .int (zI cc))] := hl
  obtain ⟨⟨mg, hm70⟩, ⟨F71, F72, hm71, hm72, hmt⟩, ⟨F73, hm73, ha73⟩, ⟨F74, hm74, ha74⟩, ⟨F75, hm75, ha75⟩, ⟨F76, hm76, ha76⟩, ⟨F77, hm77, ha77⟩, ⟨F78, hm78, ha78⟩, ⟨F79, hm79, ha79⟩, ⟨F80, hm80, ha80⟩, ⟨F81, hm81, ha81⟩, ⟨F82, hm82, ha82⟩, ⟨F83, hm83, ha83⟩, ⟨F84, hm84, ha84⟩, ⟨F85, hm85, ha85⟩, ⟨F86, hm86, ha86⟩, ⟨F87, hm87⟩, ⟨F88, hm88⟩, ⟨F89, hm89⟩, ⟨F90, hm90⟩⟩ := id hmd
  have hwn := hwf.n
  refine lv_aload_n hx hb dX8_lay_0 rfl (lv_at hl 0 rfl) ?_
  refine lv_iload_n hx hb dX8_lay_1 rfl (lv_at hl 1 rfl) ?_
  refine g_ci (g_runV X (k_X8_isChange (a := cc) hmd hwf (rcc)) (cwV 1 hts gX8_lay_X8_isChange rfl rfl rfl ⟨rfl, ds_X8_isChange⟩ ⟨Nat.le_of_ble_eq_true rfl, Nat.le_of_ble_eq_true rfl⟩) hW hS hm70 rfl rfl hl.1 rfl (Nat.le_of_ble_eq_true rfl) dX8_lay_2 ⟨Nat.le_of_ble_eq_true rfl, Nat.le_of_ble_eq_true rfl⟩) hS (fun r3 C1 H locs hp2 hW hS => ?_)
  obtain ⟨rfl, ehp2⟩ := hp2
  rw [ehp2] at hW
  refine z_ifb_ne (tgt := 14) hx hb dX8_lay_5 (by decide) (fun h_5 => ?_) (fun h_5 => ?_)
  · have hwi := hwf.ch (show cc.toNat < S 0 0 by omega)
    have hdl := hwf.tx (5 + cc.toNat)
    refine lv_aload_n hx hb dX8_lay_14 rfl (lv_at hl 0 rfl) ?_
    refine g_get (ci := 8) X in_X8_lay_8 rfl hW hm70 14 (by decide) (hts _ (List.mem_of_getElem? (i := 1) rfl)) rfl dX8_lay_15 ?_
    refine lv_iload_n hx hb dX8_lay_18 rfl (lv_at hl 1 rfl) ?_
    refine z_iald X hW hm80 (by omega) (by omega) (by omega) dX8_lay_19 ?_
    rw [show F80 (cc).toNat = (S 5 cc.toNat : Int) from by rw [show (cc).toNat = cc.toNat by omega]; exact ha80 _ (by omega)]
    refine lv_iconst (v := zI (1)) hx hb dX8_lay_20 rfl ?_
    refine z_icmp_eq (tgt := 34) hx hb dX8_lay_21 (by decide) (⟨by omega, by omega⟩) (⟨by omega, by omega⟩) (fun h_21 => ?_) (fun h_21 => ?_)
    · refine lv_aload_n hx hb dX8_lay_34 rfl (lv_at hl 0 rfl) ?_
      refine lv_iconst (v := zI (2)) hx hb dX8_lay_35 rfl ?_
      refine g_ci (g_runV X (k_X8_fail (v := 2) hmd) (cwV 1 hts gX8_lay_X8_fail rfl rfl rfl ⟨rfl, ds_X8_fail⟩ ⟨Nat.le_of_ble_eq_true rfl, Nat.le_of_ble_eq_true rfl⟩) hW hS hm70 rfl rfl hl.1 rfl (Nat.le_of_ble_eq_true rfl) dX8_lay_36 ⟨Nat.le_of_ble_eq_true rfl, Nat.le_of_ble_eq_true rfl⟩) hS (fun r6 C4 H locs hp5 hW hS => ?_)
      obtain ⟨e7, hmd8, hf9⟩ := hp5
      rw [e7]
      obtain ⟨⟨mgz8, hm70z8⟩, ⟨F71z8, F72z8, hm71z8, hm72z8, hmtz8⟩, ⟨F73z8, hm73z8, ha73z8⟩, ⟨F74z8, hm74z8, ha74z8⟩, ⟨F75z8, hm75z8, ha75z8⟩, ⟨F76z8, hm76z8, ha76z8⟩, ⟨F77z8, hm77z8, ha77z8⟩, ⟨F78z8, hm78z8, ha78z8⟩, ⟨F79z8, hm79z8, ha79z8⟩, ⟨F80z8, hm80z8, ha80z8⟩, ⟨F81z8, hm81z8, ha81z8⟩, ⟨F82z8, hm82z8, ha82z8⟩, ⟨F83z8, hm83z8, ha83z8⟩, ⟨F84z8, hm84z8, ha84z8⟩, ⟨F85z8, hm85z8, ha85z8⟩, ⟨F86z8, hm86z8, ha86z8⟩, ⟨F87z8, hm87z8⟩, ⟨F88z8, hm88z8⟩, ⟨F89z8, hm89z8⟩, ⟨F90z8, hm90z8⟩⟩ := id hmd8
      have hwnz8 := hwf.n
      have hcd : cd_lay S cc = 2 := by unfold cd_lay; rw [if_neg (fun z => z h_5), if_pos (by omega)]
      exact kret _ _ _ _ _ _ _ _ (⟨fun z9 => absurd (z9.symm.trans hcd) (by decide), fun _ => by rw [hcd]; exact hmd8, fun k' i' h => (hf9 k' i' (by omega))⟩) hW hS (Nat.le_of_ble_eq_true rfl) (Nat.le_of_ble_eq_true rfl) dX8_lay_39
    · refine lv_aload_n hx hb dX8_lay_24 rfl (lv_at hl 0 rfl) ?_
      refine g_get (ci := 8) X in_X8_lay_8 rfl hW hm70 11 (by decide) (hts _ (List.mem_of_getElem? (i := 2) rfl)) rfl dX8_lay_25 ?_
      refine lv_iload_n hx hb dX8_lay_28 rfl (lv_at hl 1 rfl) ?_
      refine z_iald X hW hm77 (by omega) (by omega) (by omega) dX8_lay_29 ?_
      rw [show F77 (cc).toNat = (S 2 cc.toNat : Int) from by rw [show (cc).toNat = cc.toNat by omega]; exact ha77 _ (by omega)]
      refine lv_iconst (v := zI (4)) hx hb dX8_lay_30 rfl ?_
      refine z_icmp_ne (tgt := 40) hx hb dX8_lay_31 (by decide) (⟨by omega, by omega⟩) (⟨by omega, by omega⟩) (fun h_31 => ?_) (fun h_31 => ?_)
      · refine lv_aload_n hx hb dX8_lay_40 rfl (lv_at hl 0 rfl) ?_
        refine lv_iconst (v := zI (0)) hx hb dX8_lay_41 rfl ?_
        refine g_put (ci := 8) (ty := .int) X in_X8_lay_8 tyX8 tyX8_ok nmX8 rfl hW hS hm70 0 (by decide) (hts _ (List.mem_of_getElem? (i := 3) rfl)) rfl (by decide +kernel) (rfl) (rfl) (Nat.le_of_ble_eq_true rfl) dX8_lay_42 (fun C10 H locs hs11 hn12 hW hS => ?_)
        refine lv_aload_n hx hb dX8_lay_45 rfl (lv_at hl 0 rfl) ?_
        refine lv_iconst (v := zI (5)) hx hb dX8_lay_46 rfl ?_
        refine lv_iload_n hx hb dX8_lay_47 rfl (lv_at hl 1 rfl) ?_
        refine z_iadd hx hb dX8_lay_48 ?_
        refine lv_iload_n hx hb dX8_lay_49 rfl (lv_at hl 1 rfl) ?_
        refine lv_aload_n hx hb dX8_lay_50 rfl (lv_at hl 0 rfl) ?_
        refine g_get (ci := 8) X in_X8_lay_8 rfl hW hs11 11 (by decide) (hts _ (List.mem_of_getElem? (i := 2) rfl)) rfl dX8_lay_51 ?_
        refine lv_iload_n hx hb dX8_lay_54 rfl (lv_at hl 1 rfl) ?_
        have f13 : C10 77 0 = some (gJ Z 4 F77) := ((hn12 77 0 (gk (by decide))).trans hm77)
        refine z_iald X hW f13 (by omega) (by omega) (by omega) dX8_lay_55 ?_
        rw [show F77 (cc).toNat = (S 2 cc.toNat : Int) from by rw [show (cc).toNat = cc.toNat by omega]; exact ha77 _ (by omega)]
        refine g_ci (g_runS X (k_X8_slot (a := cc) (b := (S 2 cc.toNat : Int))) (va_cwS 2 hts gX8_lay_X8_slot rfl rfl rfl ds_X8_slot ⟨Nat.le_of_ble_eq_true rfl, Nat.le_of_ble_eq_true rfl⟩) hW hS rfl hl.1 rfl (Nat.le_of_ble_eq_true rfl) dX8_lay_56 ⟨Nat.le_of_ble_eq_true rfl, Nat.le_of_ble_eq_true rfl⟩) hS (fun r16 C14 H locs hp15 hW hS => ?_)
        obtain ⟨rfl, ehp15⟩ := hp15
        rw [ehp15] at hW
        rw [show zI (5 + cc) = zI (((5 + cc.toNat : Nat) : Nat) : Int) from congrArg zI (by omega)]
        rw [show zI (9 + 4 * cc + (S 2 cc.toNat : Int)) = zI (((9 + 4 * cc.toNat + S 2 cc.toNat : Nat) : Nat) : Int) from congrArg zI (by omega)]
        have f17 : C10 71 0 = some (gJ Z 312 F71) := ((hn12 71 0 (gk (by decide))).trans hm71)
        have f18 : C10 72 0 = some (gJ Z 26 F72) := ((hn12 72 0 (gk (by decide))).trans hm72)
        refine g_cv (g_runV X (k_X8_copies (sa := (5 + cc.toNat)) (sb := (9 + 4 * cc.toNat + S 2 cc.toNat)) (t := (T (5 + cc.toNat))) hs11 f17 f18 (hmt.1 _ (by omega)) (hmt.2 _ (by omega)) (by omega) (by omega) (by omega) (by omega)) (cwV 2 hts gX8_lay_X8_copies rfl rfl rfl ⟨rfl, ds_X8_copies⟩ ⟨Nat.le_of_ble_eq_true rfl, Nat.le_of_ble_eq_true rfl⟩) hW hS hs11 rfl rfl hl.1 rfl (Nat.le_of_ble_eq_true rfl) dX8_lay_59 ⟨Nat.le_of_ble_eq_true rfl, Nat.le_of_ble_eq_true rfl⟩) hS (fun C19 H locs hp20 hW hS => ?_)
        obtain ⟨⟨F21, h22, hn23, ho24⟩, h25, hf26⟩ := hp20
        refine lv_aload_n hx hb dX8_lay_62 rfl (lv_at hl 0 rfl) ?_
        have f27 : C19 70 0 = some (.inr (8, [.int (zI 0), .int (zI (S 0 0 : Int)), .int (zI (S 0 1 : Int)), .int (zI (S 0 2 : Int)), .int (zI (S 0 3 : Int)), .ref (B 71 0), .ref (B 72 0), .ref (B 73 0), .ref (B 74 0), .ref (B 75 0), .ref (B 76 0), .ref (B 77 0), .ref (B 78 0), .ref (B 79 0), .ref (B 80 0), .ref (B 81 0), .ref (B 82 0), .ref (B 83 0), .ref (B 84 0), .ref (B 85 0), .ref (B 86 0), .ref (B 87 0), .ref (B 88 0), .ref (B 89 0), .ref (B 90 0), .int (zI mg)])) := ((hf26 70 0 (by omega)).trans hs11)
        refine g_get (ci := 8) X in_X8_lay_8 rfl hW f27 6 (by decide) (hts _ (List.mem_of_getElem? (i := 4) rfl)) rfl dX8_lay_63 ?_
        refine lv_iconst (v := zI (5)) hx hb dX8_lay_66 rfl ?_
        refine lv_iload_n hx hb dX8_lay_67 rfl (lv_at hl 1 rfl) ?_
        refine z_iadd hx hb dX8_lay_68 ?_
        refine lv_iconst (v := zI (0)) hx hb dX8_lay_69 rfl ?_
        refine z_iast X hW hS h25 (by omega) (by omega) (by omega) dX8_lay_70 (fun C28 H locs hs29 hn30 hW hS => ?_)
        refine lv_aload_n hx hb dX8_lay_71 rfl (lv_at hl 0 rfl) ?_
        have f31 : C28 70 0 = some (.inr (8, [.int (zI 0), .int (zI (S 0 0 : Int)), .int (zI (S 0 1 : Int)), .int (zI (S 0 2 : Int)), .int (zI (S 0 3 : Int)), .ref (B 71 0), .ref (B 72 0), .ref (B 73 0), .ref (B 74 0), .ref (B 75 0), .ref (B 76 0), .ref (B 77 0), .ref (B 78 0), .ref (B 79 0), .ref (B 80 0), .ref (B 81 0), .ref (B 82 0), .ref (B 83 0), .ref (B 84 0), .ref (B 85 0), .ref (B 86 0), .ref (B 87 0), .ref (B 88 0), .ref (B 89 0), .ref (B 90 0), .int (zI mg)])) := ((hn30 70 0 (gk (by decide))).trans f27)
        refine g_get (ci := 8) X in_X8_lay_8 rfl hW f31 11 (by decide) (hts _ (List.mem_of_getElem? (i := 2) rfl)) rfl dX8_lay_72 ?_
        refine lv_iload_n hx hb dX8_lay_75 rfl (lv_at hl 1 rfl) ?_
        refine lv_dup2_11 hx hb dX8_lay_76 rfl rfl ?_
        have f32 : C28 77 0 = some (gJ Z 4 F77) := ((hn30 77 0 (gk (by decide))).trans ((hf26 77 0 (by omega)).trans f13))
        refine z_iald X hW f32 (by omega) (by omega) (by omega) dX8_lay_77 ?_
        rw [show F77 (cc).toNat = (S 2 cc.toNat : Int) from by rw [show (cc).toNat = cc.toNat by omega]; exact ha77 _ (by omega)]
        refine lv_iconst (v := zI (1)) hx hb dX8_lay_78 rfl ?_
        refine z_iadd hx hb dX8_lay_79 ?_
        refine z_iast X hW hS f32 (by omega) (by omega) (by omega) dX8_lay_80 (fun C33 H locs hs34 hn35 hW hS => ?_)
        refine lv_aload_n hx hb dX8_lay_81 rfl (lv_at hl 0 rfl) ?_
        have f36 : C33 70 0 = some (.inr (8, [.int (zI 0), .int (zI (S 0 0 : Int)), .int (zI (S 0 1 : Int)), .int (zI (S 0 2 : Int)), .int (zI (S 0 3 : Int)), .ref (B 71 0), .ref (B 72 0), .ref (B 73 0), .ref (B 74 0), .ref (B 75 0), .ref (B 76 0), .ref (B 77 0), .ref (B 78 0), .ref (B 79 0), .ref (B 80 0), .ref (B 81 0), .ref (B 82 0), .ref (B 83 0), .ref (B 84 0), .ref (B 85 0), .ref (B 86 0), .ref (B 87 0), .ref (B 88 0), .ref (B 89 0), .ref (B 90 0), .int (zI mg)])) := ((hn35 70 0 (gk (by decide))).trans f31)
        refine g_get (ci := 8) X in_X8_lay_8 rfl hW f36 11 (by decide) (hts _ (List.mem_of_getElem? (i := 2) rfl)) rfl dX8_lay_82 ?_
        refine lv_iload_n hx hb dX8_lay_85 rfl (lv_at hl 1 rfl) ?_
        refine z_iald X hW hs34 (by omega) (by omega) (by omega) dX8_lay_86 ?_
        rw [show (ju F77 (cc).toNat ((S 2 cc.toNat : Int) + 1)) (cc).toNat = ((S 2 cc.toNat : Int) + 1) from ju_s]
        refine lv_iconst (v := zI (1)) hx hb dX8_lay_87 rfl ?_
        refine z_isub hx hb dX8_lay_88 ?_
        have hcd : cd_lay S cc = 0 := by unfold cd_lay; rw [if_neg (fun z => z h_5), if_neg (by omega)]
        have so : ∀ k' i', ¬ (k' = 2 ∧ i' = cc.toNat) → nS_lay S cc.toNat k' i' = S k' i' := fun k' i' a0 => by rw [nS_lay, su_n a0]
        have s00 : nS_lay S cc.toNat 0 0 = S 0 0 := so 0 0 (by omega)
        have s01 : nS_lay S cc.toNat 0 1 = S 0 1 := so 0 1 (by omega)
        have s02 : nS_lay S cc.toNat 0 2 = S 0 2 := so 0 2 (by omega)
        have s03 : nS_lay S cc.toNat 0 3 = S 0 3 := so 0 3 (by omega)
        have f37 : C33 71 0 = some (gJ Z 312 F21) := ((hn35 71 0 (gk (by decide))).trans ((hn30 71 0 (gk (by decide))).trans h22))
        have f38 : C33 72 0 = some (gJ Z 26 (ju (ju F72 (9 + 4 * cc.toNat + S 2 cc.toNat) ((T (5 + cc.toNat)).length : Int)) (5 + cc).toNat 0)) := ((hn35 72 0 (gk (by decide))).trans hs29)
        have hmdN39 : md Z B C33 (nS_lay S cc.toNat) (nT_lay S T cc.toNat) 0 := by
          refine md.new hmd (by rw [s00, s01, s02, s03]; exact f36) ⟨_, _, f37, (by have h9 := f38; rwa [show (5 + cc).toNat = 5 + cc.toNat by omega] at h9), mtx.clr (mtx.copy hmt hwf.tx hn23 ho24)⟩ (fun k n q hq hrow => ?_) (fun k' h1 h2 => ((hn35 (k') 0 (by omega)).trans ((hn30 (k') 0 (by omega)).trans ((hf26 (k') 0 (by omega)).trans ((hn12 (k') 0 (by omega)).trans rfl)))))
          by_cases e0 : k = 77
          · subst e0
            obtain ⟨rfl, rfl⟩ := mrw_77 hq
            exact row.put (i := cc.toNat) (v := ((S 2 cc.toNat : Int) + 1)) ha77 hs34 (by rw [nS_lay, su_s]; rfl) (fun j hj hne => so 2 j (by omega))
          · skip
            have hqb := mrw_b hq
            exact hrow.same ((hn35 k 0 (by omega)).trans ((hn30 k 0 (by omega)).trans ((hf26 k 0 (by omega)).trans ((hn12 k 0 (by omega)).trans rfl)))) (fun j hj => so q j (by omega))
        exact kret _ _ _ _ _ _ _ _ (⟨fun _ => ⟨congrArg zI (by omega), hmdN39⟩, fun z9 => absurd hcd z9, fun k' i' h => (hn35 k' i' (by omega)).trans ((hn30 k' i' (by omega)).trans ((hf26 k' i' (by omega)).trans ((hn12 k' i' (by omega)))))⟩) hW hS (Nat.le_of_ble_eq_true rfl) (Nat.le_of_ble_eq_true rfl) dX8_lay_89
      · refine lv_aload_n hx hb dX8_lay_34 rfl (lv_at hl 0 rfl) ?_
        refine lv_iconst (v := zI (2)) hx hb dX8_lay_35 rfl ?_
        refine g_ci (g_runV X (k_X8_fail (v := 2) hmd) (cwV 1 hts gX8_lay_X8_fail rfl rfl rfl ⟨rfl, ds_X8_fail⟩ ⟨Nat.le_of_ble_eq_true rfl, Nat.le_of_ble_eq_true rfl⟩) hW hS hm70 rfl rfl hl.1 rfl (Nat.le_of_ble_eq_true rfl) dX8_lay_36 ⟨Nat.le_of_ble_eq_true rfl, Nat.le_of_ble_eq_true rfl⟩) hS (fun r42 C40 H locs hp41 hW hS => ?_)
        obtain ⟨e43, hmd44, hf45⟩ := hp41
        rw [e43]
        obtain ⟨⟨mgz44, hm70z44⟩, ⟨F71z44, F72z44, hm71z44, hm72z44, hmtz44⟩, ⟨F73z44, hm73z44, ha73z44⟩, ⟨F74z44, hm74z44, ha74z44⟩, ⟨F75z44, hm75z44, ha75z44⟩, ⟨F76z44, hm76z44, ha76z44⟩, ⟨F77z44, hm77z44, ha77z44⟩, ⟨F78z44, hm78z44, ha78z44⟩, ⟨F79z44, hm79z44, ha79z44⟩, ⟨F80z44, hm80z44, ha80z44⟩, ⟨F81z44, hm81z44, ha81z44⟩, ⟨F82z44, hm82z44, ha82z44⟩, ⟨F83z44, hm83z44, ha83z44⟩, ⟨F84z44, hm84z44, ha84z44⟩, ⟨F85z44, hm85z44, ha85z44⟩, ⟨F86z44, hm86z44, ha86z44⟩, ⟨F87z44, hm87z44⟩, ⟨F88z44, hm88z44⟩, ⟨F89z44, hm89z44⟩, ⟨F90z44, hm90z44⟩⟩ := id hmd44
        have hwnz44 := hwf.n
        have hcd : cd_lay S cc = 2 := by unfold cd_lay; rw [if_neg (fun z => z h_5), if_pos (by omega)]
        exact kret _ _ _ _ _ _ _ _ (⟨fun z9 => absurd (z9.symm.trans hcd) (by decide), fun _ => by rw [hcd]; exact hmd44, fun k' i' h => (hf45 k' i' (by omega))⟩) hW hS (Nat.le_of_ble_eq_true rfl) (Nat.le_of_ble_eq_true rfl) dX8_lay_39
  · refine lv_aload_n hx hb dX8_lay_8 rfl (lv_at hl 0 rfl) ?_
    refine lv_iconst (v := zI (1)) hx hb dX8_lay_9 rfl ?_
    refine g_ci (g_runV X (k_X8_fail (v := 1) hmd) (cwV 1 hts gX8_lay_X8_fail rfl rfl rfl ⟨rfl, ds_X8_fail⟩ ⟨Nat.le_of_ble_eq_true rfl, Nat.le_of_ble_eq_true rfl⟩) hW hS hm70 rfl rfl hl.1 rfl (Nat.le_of_ble_eq_true rfl) dX8_lay_10 ⟨Nat.le_of_ble_eq_true rfl, Nat.le_of_ble_eq_true rfl⟩) hS (fun r48 C46 H locs hp47 hW hS => ?_)
    obtain ⟨e49, hmd50, hf51⟩ := hp47
    rw [e49]
    obtain ⟨⟨mgz50, hm70z50⟩, ⟨F71z50, F72z50, hm71z50, hm72z50, hmtz50⟩, ⟨F73z50, hm73z50, ha73z50⟩, ⟨F74z50, hm74z50, ha74z50⟩, ⟨F75z50, hm75z50, ha75z50⟩, ⟨F76z50, hm76z50, ha76z50⟩, ⟨F77z50, hm77z50, ha77z50⟩, ⟨F78z50, hm78z50, ha78z50⟩, ⟨F79z50, hm79z50, ha79z50⟩, ⟨F80z50, hm80z50, ha80z50⟩, ⟨F81z50, hm81z50, ha81z50⟩, ⟨F82z50, hm82z50, ha82z50⟩, ⟨F83z50, hm83z50, ha83z50⟩, ⟨F84z50, hm84z50, ha84z50⟩, ⟨F85z50, hm85z50, ha85z50⟩, ⟨F86z50, hm86z50, ha86z50⟩, ⟨F87z50, hm87z50⟩, ⟨F88z50, hm88z50⟩, ⟨F89z50, hm89z50⟩, ⟨F90z50, hm90z50⟩⟩ := id hmd50
    have hwnz50 := hwf.n
    have hcd : cd_lay S cc = 1 := by unfold cd_lay; rw [if_pos (h_5)]
    exact kret _ _ _ _ _ _ _ _ (⟨fun z9 => absurd (z9.symm.trans hcd) (by decide), fun _ => by rw [hcd]; exact hmd50, fun k' i' h => (hf51 k' i' (by omega))⟩) hW hS (Nat.le_of_ble_eq_true rfl) (Nat.le_of_ble_eq_true rfl) dX8_lay_13

theorem ds_X8_landAfter : yX8_landAfter.cls ≠ "java/lang/invoke/MethodHandle" ∧ yX8_landAfter.cls ≠ "java/lang/invoke/VarHandle" ∧ (parseMethodDescriptor yX8_landAfter.desc).map (fun d => d.parameters.length) = some 2 := by decide +kernel
theorem in_X8_landAfter_8 : ∀ w ∈ wsX80, w ∈ wsX8_landAfter := by decide +kernel
def rX8_landAfter : Room := { frames := 2, cells := 0, slots := 0, locals := 43 }
set_option maxHeartbeats 4000000 in
set_option maxRecDepth 100000 in
theorem k_X8_landAfter {l : Launch} {Z : gZ} {B : gB} {C0 : gC} {S : gS} {T : gTx} {th : Int} {cc dd : Int} (hmd : md Z B C0 S T th) (hwf : wf S T) (rcc : zr cc) (rdd : zr dd) : Met l yX8_landAfter wsX8_landAfter rX8_landAfter (gPc Z B C0 [.ref (B 70 0), .int (zI cc), .int (zI dd)]) (gQi Z B (fun r C1 => (cd_landAfter S cc dd = 0 → r = zI (bcnt (bset (S 3 cc.toNat) dd.toNat) : Int) ∧ md Z B C1 (nS_landAfter S cc dd) T 0) ∧ (¬ cd_landAfter S cc dd = 0 → md Z B C1 S T (cd_landAfter S cc dd : Int)) ∧ fmd C0 C1)) 0 0 (gA Z) := by
  refine g_ofI (cc := cX8_landAfter) (maxL := 5) (by decide) rfl (Nat.le_of_ble_eq_true rfl) ?_
  intro p e s m args below meth c Q X kret hW hS ls hl
  have hx := X.1.1
  have hb := X.1.2.1
  have hts := X.1.2.2.2.2
  have hl : lv_has ls 5 [(0, .ref (B 70 0)), (1, .int (zI cc)), (2, .int (zI dd))] := hl
  obtain ⟨⟨mg, hm70⟩, ⟨F71, F72, hm71, hm72, hmt⟩, ⟨F73, hm73, ha73⟩, ⟨F74, hm74, ha74⟩, ⟨F75, hm75, ha75⟩, ⟨F76, hm76, ha76⟩, ⟨F77, hm77, ha77⟩, ⟨F78, hm78, ha78⟩, ⟨F79, hm79, ha79⟩, ⟨F80, hm80, ha80⟩, ⟨F81, hm81, ha81⟩, ⟨F82, hm82, ha82⟩, ⟨F83, hm83, ha83⟩, ⟨F84, hm84, ha84⟩, ⟨F85, hm85, ha85⟩, ⟨F86, hm86, ha86⟩, ⟨F87, hm87⟩, ⟨F88, hm88⟩, ⟨F89, hm89⟩, ⟨F90, hm90⟩⟩ := id hmd
  have hwn := hwf.n
  refine lv_aload_n hx hb dX8_landAfter_0 rfl (lv_at hl 0 rfl) ?_
  refine lv_iload_n hx hb dX8_landAfter_1 rfl (lv_at hl 1 rfl) ?_
  refine g_ci (g_runV X (k_X8_isChange (a := cc) hmd hwf (rcc)) (cwV 1 hts gX8_landAfter_X8_isChange rfl rfl rfl ⟨rfl, ds_X8_isChange⟩ ⟨Nat.le_of_ble_eq_true rfl, Nat.le_of_ble_eq_true rfl⟩) hW hS hm70 rfl rfl hl.1 rfl (Nat.le_of_ble_eq_true rfl) dX8_landAfter_2 ⟨Nat.le_of_ble_eq_true rfl, Nat.le_of_ble_eq_true rfl⟩) hS (fun r3 C1 H locs hp2 hW hS => ?_)
  obtain ⟨rfl, ehp2⟩ := hp2
  rw [ehp2] at hW
  refine z_ifb_eq (tgt := 16) hx hb dX8_landAfter_5 (by decide) (fun h_5 => ?_) (fun h_5 => ?_)
  · refine lv_aload_n hx hb dX8_landAfter_16 rfl (lv_at hl 0 rfl) ?_
    refine lv_iconst (v := zI (1)) hx hb dX8_landAfter_17 rfl ?_
    refine g_ci (g_runV X (k_X8_fail (v := 1) hmd) (cwV 1 hts gX8_landAfter_X8_fail rfl rfl rfl ⟨rfl, ds_X8_fail⟩ ⟨Nat.le_of_ble_eq_true rfl, Nat.le_of_ble_eq_true rfl⟩) hW hS hm70 rfl rfl hl.1 rfl (Nat.le_of_ble_eq_true rfl) dX8_landAfter_18 ⟨Nat.le_of_ble_eq_true rfl, Nat.le_of_ble_eq_true rfl⟩) hS (fun r6 C4 H locs hp5 hW hS => ?_)
    obtain ⟨e7, hmd8, hf9⟩ := hp5
    rw [e7]
    obtain ⟨⟨mgz8, hm70z8⟩, ⟨F71z8, F72z8, hm71z8, hm72z8, hmtz8⟩, ⟨F73z8, hm73z8, ha73z8⟩, ⟨F74z8, hm74z8, ha74z8⟩, ⟨F75z8, hm75z8, ha75z8⟩, ⟨F76z8, hm76z8, ha76z8⟩, ⟨F77z8, hm77z8, ha77z8⟩, ⟨F78z8, hm78z8, ha78z8⟩, ⟨F79z8, hm79z8, ha79z8⟩, ⟨F80z8, hm80z8, ha80z8⟩, ⟨F81z8, hm81z8, ha81z8⟩, ⟨F82z8, hm82z8, ha82z8⟩, ⟨F83z8, hm83z8, ha83z8⟩, ⟨F84z8, hm84z8, ha84z8⟩, ⟨F85z8, hm85z8, ha85z8⟩, ⟨F86z8, hm86z8, ha86z8⟩, ⟨F87z8, hm87z8⟩, ⟨F88z8, hm88z8⟩, ⟨F89z8, hm89z8⟩, ⟨F90z8, hm90z8⟩⟩ := id hmd8
    have hwnz8 := hwf.n
    have hcd : cd_landAfter S cc dd = 1 := by unfold cd_landAfter; rw [if_pos (fun z => h_5 z.1)]
    exact kret _ _ _ _ _ _ _ _ (⟨fun z9 => absurd (z9.symm.trans hcd) (by decide), fun _ => by rw [hcd]; exact hmd8, fun k' i' h => (hf9 k' i' (by omega))⟩) hW hS (Nat.le_of_ble_eq_true rfl) (Nat.le_of_ble_eq_true rfl) dX8_landAfter_21
  · refine lv_aload_n hx hb dX8_landAfter_8 rfl (lv_at hl 0 rfl) ?_
    refine lv_iload_n hx hb dX8_landAfter_9 rfl (lv_at hl 2 rfl) ?_
    refine g_ci (g_runV X (k_X8_isChange (a := dd) hmd hwf (rdd)) (cwV 1 hts gX8_landAfter_X8_isChange rfl rfl rfl ⟨rfl, ds_X8_isChange⟩ ⟨Nat.le_of_ble_eq_true rfl, Nat.le_of_ble_eq_true rfl⟩) hW hS hm70 rfl rfl hl.1 rfl (Nat.le_of_ble_eq_true rfl) dX8_landAfter_10 ⟨Nat.le_of_ble_eq_true rfl, Nat.le_of_ble_eq_true rfl⟩) hS (fun r12 C10 H locs hp11 hW hS => ?_)
    obtain ⟨rfl, ehp11⟩ := hp11
    rw [ehp11] at hW
    refine z_ifb_ne (tgt := 22) hx hb dX8_landAfter_13 (by decide) (fun h_13 => ?_) (fun h_13 => ?_)
    · have hwi := hwf.ch (show cc.toNat < S 0 0 by omega)
      refine lv_aload_n hx hb dX8_landAfter_22 rfl (lv_at hl 0 rfl) ?_
      refine g_get (ci := 8) X in_X8_landAfter_8 rfl hW hm70 14 (by decide) (hts _ (List.mem_of_getElem? (i := 1) rfl)) rfl dX8_landAfter_23 ?_
      refine lv_iload_n hx hb dX8_landAfter_26 rfl (lv_at hl 1 rfl) ?_
      refine z_iald X hW hm80 (by omega) (by omega) (by omega) dX8_landAfter_27 ?_
      rw [show F80 (cc).toNat = (S 5 cc.toNat : Int) from by rw [show (cc).toNat = cc.toNat by omega]; exact ha80 _ (by omega)]
      refine lv_iconst (v := zI (1)) hx hb dX8_landAfter_28 rfl ?_
      refine z_icmp_ne (tgt := 38) hx hb dX8_landAfter_29 (by decide) (⟨by omega, by omega⟩) (⟨by omega, by omega⟩) (fun h_29 => ?_) (fun h_29 => ?_)
      · refine lv_iload_n hx hb dX8_landAfter_38 rfl (lv_at hl 1 rfl) ?_
        refine lv_iload_n hx hb dX8_landAfter_39 rfl (lv_at hl 2 rfl) ?_
        refine z_icmp_eq (tgt := 56) hx hb dX8_landAfter_40 (by decide) (rcc) (rdd) (fun h_40 => ?_) (fun h_40 => ?_)
        · refine lv_aload_n hx hb dX8_landAfter_56 rfl (lv_at hl 0 rfl) ?_
          refine lv_iconst (v := zI (3)) hx hb dX8_landAfter_57 rfl ?_
          refine g_ci (g_runV X (k_X8_fail (v := 3) hmd) (cwV 1 hts gX8_landAfter_X8_fail rfl rfl rfl ⟨rfl, ds_X8_fail⟩ ⟨Nat.le_of_ble_eq_true rfl, Nat.le_of_ble_eq_true rfl⟩) hW hS hm70 rfl rfl hl.1 rfl (Nat.le_of_ble_eq_true rfl) dX8_landAfter_58 ⟨Nat.le_of_ble_eq_true rfl, Nat.le_of_ble_eq_true rfl⟩) hS (fun r15 C13 H locs hp14 hW hS => ?_)
          obtain ⟨e16, hmd17, hf18⟩ := hp14
          rw [e16]
          obtain ⟨⟨mgz17, hm70z17⟩, ⟨F71z17, F72z17, hm71z17, hm72z17, hmtz17⟩, ⟨F73z17, hm73z17, ha73z17⟩, ⟨F74z17, hm74z17, ha74z17⟩, ⟨F75z17, hm75z17, ha75z17⟩, ⟨F76z17, hm76z17, ha76z17⟩, ⟨F77z17, hm77z17, ha77z17⟩, ⟨F78z17, hm78z17, ha78z17⟩, ⟨F79z17, hm79z17, ha79z17⟩, ⟨F80z17, hm80z17, ha80z17⟩, ⟨F81z17, hm81z17, ha81z17⟩, ⟨F82z17, hm82z17, ha82z17⟩, ⟨F83z17, hm83z17, ha83z17⟩, ⟨F84z17, hm84z17, ha84z17⟩, ⟨F85z17, hm85z17, ha85z17⟩, ⟨F86z17, hm86z17, ha86z17⟩, ⟨F87z17, hm87z17⟩, ⟨F88z17, hm88z17⟩, ⟨F89z17, hm89z17⟩, ⟨F90z17, hm90z17⟩⟩ := id hmd17
          have hwnz17 := hwf.n
          have hcd : cd_landAfter S cc dd = 3 := by unfold cd_landAfter; rw [if_neg (fun z => z ⟨h_5, h_13⟩), if_neg (by omega), if_pos (Or.inl h_40)]
          exact kret _ _ _ _ _ _ _ _ (⟨fun z9 => absurd (z9.symm.trans hcd) (by decide), fun _ => by rw [hcd]; exact hmd17, fun k' i' h => (hf18 k' i' (by omega))⟩) hW hS (Nat.le_of_ble_eq_true rfl) (Nat.le_of_ble_eq_true rfl) dX8_landAfter_61
        · refine lv_aload_n hx hb dX8_landAfter_43 rfl (lv_at hl 0 rfl) ?_
          refine lv_iload_n hx hb dX8_landAfter_44 rfl (lv_at hl 2 rfl) ?_
          rw [show zI dd = zI ((dd.toNat : Nat) : Int) from congrArg zI (by omega)]
          refine g_ci (g_runV X (k_X8_allAfter (i := (dd.toNat)) hmd hwf (show dd.toNat < S 0 0 by omega)) (cwV 1 hts gX8_landAfter_X8_allAfter rfl rfl rfl ⟨rfl, ds_X8_allAfter⟩ ⟨Nat.le_of_ble_eq_true rfl, Nat.le_of_ble_eq_true rfl⟩) hW hS hm70 rfl rfl hl.1 rfl (Nat.le_of_ble_eq_true rfl) dX8_landAfter_45 ⟨Nat.le_of_ble_eq_true rfl, Nat.le_of_ble_eq_true rfl⟩) hS (fun r21 C19 H locs hp20 hW hS => ?_)
          obtain ⟨rfl, ehp20⟩ := hp20
          rw [ehp20] at hW
          have hab := abf_lt hwf (show dd.toNat < S 0 0 by omega)
          refine lv_iload_n hx hb dX8_landAfter_48 rfl (lv_at hl 1 rfl) ?_
          refine lv_ishr hx hb dX8_landAfter_49 ?_
          refine lv_iconst (v := zI (1)) hx hb dX8_landAfter_50 rfl ?_
          refine lv_iand hx hb dX8_landAfter_51 ?_
          rw [show (((zI (abf S (dd.toNat) : Int)) >>> ((zI cc) &&& 31)) &&& (zI 1)) = zI (if (abf S dd.toNat).testBit cc.toNat = true then 1 else 0) from bitm2 (by omega) (by omega) (by omega)]
          refine lv_iconst (v := zI (1)) hx hb dX8_landAfter_52 rfl ?_
          refine z_icmp_ne (tgt := 62) hx hb dX8_landAfter_53 (by decide) (⟨by split <;> omega, by split <;> omega⟩) (⟨by omega, by omega⟩) (fun h_53 => ?_) (fun h_53 => ?_)
          · refine lv_aload_n hx hb dX8_landAfter_62 rfl (lv_at hl 0 rfl) ?_
            refine lv_iconst (v := zI (0)) hx hb dX8_landAfter_63 rfl ?_
            refine g_put (ci := 8) (ty := .int) X in_X8_landAfter_8 tyX8 tyX8_ok nmX8 rfl hW hS hm70 0 (by decide) (hts _ (List.mem_of_getElem? (i := 2) rfl)) rfl (by decide +kernel) (rfl) (rfl) (Nat.le_of_ble_eq_true rfl) dX8_landAfter_64 (fun C22 H locs hs23 hn24 hW hS => ?_)
            refine lv_aload_n hx hb dX8_landAfter_67 rfl (lv_at hl 0 rfl) ?_
            refine g_get (ci := 8) X in_X8_landAfter_8 rfl hW hs23 12 (by decide) (hts _ (List.mem_of_getElem? (i := 3) rfl)) rfl dX8_landAfter_68 ?_
            refine lv_iload_n hx hb dX8_landAfter_71 rfl (lv_at hl 1 rfl) ?_
            refine lv_dup2_11 hx hb dX8_landAfter_72 rfl rfl ?_
            have f25 : C22 78 0 = some (gJ Z 4 F78) := ((hn24 78 0 (gk (by decide))).trans hm78)
            refine z_iald X hW f25 (by omega) (by omega) (by omega) dX8_landAfter_73 ?_
            rw [show F78 (cc).toNat = (S 3 cc.toNat : Int) from by rw [show (cc).toNat = cc.toNat by omega]; exact ha78 _ (by omega)]
            refine lv_iconst (v := zI (1)) hx hb dX8_landAfter_74 rfl ?_
            refine lv_iload_n hx hb dX8_landAfter_75 rfl (lv_at hl 2 rfl) ?_
            refine lv_ishl hx hb dX8_landAfter_76 ?_
            refine lv_ior hx hb dX8_landAfter_77 ?_
            rw [show ((zI (S 3 cc.toNat : Int)) ||| ((zI 1) <<< ((zI dd) &&& 31))) = zI (bset (S 3 cc.toNat) dd.toNat : Int) from bsetm (by omega) (by omega) (by omega)]
            refine z_iast X hW hS f25 (by omega) (by omega) (by omega) dX8_landAfter_78 (fun C26 H locs hs27 hn28 hW hS => ?_)
            refine lv_iconst (v := zI (0)) hx hb dX8_landAfter_79 rfl ?_
            refine lv_istore_n (lv' := [(3, .int (zI 0)), (0, .ref (B 70 0)), (1, .int (zI cc)), (2, .int (zI dd))]) hx hb dX8_landAfter_80 rfl hl (by decide) rfl (fun ls hl => ?_)
            refine lv_iconst (v := zI (0)) hx hb dX8_landAfter_81 rfl ?_
            refine lv_istore (lv' := [(4, .int (zI 0)), (3, .int (zI 0)), (0, .ref (B 70 0)), (1, .int (zI cc)), (2, .int (zI dd))]) hx hb dX8_landAfter_82 hl (by decide) rfl (fun ls hl => ?_)
            have so : ∀ k' i', ¬ (k' = 3 ∧ i' = cc.toNat) → nS_landAfter S cc dd k' i' = S k' i' := fun k' i' a0 => by rw [nS_landAfter, su_n a0]
            have s00 : nS_landAfter S cc dd 0 0 = S 0 0 := so 0 0 (by omega)
            have s01 : nS_landAfter S cc dd 0 1 = S 0 1 := so 0 1 (by omega)
            have s02 : nS_landAfter S cc dd 0 2 = S 0 2 := so 0 2 (by omega)
            have s03 : nS_landAfter S cc dd 0 3 = S 0 3 := so 0 3 (by omega)
            have f29 : C26 70 0 = some (.inr (8, [.int (zI 0), .int (zI (S 0 0 : Int)), .int (zI (S 0 1 : Int)), .int (zI (S 0 2 : Int)), .int (zI (S 0 3 : Int)), .ref (B 71 0), .ref (B 72 0), .ref (B 73 0), .ref (B 74 0), .ref (B 75 0), .ref (B 76 0), .ref (B 77 0), .ref (B 78 0), .ref (B 79 0), .ref (B 80 0), .ref (B 81 0), .ref (B 82 0), .ref (B 83 0), .ref (B 84 0), .ref (B 85 0), .ref (B 86 0), .ref (B 87 0), .ref (B 88 0), .ref (B 89 0), .ref (B 90 0), .int (zI mg)])) := ((hn28 70 0 (gk (by decide))).trans hs23)
            have f30 : C26 71 0 = some (gJ Z 312 F71) := ((hn28 71 0 (gk (by decide))).trans ((hn24 71 0 (gk (by decide))).trans hm71))
            have f31 : C26 72 0 = some (gJ Z 26 F72) := ((hn28 72 0 (gk (by decide))).trans ((hn24 72 0 (gk (by decide))).trans hm72))
            have hmdN32 : md Z B C26 (nS_landAfter S cc dd) T 0 := by
              refine md.new hmd (by rw [s00, s01, s02, s03]; exact f29) ⟨_, _, f30, f31, hmt⟩ (fun k n q hq hrow => ?_) (fun k' h1 h2 => ((hn28 (k') 0 (by omega)).trans ((hn24 (k') 0 (by omega)).trans rfl)))
              by_cases e0 : k = 78
              · subst e0
                obtain ⟨rfl, rfl⟩ := mrw_78 hq
                exact row.put (i := cc.toNat) (v := (bset (S 3 cc.toNat) dd.toNat : Int)) ha78 hs27 (by rw [nS_landAfter, su_s]) (fun j hj hne => so 3 j (by omega))
              · skip
                have hqb := mrw_b hq
                exact hrow.same ((hn28 k 0 (by omega)).trans ((hn24 k 0 (by omega)).trans rfl)) (fun j hj => so q j (by omega))
            have hb16 : bset (S 3 cc.toNat) dd.toNat < 16 := bset_16' (by omega) (by omega)
            have f33 : C26 73 0 = some (gJ Z 6 F73) := ((hn28 73 0 (gk (by decide))).trans ((hn24 73 0 (gk (by decide))).trans hm73))
            have f34 : C26 74 0 = some (gJ Z 6 F74) := ((hn28 74 0 (gk (by decide))).trans ((hn24 74 0 (gk (by decide))).trans hm74))
            have f35 : C26 75 0 = some (gJ Z 6 F75) := ((hn28 75 0 (gk (by decide))).trans ((hn24 75 0 (gk (by decide))).trans hm75))
            have f36 : C26 76 0 = some (gJ Z 4 F76) := ((hn28 76 0 (gk (by decide))).trans ((hn24 76 0 (gk (by decide))).trans hm76))
            have f37 : C26 77 0 = some (gJ Z 4 F77) := ((hn28 77 0 (gk (by decide))).trans ((hn24 77 0 (gk (by decide))).trans hm77))
            have f38 : C26 79 0 = some (gJ Z 4 F79) := ((hn28 79 0 (gk (by decide))).trans ((hn24 79 0 (gk (by decide))).trans hm79))
            have f39 : C26 80 0 = some (gJ Z 4 F80) := ((hn28 80 0 (gk (by decide))).trans ((hn24 80 0 (gk (by decide))).trans hm80))
            have f40 : C26 81 0 = some (gJ Z 4 F81) := ((hn28 81 0 (gk (by decide))).trans ((hn24 81 0 (gk (by decide))).trans hm81))
            have f41 : C26 82 0 = some (gJ Z 20 F82) := ((hn28 82 0 (gk (by decide))).trans ((hn24 82 0 (gk (by decide))).trans hm82))
            have f42 : C26 83 0 = some (gJ Z 12 F83) := ((hn28 83 0 (gk (by decide))).trans ((hn24 83 0 (gk (by decide))).trans hm83))
            have f43 : C26 84 0 = some (gJ Z 12 F84) := ((hn28 84 0 (gk (by decide))).trans ((hn24 84 0 (gk (by decide))).trans hm84))
            have f44 : C26 85 0 = some (gJ Z 12 F85) := ((hn28 85 0 (gk (by decide))).trans ((hn24 85 0 (gk (by decide))).trans hm85))
            have f45 : C26 86 0 = some (gJ Z 12 F86) := ((hn28 86 0 (gk (by decide))).trans ((hn24 86 0 (gk (by decide))).trans hm86))
            have f46 : C26 87 0 = some (gJ Z 169 F87) := ((hn28 87 0 (gk (by decide))).trans ((hn24 87 0 (gk (by decide))).trans hm87))
            have f47 : C26 88 0 = some (gJ Z 12 F88) := ((hn28 88 0 (gk (by decide))).trans ((hn24 88 0 (gk (by decide))).trans hm88))
            have f48 : C26 89 0 = some (gJ Z 12 F89) := ((hn28 89 0 (gk (by decide))).trans ((hn24 89 0 (gk (by decide))).trans hm89))
            have f49 : C26 90 0 = some (gJ Z 12 F90) := ((hn28 90 0 (gk (by decide))).trans ((hn24 90 0 (gk (by decide))).trans hm90))
            have lp84 : ∀ (n : Nat) (k : Nat) (H : Heap) (locs : List Loc), (4 - k < n) → (k ≤ 4) → gw Z B C26 H → va_S (gA Z) s.heap H locs → ∀ ls : Array Slot, lv_has ls 5 [(0, .ref (B 70 0)), (1, .int (zI cc)), (2, .int (zI dd)), (3, .int (zI (cntb (fun k9 => (bset (S 3 cc.toNat) dd.toNat).testBit k9) k : Int))), (4, .int (zI (k : Int)))] → W p l e rX8_landAfter s m args below meth c H locs 0 0 Q (F0 m 84 ls []) := by
              intro n
              induction n with
              | zero =>
                intro k  H locs hm hk4 hW hS ls hl
                exact absurd hm (by omega)
              | succ n ih84 =>
                intro k  H locs hm hk4 hW hS ls hl
                refine lv_iload hx hb dX8_landAfter_84 (lv_at hl 4 rfl) ?_
                refine lv_iconst (v := zI (4)) hx hb dX8_landAfter_86 rfl ?_
                refine z_icmp_ge (tgt := 110) hx hb dX8_landAfter_87 (by decide) (⟨by omega, by omega⟩) (⟨by omega, by omega⟩) (fun h_87 => ?_) (fun h_87 => ?_)
                · refine lv_iload_n hx hb dX8_landAfter_110 rfl (lv_at hl 3 rfl) ?_
                  have hcd : cd_landAfter S cc dd = 0 := by unfold cd_landAfter; rw [if_neg (fun z => z ⟨h_5, h_13⟩), if_neg (by omega), if_neg (fun z => z.elim (fun z2 => h_40 z2) (fun z2 => h_53 (if_pos z2)))]
                  exact kret _ _ _ _ _ _ _ _ (⟨fun _ => ⟨congrArg zI (by rw [show k = 4 by omega, bc4 hb16]), hmdN32⟩, fun z9 => absurd hcd z9, fun k' i' h => (hn28 k' i' (by omega)).trans ((hn24 k' i' (by omega)))⟩) hW hS (Nat.le_of_ble_eq_true rfl) (Nat.le_of_ble_eq_true rfl) dX8_landAfter_111
                · refine lv_iload_n hx hb dX8_landAfter_90 rfl (lv_at hl 3 rfl) ?_
                  refine lv_aload_n hx hb dX8_landAfter_91 rfl (lv_at hl 0 rfl) ?_
                  refine g_get (ci := 8) X in_X8_landAfter_8 rfl hW f29 12 (by decide) (hts _ (List.mem_of_getElem? (i := 3) rfl)) rfl dX8_landAfter_92 ?_
                  refine lv_iload_n hx hb dX8_landAfter_95 rfl (lv_at hl 1 rfl) ?_
                  refine z_iald X hW hs27 (by omega) (by omega) (by omega) dX8_landAfter_96 ?_
                  rw [show (ju F78 (cc).toNat (bset (S 3 cc.toNat) dd.toNat : Int)) (cc).toNat = (bset (S 3 cc.toNat) dd.toNat : Int) from ju_s]
                  refine lv_iload hx hb dX8_landAfter_97 (lv_at hl 4 rfl) ?_
                  refine lv_ishr hx hb dX8_landAfter_99 ?_
                  refine lv_iconst (v := zI (1)) hx hb dX8_landAfter_100 rfl ?_
                  refine lv_iand hx hb dX8_landAfter_101 ?_
                  rw [show (((zI (bset (S 3 cc.toNat) dd.toNat : Int)) >>> ((zI (k : Int)) &&& 31)) &&& (zI 1)) = zI (if (bset (S 3 cc.toNat) dd.toNat).testBit k = true then 1 else 0) from bitm (by omega) (by omega)]
                  refine z_iadd hx hb dX8_landAfter_102 ?_
                  refine lv_istore_n (lv' := [(3, .int (zI ((cntb (fun k9 => (bset (S 3 cc.toNat) dd.toNat).testBit k9) k : Int) + (if (bset (S 3 cc.toNat) dd.toNat).testBit k = true then 1 else 0)))), (0, .ref (B 70 0)), (1, .int (zI cc)), (2, .int (zI dd)), (4, .int (zI (k : Int)))]) hx hb dX8_landAfter_103 rfl hl (by decide) rfl (fun ls hl => ?_)
                  refine z_iinc (lv' := [(4, .int (zI ((k : Int) + 1))), (3, .int (zI ((cntb (fun k9 => (bset (S 3 cc.toNat) dd.toNat).testBit k9) k : Int) + (if (bset (S 3 cc.toNat) dd.toNat).testBit k = true then 1 else 0)))), (0, .ref (B 70 0)), (1, .int (zI cc)), (2, .int (zI dd))]) hx hb dX8_landAfter_104 hl (q := 4) rfl (by decide) rfl (fun ls hl => ?_)
                  have hq : cntb (fun k9 => (bset (S 3 cc.toNat) dd.toNat).testBit k9) (k + 1) = cntb (fun k9 => (bset (S 3 cc.toNat) dd.toNat).testBit k9) k + ((bset (S 3 cc.toNat) dd.toNat).testBit k).toNat := rfl
                  rw [show (cntb (fun k9 => (bset (S 3 cc.toNat) dd.toNat).testBit k9) k : Int) + (if (bset (S 3 cc.toNat) dd.toNat).testBit k = true then 1 else 0) = ((cntb (fun k9 => (bset (S 3 cc.toNat) dd.toNat).testBit k9) (k + 1) : Nat) : Int) from by rw [hq]; cases (bset (S 3 cc.toNat) dd.toNat).testBit k <;> simp] at hl
                  refine lv_goto (tgt := 84) hx hb dX8_landAfter_107 (by decide) ?_
                  exact ih84 (k + 1) _ _ (by omega) (by omega) hW hS _ (lv_sub hl [2, 3, 4, 1, 0] rfl)
            exact lp84 5 0 _ _ (by omega) (by omega) hW hS _ (lv_sub hl [2, 3, 4, 1, 0] rfl)
          · refine lv_aload_n hx hb dX8_landAfter_56 rfl (lv_at hl 0 rfl) ?_
            refine lv_iconst (v := zI (3)) hx hb dX8_landAfter_57 rfl ?_
            refine g_ci (g_runV X (k_X8_fail (v := 3) hmd) (cwV 1 hts gX8_landAfter_X8_fail rfl rfl rfl ⟨rfl, ds_X8_fail⟩ ⟨Nat.le_of_ble_eq_true rfl, Nat.le_of_ble_eq_true rfl⟩) hW hS hm70 rfl rfl hl.1 rfl (Nat.le_of_ble_eq_true rfl) dX8_landAfter_58 ⟨Nat.le_of_ble_eq_true rfl, Nat.le_of_ble_eq_true rfl⟩) hS (fun r52 C50 H locs hp51 hW hS => ?_)
            obtain ⟨e53, hmd54, hf55⟩ := hp51
            rw [e53]
            obtain ⟨⟨mgz54, hm70z54⟩, ⟨F71z54, F72z54, hm71z54, hm72z54, hmtz54⟩, ⟨F73z54, hm73z54, ha73z54⟩, ⟨F74z54, hm74z54, ha74z54⟩, ⟨F75z54, hm75z54, ha75z54⟩, ⟨F76z54, hm76z54, ha76z54⟩, ⟨F77z54, hm77z54, ha77z54⟩, ⟨F78z54, hm78z54, ha78z54⟩, ⟨F79z54, hm79z54, ha79z54⟩, ⟨F80z54, hm80z54, ha80z54⟩, ⟨F81z54, hm81z54, ha81z54⟩, ⟨F82z54, hm82z54, ha82z54⟩, ⟨F83z54, hm83z54, ha83z54⟩, ⟨F84z54, hm84z54, ha84z54⟩, ⟨F85z54, hm85z54, ha85z54⟩, ⟨F86z54, hm86z54, ha86z54⟩, ⟨F87z54, hm87z54⟩, ⟨F88z54, hm88z54⟩, ⟨F89z54, hm89z54⟩, ⟨F90z54, hm90z54⟩⟩ := id hmd54
            have hwnz54 := hwf.n
            have hcd : cd_landAfter S cc dd = 3 := by unfold cd_landAfter; rw [if_neg (fun z => z ⟨h_5, h_13⟩), if_neg (by omega), if_pos (Or.inr (by by_cases q9 : (abf S dd.toNat).testBit cc.toNat = true; exact q9; rw [if_neg q9] at h_53; omega))]
            exact kret _ _ _ _ _ _ _ _ (⟨fun z9 => absurd (z9.symm.trans hcd) (by decide), fun _ => by rw [hcd]; exact hmd54, fun k' i' h => (hf55 k' i' (by omega))⟩) hW hS (Nat.le_of_ble_eq_true rfl) (Nat.le_of_ble_eq_true rfl) dX8_landAfter_61
      · refine lv_aload_n hx hb dX8_landAfter_32 rfl (lv_at hl 0 rfl) ?_
        refine lv_iconst (v := zI (2)) hx hb dX8_landAfter_33 rfl ?_
        refine g_ci (g_runV X (k_X8_fail (v := 2) hmd) (cwV 1 hts gX8_landAfter_X8_fail rfl rfl rfl ⟨rfl, ds_X8_fail⟩ ⟨Nat.le_of_ble_eq_true rfl, Nat.le_of_ble_eq_true rfl⟩) hW hS hm70 rfl rfl hl.1 rfl (Nat.le_of_ble_eq_true rfl) dX8_landAfter_34 ⟨Nat.le_of_ble_eq_true rfl, Nat.le_of_ble_eq_true rfl⟩) hS (fun r58 C56 H locs hp57 hW hS => ?_)
        obtain ⟨e59, hmd60, hf61⟩ := hp57
        rw [e59]
        obtain ⟨⟨mgz60, hm70z60⟩, ⟨F71z60, F72z60, hm71z60, hm72z60, hmtz60⟩, ⟨F73z60, hm73z60, ha73z60⟩, ⟨F74z60, hm74z60, ha74z60⟩, ⟨F75z60, hm75z60, ha75z60⟩, ⟨F76z60, hm76z60, ha76z60⟩, ⟨F77z60, hm77z60, ha77z60⟩, ⟨F78z60, hm78z60, ha78z60⟩, ⟨F79z60, hm79z60, ha79z60⟩, ⟨F80z60, hm80z60, ha80z60⟩, ⟨F81z60, hm81z60, ha81z60⟩, ⟨F82z60, hm82z60, ha82z60⟩, ⟨F83z60, hm83z60, ha83z60⟩, ⟨F84z60, hm84z60, ha84z60⟩, ⟨F85z60, hm85z60, ha85z60⟩, ⟨F86z60, hm86z60, ha86z60⟩, ⟨F87z60, hm87z60⟩, ⟨F88z60, hm88z60⟩, ⟨F89z60, hm89z60⟩, ⟨F90z60, hm90z60⟩⟩ := id hmd60
        have hwnz60 := hwf.n
        have hcd : cd_landAfter S cc dd = 2 := by unfold cd_landAfter; rw [if_neg (fun z => z ⟨h_5, h_13⟩), if_pos (by omega)]
        exact kret _ _ _ _ _ _ _ _ (⟨fun z9 => absurd (z9.symm.trans hcd) (by decide), fun _ => by rw [hcd]; exact hmd60, fun k' i' h => (hf61 k' i' (by omega))⟩) hW hS (Nat.le_of_ble_eq_true rfl) (Nat.le_of_ble_eq_true rfl) dX8_landAfter_37
    · refine lv_aload_n hx hb dX8_landAfter_16 rfl (lv_at hl 0 rfl) ?_
      refine lv_iconst (v := zI (1)) hx hb dX8_landAfter_17 rfl ?_
      refine g_ci (g_runV X (k_X8_fail (v := 1) hmd) (cwV 1 hts gX8_landAfter_X8_fail rfl rfl rfl ⟨rfl, ds_X8_fail⟩ ⟨Nat.le_of_ble_eq_true rfl, Nat.le_of_ble_eq_true rfl⟩) hW hS hm70 rfl rfl hl.1 rfl (Nat.le_of_ble_eq_true rfl) dX8_landAfter_18 ⟨Nat.le_of_ble_eq_true rfl, Nat.le_of_ble_eq_true rfl⟩) hS (fun r64 C62 H locs hp63 hW hS => ?_)
      obtain ⟨e65, hmd66, hf67⟩ := hp63
      rw [e65]
      obtain ⟨⟨mgz66, hm70z66⟩, ⟨F71z66, F72z66, hm71z66, hm72z66, hmtz66⟩, ⟨F73z66, hm73z66, ha73z66⟩, ⟨F74z66, hm74z66, ha74z66⟩, ⟨F75z66, hm75z66, ha75z66⟩, ⟨F76z66, hm76z66, ha76z66⟩, ⟨F77z66, hm77z66, ha77z66⟩, ⟨F78z66, hm78z66, ha78z66⟩, ⟨F79z66, hm79z66, ha79z66⟩, ⟨F80z66, hm80z66, ha80z66⟩, ⟨F81z66, hm81z66, ha81z66⟩, ⟨F82z66, hm82z66, ha82z66⟩, ⟨F83z66, hm83z66, ha83z66⟩, ⟨F84z66, hm84z66, ha84z66⟩, ⟨F85z66, hm85z66, ha85z66⟩, ⟨F86z66, hm86z66, ha86z66⟩, ⟨F87z66, hm87z66⟩, ⟨F88z66, hm88z66⟩, ⟨F89z66, hm89z66⟩, ⟨F90z66, hm90z66⟩⟩ := id hmd66
      have hwnz66 := hwf.n
      have hcd : cd_landAfter S cc dd = 1 := by unfold cd_landAfter; rw [if_pos (fun z => h_13 z.2)]
      exact kret _ _ _ _ _ _ _ _ (⟨fun z9 => absurd (z9.symm.trans hcd) (by decide), fun _ => by rw [hcd]; exact hmd66, fun k' i' h => (hf67 k' i' (by omega))⟩) hW hS (Nat.le_of_ble_eq_true rfl) (Nat.le_of_ble_eq_true rfl) dX8_landAfter_21

theorem ds_X8_comment : yX8_comment.cls ≠ "java/lang/invoke/MethodHandle" ∧ yX8_comment.cls ≠ "java/lang/invoke/VarHandle" ∧ (parseMethodDescriptor yX8_comment.desc).map (fun d => d.parameters.length) = some 2 := by decide +kernel
theorem in_X8_comment_8 : ∀ w ∈ wsX80, w ∈ wsX8_comment := by decide +kernel
def rX8_comment : Room := { frames := 2, cells := 0, slots := 0, locals := 43 }
set_option maxHeartbeats 4000000 in
set_option maxRecDepth 100000 in
theorem k_X8_comment {l : Launch} {Z : gZ} {B : gB} {C0 : gC} {S : gS} {T : gTx} {th : Int} {cc a : Int} (hmd : md Z B C0 S T th) (hwf : wf S T) (rcc : zr cc) (ra : zr a) : Met l yX8_comment wsX8_comment rX8_comment (gPc Z B C0 [.ref (B 70 0), .int (zI cc), .int (zI a)]) (gQi Z B (fun r C1 => (cd_comment S T cc a = 0 → r = zI (S 0 2 : Int) ∧ md Z B C1 (nS_comment S cc a) T 0) ∧ (¬ cd_comment S T cc a = 0 → md Z B C1 S T (cd_comment S T cc a : Int)) ∧ fmd C0 C1)) 0 0 (gA Z) := by
  refine g_ofI (cc := cX8_comment) (maxL := 3) (by decide) rfl (Nat.le_of_ble_eq_true rfl) ?_
  intro p e s m args below meth c Q X kret hW hS ls hl
  have hx := X.1.1
  have hb := X.1.2.1
  have hts := X.1.2.2.2.2
  have hl : lv_has ls 3 [(0, .ref (B 70 0)), (1, .int (zI cc)), (2, .int (zI a))] := hl
  obtain ⟨⟨mg, hm70⟩, ⟨F71, F72, hm71, hm72, hmt⟩, ⟨F73, hm73, ha73⟩, ⟨F74, hm74, ha74⟩, ⟨F75, hm75, ha75⟩, ⟨F76, hm76, ha76⟩, ⟨F77, hm77, ha77⟩, ⟨F78, hm78, ha78⟩, ⟨F79, hm79, ha79⟩, ⟨F80, hm80, ha80⟩, ⟨F81, hm81, ha81⟩, ⟨F82, hm82, ha82⟩, ⟨F83, hm83, ha83⟩, ⟨F84, hm84, ha84⟩, ⟨F85, hm85, ha85⟩, ⟨F86, hm86, ha86⟩, ⟨F87, hm87⟩, ⟨F88, hm88⟩, ⟨F89, hm89⟩, ⟨F90, hm90⟩⟩ := id hmd
  have hwn := hwf.n
  refine lv_aload_n hx hb dX8_comment_0 rfl (lv_at hl 0 rfl) ?_
  refine lv_iload_n hx hb dX8_comment_1 rfl (lv_at hl 1 rfl) ?_
  refine g_ci (g_runV X (k_X8_isChange (a := cc) hmd hwf (rcc)) (cwV 1 hts gX8_comment_X8_isChange rfl rfl rfl ⟨rfl, ds_X8_isChange⟩ ⟨Nat.le_of_ble_eq_true rfl, Nat.le_of_ble_eq_true rfl⟩) hW hS hm70 rfl rfl hl.1 rfl (Nat.le_of_ble_eq_true rfl) dX8_comment_2 ⟨Nat.le_of_ble_eq_true rfl, Nat.le_of_ble_eq_true rfl⟩) hS (fun r3 C1 H locs hp2 hW hS => ?_)
  obtain ⟨rfl, ehp2⟩ := hp2
  rw [ehp2] at hW
  refine z_ifb_ne (tgt := 14) hx hb dX8_comment_5 (by decide) (fun h_5 => ?_) (fun h_5 => ?_)
  · have hwi := hwf.ch (show cc.toNat < S 0 0 by omega)
    have hpl : (prs S T cc.toNat).length ≤ 12 := hwf.tx _
    refine lv_aload_n hx hb dX8_comment_14 rfl (lv_at hl 0 rfl) ?_
    refine g_get (ci := 8) X in_X8_comment_8 rfl hW hm70 11 (by decide) (hts _ (List.mem_of_getElem? (i := 1) rfl)) rfl dX8_comment_15 ?_
    refine lv_iload_n hx hb dX8_comment_18 rfl (lv_at hl 1 rfl) ?_
    refine z_iald X hW hm77 (by omega) (by omega) (by omega) dX8_comment_19 ?_
    rw [show F77 (cc).toNat = (S 2 cc.toNat : Int) from by rw [show (cc).toNat = cc.toNat by omega]; exact ha77 _ (by omega)]
    refine z_if_eq (tgt := 43) hx hb dX8_comment_20 (by decide) (⟨by omega, by omega⟩) (fun h_20 => ?_) (fun h_20 => ?_)
    · refine lv_aload_n hx hb dX8_comment_43 rfl (lv_at hl 0 rfl) ?_
      refine lv_iconst (v := zI (2)) hx hb dX8_comment_44 rfl ?_
      refine g_ci (g_runV X (k_X8_fail (v := 2) hmd) (cwV 1 hts gX8_comment_X8_fail rfl rfl rfl ⟨rfl, ds_X8_fail⟩ ⟨Nat.le_of_ble_eq_true rfl, Nat.le_of_ble_eq_true rfl⟩) hW hS hm70 rfl rfl hl.1 rfl (Nat.le_of_ble_eq_true rfl) dX8_comment_45 ⟨Nat.le_of_ble_eq_true rfl, Nat.le_of_ble_eq_true rfl⟩) hS (fun r6 C4 H locs hp5 hW hS => ?_)
      obtain ⟨e7, hmd8, hf9⟩ := hp5
      rw [e7]
      obtain ⟨⟨mgz8, hm70z8⟩, ⟨F71z8, F72z8, hm71z8, hm72z8, hmtz8⟩, ⟨F73z8, hm73z8, ha73z8⟩, ⟨F74z8, hm74z8, ha74z8⟩, ⟨F75z8, hm75z8, ha75z8⟩, ⟨F76z8, hm76z8, ha76z8⟩, ⟨F77z8, hm77z8, ha77z8⟩, ⟨F78z8, hm78z8, ha78z8⟩, ⟨F79z8, hm79z8, ha79z8⟩, ⟨F80z8, hm80z8, ha80z8⟩, ⟨F81z8, hm81z8, ha81z8⟩, ⟨F82z8, hm82z8, ha82z8⟩, ⟨F83z8, hm83z8, ha83z8⟩, ⟨F84z8, hm84z8, ha84z8⟩, ⟨F85z8, hm85z8, ha85z8⟩, ⟨F86z8, hm86z8, ha86z8⟩, ⟨F87z8, hm87z8⟩, ⟨F88z8, hm88z8⟩, ⟨F89z8, hm89z8⟩, ⟨F90z8, hm90z8⟩⟩ := id hmd8
      have hwnz8 := hwf.n
      have hcd : cd_comment S T cc a = 2 := by unfold cd_comment; rw [if_neg (fun z => z h_5), if_pos (Or.inl (by omega))]
      exact kret _ _ _ _ _ _ _ _ (⟨fun z9 => absurd (z9.symm.trans hcd) (by decide), fun _ => by rw [hcd]; exact hmd8, fun k' i' h => (hf9 k' i' (by omega))⟩) hW hS (Nat.le_of_ble_eq_true rfl) (Nat.le_of_ble_eq_true rfl) dX8_comment_48
    · refine lv_iload_n hx hb dX8_comment_23 rfl (lv_at hl 2 rfl) ?_
      refine lv_iconst (v := zI (0)) hx hb dX8_comment_24 rfl ?_
      refine lv_aload_n hx hb dX8_comment_25 rfl (lv_at hl 0 rfl) ?_
      refine g_get (ci := 8) X in_X8_comment_8 rfl hW hm70 6 (by decide) (hts _ (List.mem_of_getElem? (i := 2) rfl)) rfl dX8_comment_26 ?_
      refine lv_aload_n hx hb dX8_comment_29 rfl (lv_at hl 0 rfl) ?_
      refine lv_iload_n hx hb dX8_comment_30 rfl (lv_at hl 1 rfl) ?_
      rw [show zI cc = zI ((cc.toNat : Nat) : Int) from congrArg zI (by omega)]
      refine g_ci (g_runV X (k_X8_present (i := (cc.toNat)) hmd hwf (show cc.toNat < S 0 0 by omega) (by omega)) (cwV 1 hts gX8_comment_X8_present rfl rfl rfl ⟨rfl, ds_X8_present⟩ ⟨Nat.le_of_ble_eq_true rfl, Nat.le_of_ble_eq_true rfl⟩) hW hS hm70 rfl rfl hl.1 rfl (Nat.le_of_ble_eq_true rfl) dX8_comment_31 ⟨Nat.le_of_ble_eq_true rfl, Nat.le_of_ble_eq_true rfl⟩) hS (fun r12 C10 H locs hp11 hW hS => ?_)
      obtain ⟨rfl, ehp11⟩ := hp11
      rw [ehp11] at hW
      refine z_iald X hW hm72 (by omega) (by omega) (by omega) dX8_comment_34 ?_
      rw [show F72 ((9 + 4 * (cc.toNat) + (S 2 (cc.toNat) - 1) : Nat) : Int).toNat = ((prs S T cc.toNat).length : Int) from by rw [show ((9 + 4 * (cc.toNat) + (S 2 (cc.toNat) - 1) : Nat) : Int).toNat = 9 + 4 * cc.toNat + (S 2 cc.toNat - 1) by omega]; exact hmt.1 _ (by omega)]
      refine lv_iconst (v := zI (1)) hx hb dX8_comment_35 rfl ?_
      refine z_isub hx hb dX8_comment_36 ?_
      refine g_ci (g_runS X (k_X8_isIn (B := B) (C0 := C0) (x := a) (a := 0) (b := (((prs S T cc.toNat).length : Int) - 1)) (ra) (⟨by omega, by omega⟩) (⟨by omega, by omega⟩)) (va_cwS 3 hts gX8_comment_X8_isIn rfl rfl rfl ds_X8_isIn ⟨Nat.le_of_ble_eq_true rfl, Nat.le_of_ble_eq_true rfl⟩) hW hS rfl hl.1 rfl (Nat.le_of_ble_eq_true rfl) dX8_comment_37 ⟨Nat.le_of_ble_eq_true rfl, Nat.le_of_ble_eq_true rfl⟩) hS (fun r15 C13 H locs hp14 hW hS => ?_)
      obtain ⟨rfl, ehp14⟩ := hp14
      rw [ehp14] at hW
      refine z_ifb_ne (tgt := 49) hx hb dX8_comment_40 (by decide) (fun h_40 => ?_) (fun h_40 => ?_)
      · refine lv_aload_n hx hb dX8_comment_49 rfl (lv_at hl 0 rfl) ?_
        refine g_get (ci := 8) X in_X8_comment_8 rfl hW hm70 14 (by decide) (hts _ (List.mem_of_getElem? (i := 3) rfl)) rfl dX8_comment_50 ?_
        refine lv_iload_n hx hb dX8_comment_53 rfl (lv_at hl 1 rfl) ?_
        refine z_iald X hW hm80 (by omega) (by omega) (by omega) dX8_comment_54 ?_
        rw [show F80 (cc).toNat = (S 5 cc.toNat : Int) from by rw [show (cc).toNat = cc.toNat by omega]; exact ha80 _ (by omega)]
        refine lv_iconst (v := zI (1)) hx hb dX8_comment_55 rfl ?_
        refine z_icmp_eq (tgt := 68) hx hb dX8_comment_56 (by decide) (⟨by omega, by omega⟩) (⟨by omega, by omega⟩) (fun h_56 => ?_) (fun h_56 => ?_)
        · refine lv_aload_n hx hb dX8_comment_68 rfl (lv_at hl 0 rfl) ?_
          refine lv_iconst (v := zI (3)) hx hb dX8_comment_69 rfl ?_
          refine g_ci (g_runV X (k_X8_fail (v := 3) hmd) (cwV 1 hts gX8_comment_X8_fail rfl rfl rfl ⟨rfl, ds_X8_fail⟩ ⟨Nat.le_of_ble_eq_true rfl, Nat.le_of_ble_eq_true rfl⟩) hW hS hm70 rfl rfl hl.1 rfl (Nat.le_of_ble_eq_true rfl) dX8_comment_70 ⟨Nat.le_of_ble_eq_true rfl, Nat.le_of_ble_eq_true rfl⟩) hS (fun r18 C16 H locs hp17 hW hS => ?_)
          obtain ⟨e19, hmd20, hf21⟩ := hp17
          rw [e19]
          obtain ⟨⟨mgz20, hm70z20⟩, ⟨F71z20, F72z20, hm71z20, hm72z20, hmtz20⟩, ⟨F73z20, hm73z20, ha73z20⟩, ⟨F74z20, hm74z20, ha74z20⟩, ⟨F75z20, hm75z20, ha75z20⟩, ⟨F76z20, hm76z20, ha76z20⟩, ⟨F77z20, hm77z20, ha77z20⟩, ⟨F78z20, hm78z20, ha78z20⟩, ⟨F79z20, hm79z20, ha79z20⟩, ⟨F80z20, hm80z20, ha80z20⟩, ⟨F81z20, hm81z20, ha81z20⟩, ⟨F82z20, hm82z20, ha82z20⟩, ⟨F83z20, hm83z20, ha83z20⟩, ⟨F84z20, hm84z20, ha84z20⟩, ⟨F85z20, hm85z20, ha85z20⟩, ⟨F86z20, hm86z20, ha86z20⟩, ⟨F87z20, hm87z20⟩, ⟨F88z20, hm88z20⟩, ⟨F89z20, hm89z20⟩, ⟨F90z20, hm90z20⟩⟩ := id hmd20
          have hwnz20 := hwf.n
          have hcd : cd_comment S T cc a = 3 := by unfold cd_comment; rw [if_neg (fun z => z h_5), if_neg (fun z => z.elim (by omega) (fun z2 => z2 (by omega))), if_pos (by omega)]
          exact kret _ _ _ _ _ _ _ _ (⟨fun z9 => absurd (z9.symm.trans hcd) (by decide), fun _ => by rw [hcd]; exact hmd20, fun k' i' h => (hf21 k' i' (by omega))⟩) hW hS (Nat.le_of_ble_eq_true rfl) (Nat.le_of_ble_eq_true rfl) dX8_comment_73
        · refine lv_aload_n hx hb dX8_comment_59 rfl (lv_at hl 0 rfl) ?_
          refine g_get (ci := 8) X in_X8_comment_8 rfl hW hm70 3 (by decide) (hts _ (List.mem_of_getElem? (i := 4) rfl)) rfl dX8_comment_60 ?_
          refine lv_bipush (v := zI (12)) hx hb dX8_comment_63 (by decide) ?_
          refine z_icmp_ne (tgt := 74) hx hb dX8_comment_65 (by decide) (⟨by omega, by omega⟩) (⟨by omega, by omega⟩) (fun h_65 => ?_) (fun h_65 => ?_)
          · refine lv_aload_n hx hb dX8_comment_74 rfl (lv_at hl 0 rfl) ?_
            refine lv_iconst (v := zI (0)) hx hb dX8_comment_75 rfl ?_
            refine g_put (ci := 8) (ty := .int) X in_X8_comment_8 tyX8 tyX8_ok nmX8 rfl hW hS hm70 0 (by decide) (hts _ (List.mem_of_getElem? (i := 5) rfl)) rfl (by decide +kernel) (rfl) (rfl) (Nat.le_of_ble_eq_true rfl) dX8_comment_76 (fun C22 H locs hs23 hn24 hW hS => ?_)
            refine lv_aload_n hx hb dX8_comment_79 rfl (lv_at hl 0 rfl) ?_
            refine g_get (ci := 8) X in_X8_comment_8 rfl hW hs23 17 (by decide) (hts _ (List.mem_of_getElem? (i := 6) rfl)) rfl dX8_comment_80 ?_
            refine lv_aload_n hx hb dX8_comment_83 rfl (lv_at hl 0 rfl) ?_
            refine g_get (ci := 8) X in_X8_comment_8 rfl hW hs23 3 (by decide) (hts _ (List.mem_of_getElem? (i := 4) rfl)) rfl dX8_comment_84 ?_
            refine lv_iload_n hx hb dX8_comment_87 rfl (lv_at hl 1 rfl) ?_
            have f25 : C22 83 0 = some (gJ Z 12 F83) := ((hn24 83 0 (gk (by decide))).trans hm83)
            refine z_iast X hW hS f25 (by omega) (by omega) (by omega) dX8_comment_88 (fun C26 H locs hs27 hn28 hW hS => ?_)
            refine lv_aload_n hx hb dX8_comment_89 rfl (lv_at hl 0 rfl) ?_
            have f29 : C26 70 0 = some (.inr (8, [.int (zI 0), .int (zI (S 0 0 : Int)), .int (zI (S 0 1 : Int)), .int (zI (S 0 2 : Int)), .int (zI (S 0 3 : Int)), .ref (B 71 0), .ref (B 72 0), .ref (B 73 0), .ref (B 74 0), .ref (B 75 0), .ref (B 76 0), .ref (B 77 0), .ref (B 78 0), .ref (B 79 0), .ref (B 80 0), .ref (B 81 0), .ref (B 82 0), .ref (B 83 0), .ref (B 84 0), .ref (B 85 0), .ref (B 86 0), .ref (B 87 0), .ref (B 88 0), .ref (B 89 0), .ref (B 90 0), .int (zI mg)])) := ((hn28 70 0 (gk (by decide))).trans hs23)
            refine g_get (ci := 8) X in_X8_comment_8 rfl hW f29 18 (by decide) (hts _ (List.mem_of_getElem? (i := 7) rfl)) rfl dX8_comment_90 ?_
            refine lv_aload_n hx hb dX8_comment_93 rfl (lv_at hl 0 rfl) ?_
            refine g_get (ci := 8) X in_X8_comment_8 rfl hW f29 3 (by decide) (hts _ (List.mem_of_getElem? (i := 4) rfl)) rfl dX8_comment_94 ?_
            refine lv_aload_n hx hb dX8_comment_97 rfl (lv_at hl 0 rfl) ?_
            refine g_get (ci := 8) X in_X8_comment_8 rfl hW f29 11 (by decide) (hts _ (List.mem_of_getElem? (i := 1) rfl)) rfl dX8_comment_98 ?_
            refine lv_iload_n hx hb dX8_comment_101 rfl (lv_at hl 1 rfl) ?_
            have f30 : C26 77 0 = some (gJ Z 4 F77) := ((hn28 77 0 (gk (by decide))).trans ((hn24 77 0 (gk (by decide))).trans hm77))
            refine z_iald X hW f30 (by omega) (by omega) (by omega) dX8_comment_102 ?_
            rw [show F77 (cc).toNat = (S 2 cc.toNat : Int) from by rw [show (cc).toNat = cc.toNat by omega]; exact ha77 _ (by omega)]
            refine lv_iconst (v := zI (1)) hx hb dX8_comment_103 rfl ?_
            refine z_isub hx hb dX8_comment_104 ?_
            have f31 : C26 84 0 = some (gJ Z 12 F84) := ((hn28 84 0 (gk (by decide))).trans ((hn24 84 0 (gk (by decide))).trans hm84))
            refine z_iast X hW hS f31 (by omega) (by omega) (by omega) dX8_comment_105 (fun C32 H locs hs33 hn34 hW hS => ?_)
            refine lv_aload_n hx hb dX8_comment_106 rfl (lv_at hl 0 rfl) ?_
            have f35 : C32 70 0 = some (.inr (8, [.int (zI 0), .int (zI (S 0 0 : Int)), .int (zI (S 0 1 : Int)), .int (zI (S 0 2 : Int)), .int (zI (S 0 3 : Int)), .ref (B 71 0), .ref (B 72 0), .ref (B 73 0), .ref (B 74 0), .ref (B 75 0), .ref (B 76 0), .ref (B 77 0), .ref (B 78 0), .ref (B 79 0), .ref (B 80 0), .ref (B 81 0), .ref (B 82 0), .ref (B 83 0), .ref (B 84 0), .ref (B 85 0), .ref (B 86 0), .ref (B 87 0), .ref (B 88 0), .ref (B 89 0), .ref (B 90 0), .int (zI mg)])) := ((hn34 70 0 (gk (by decide))).trans f29)
            refine g_get (ci := 8) X in_X8_comment_8 rfl hW f35 19 (by decide) (hts _ (List.mem_of_getElem? (i := 8) rfl)) rfl dX8_comment_107 ?_
            refine lv_aload_n hx hb dX8_comment_110 rfl (lv_at hl 0 rfl) ?_
            refine g_get (ci := 8) X in_X8_comment_8 rfl hW f35 3 (by decide) (hts _ (List.mem_of_getElem? (i := 4) rfl)) rfl dX8_comment_111 ?_
            refine lv_iload_n hx hb dX8_comment_114 rfl (lv_at hl 2 rfl) ?_
            have f36 : C32 85 0 = some (gJ Z 12 F85) := ((hn34 85 0 (gk (by decide))).trans ((hn28 85 0 (gk (by decide))).trans ((hn24 85 0 (gk (by decide))).trans hm85)))
            refine z_iast X hW hS f36 (by omega) (by omega) (by omega) dX8_comment_115 (fun C37 H locs hs38 hn39 hW hS => ?_)
            refine lv_aload_n hx hb dX8_comment_116 rfl (lv_at hl 0 rfl) ?_
            refine lv_dup hx hb dX8_comment_117 rfl ?_
            have f40 : C37 70 0 = some (.inr (8, [.int (zI 0), .int (zI (S 0 0 : Int)), .int (zI (S 0 1 : Int)), .int (zI (S 0 2 : Int)), .int (zI (S 0 3 : Int)), .ref (B 71 0), .ref (B 72 0), .ref (B 73 0), .ref (B 74 0), .ref (B 75 0), .ref (B 76 0), .ref (B 77 0), .ref (B 78 0), .ref (B 79 0), .ref (B 80 0), .ref (B 81 0), .ref (B 82 0), .ref (B 83 0), .ref (B 84 0), .ref (B 85 0), .ref (B 86 0), .ref (B 87 0), .ref (B 88 0), .ref (B 89 0), .ref (B 90 0), .int (zI mg)])) := ((hn39 70 0 (gk (by decide))).trans f35)
            refine g_get (ci := 8) X in_X8_comment_8 rfl hW f40 3 (by decide) (hts _ (List.mem_of_getElem? (i := 4) rfl)) rfl dX8_comment_118 ?_
            refine lv_iconst (v := zI (1)) hx hb dX8_comment_121 rfl ?_
            refine z_iadd hx hb dX8_comment_122 ?_
            refine g_put (ci := 8) (ty := .int) X in_X8_comment_8 tyX8 tyX8_ok nmX8 rfl hW hS f40 3 (by decide) (hts _ (List.mem_of_getElem? (i := 4) rfl)) rfl (by decide +kernel) (rfl) (rfl) (Nat.le_of_ble_eq_true rfl) dX8_comment_123 (fun C41 H locs hs42 hn43 hW hS => ?_)
            refine lv_aload_n hx hb dX8_comment_126 rfl (lv_at hl 0 rfl) ?_
            refine g_get (ci := 8) X in_X8_comment_8 rfl hW hs42 3 (by decide) (hts _ (List.mem_of_getElem? (i := 4) rfl)) rfl dX8_comment_127 ?_
            refine lv_iconst (v := zI (1)) hx hb dX8_comment_130 rfl ?_
            refine z_isub hx hb dX8_comment_131 ?_
            have hcd : cd_comment S T cc a = 0 := by unfold cd_comment; rw [if_neg (fun z => z h_5), if_neg (fun z => z.elim (by omega) (fun z2 => z2 (by omega))), if_neg (by omega)]
            have so : ∀ k' i', ¬ (k' = 0 ∧ i' = 2) → ¬ (k' = 13 ∧ i' = S 0 2) → ¬ (k' = 12 ∧ i' = S 0 2) → ¬ (k' = 11 ∧ i' = S 0 2) → nS_comment S cc a k' i' = S k' i' := fun k' i' a0 a1 a2 a3 => by rw [nS_comment, su_n a0, su_n a1, su_n a2, su_n a3]
            have s00 : nS_comment S cc a 0 0 = S 0 0 := so 0 0 (by omega) (by omega) (by omega) (by omega)
            have s01 : nS_comment S cc a 0 1 = S 0 1 := so 0 1 (by omega) (by omega) (by omega) (by omega)
            have s02 : nS_comment S cc a 0 2 = S 0 2 + 1 := su_s
            have s03 : nS_comment S cc a 0 3 = S 0 3 := so 0 3 (by omega) (by omega) (by omega) (by omega)
            have f44 : C41 71 0 = some (gJ Z 312 F71) := ((hn43 71 0 (gk (by decide))).trans ((hn39 71 0 (gk (by decide))).trans ((hn34 71 0 (gk (by decide))).trans ((hn28 71 0 (gk (by decide))).trans ((hn24 71 0 (gk (by decide))).trans hm71)))))
            have f45 : C41 72 0 = some (gJ Z 26 F72) := ((hn43 72 0 (gk (by decide))).trans ((hn39 72 0 (gk (by decide))).trans ((hn34 72 0 (gk (by decide))).trans ((hn28 72 0 (gk (by decide))).trans ((hn24 72 0 (gk (by decide))).trans hm72)))))
            have f46 : C41 83 0 = some (gJ Z 12 (ju F83 (S 0 2 : Int).toNat cc)) := ((hn43 83 0 (gk (by decide))).trans ((hn39 83 0 (gk (by decide))).trans ((hn34 83 0 (gk (by decide))).trans hs27)))
            have f47 : C41 84 0 = some (gJ Z 12 (ju F84 (S 0 2 : Int).toNat ((S 2 cc.toNat : Int) - 1))) := ((hn43 84 0 (gk (by decide))).trans ((hn39 84 0 (gk (by decide))).trans hs33))
            have f48 : C41 85 0 = some (gJ Z 12 (ju F85 (S 0 2 : Int).toNat a)) := ((hn43 85 0 (gk (by decide))).trans hs38)
            have hmdN49 : md Z B C41 (nS_comment S cc a) T 0 := by
              refine md.new hmd (by rw [s00, s01, s02, s03]; exact hs42) ⟨_, _, f44, f45, hmt⟩ (fun k n q hq hrow => ?_) (fun k' h1 h2 => ((hn43 (k') 0 (by omega)).trans ((hn39 (k') 0 (by omega)).trans ((hn34 (k') 0 (by omega)).trans ((hn28 (k') 0 (by omega)).trans ((hn24 (k') 0 (by omega)).trans rfl))))))
              by_cases e0 : k = 83
              · subst e0
                obtain ⟨rfl, rfl⟩ := mrw_83 hq
                exact row.put (i := S 0 2) (v := cc) ha83 f46 (by rw [nS_comment, su_n (by omega), su_n (by omega), su_n (by omega), su_s]; omega) (fun j hj hne => so 11 j (by omega) (by omega) (by omega) (by omega))
              · skip
                by_cases e1 : k = 84
                · subst e1
                  obtain ⟨rfl, rfl⟩ := mrw_84 hq
                  exact row.put (i := S 0 2) (v := ((S 2 cc.toNat : Int) - 1)) ha84 f47 (by rw [nS_comment, su_n (by omega), su_n (by omega), su_s]; omega) (fun j hj hne => so 12 j (by omega) (by omega) (by omega) (by omega))
                · skip
                  by_cases e2 : k = 85
                  · subst e2
                    obtain ⟨rfl, rfl⟩ := mrw_85 hq
                    exact row.put (i := S 0 2) (v := a) ha85 f48 (by rw [nS_comment, su_n (by omega), su_s]; omega) (fun j hj hne => so 13 j (by omega) (by omega) (by omega) (by omega))
                  · skip
                    have hqb := mrw_b hq
                    exact hrow.same ((hn43 k 0 (by omega)).trans ((hn39 k 0 (by omega)).trans ((hn34 k 0 (by omega)).trans ((hn28 k 0 (by omega)).trans ((hn24 k 0 (by omega)).trans rfl))))) (fun j hj => so q j (by omega) (by omega) (by omega) (by omega))
            exact kret _ _ _ _ _ _ _ _ (⟨fun _ => ⟨congrArg zI (by omega), hmdN49⟩, fun z9 => absurd hcd z9, fun k' i' h => (hn43 k' i' (by omega)).trans ((hn39 k' i' (by omega)).trans ((hn34 k' i' (by omega)).trans ((hn28 k' i' (by omega)).trans ((hn24 k' i' (by omega))))))⟩) hW hS (Nat.le_of_ble_eq_true rfl) (Nat.le_of_ble_eq_true rfl) dX8_comment_132
          · refine lv_aload_n hx hb dX8_comment_68 rfl (lv_at hl 0 rfl) ?_
            refine lv_iconst (v := zI (3)) hx hb dX8_comment_69 rfl ?_
            refine g_ci (g_runV X (k_X8_fail (v := 3) hmd) (cwV 1 hts gX8_comment_X8_fail rfl rfl rfl ⟨rfl, ds_X8_fail⟩ ⟨Nat.le_of_ble_eq_true rfl, Nat.le_of_ble_eq_true rfl⟩) hW hS hm70 rfl rfl hl.1 rfl (Nat.le_of_ble_eq_true rfl) dX8_comment_70 ⟨Nat.le_of_ble_eq_true rfl, Nat.le_of_ble_eq_true rfl⟩) hS (fun r52 C50 H locs hp51 hW hS => ?_)
            obtain ⟨e53, hmd54, hf55⟩ := hp51
            rw [e53]
            obtain ⟨⟨mgz54, hm70z54⟩, ⟨F71z54, F72z54, hm71z54, hm72z54, hmtz54⟩, ⟨F73z54, hm73z54, ha73z54⟩, ⟨F74z54, hm74z54, ha74z54⟩, ⟨F75z54, hm75z54, ha75z54⟩, ⟨F76z54, hm76z54, ha76z54⟩, ⟨F77z54, hm77z54, ha77z54⟩, ⟨F78z54, hm78z54, ha78z54⟩, ⟨F79z54, hm79z54, ha79z54⟩, ⟨F80z54, hm80z54, ha80z54⟩, ⟨F81z54, hm81z54, ha81z54⟩, ⟨F82z54, hm82z54, ha82z54⟩, ⟨F83z54, hm83z54, ha83z54⟩, ⟨F84z54, hm84z54, ha84z54⟩, ⟨F85z54, hm85z54, ha85z54⟩, ⟨F86z54, hm86z54, ha86z54⟩, ⟨F87z54, hm87z54⟩, ⟨F88z54, hm88z54⟩, ⟨F89z54, hm89z54⟩, ⟨F90z54, hm90z54⟩⟩ := id hmd54
            have hwnz54 := hwf.n
            have hcd : cd_comment S T cc a = 3 := by unfold cd_comment; rw [if_neg (fun z => z h_5), if_neg (fun z => z.elim (by omega) (fun z2 => z2 (by omega))), if_pos (by omega)]
            exact kret _ _ _ _ _ _ _ _ (⟨fun z9 => absurd (z9.symm.trans hcd) (by decide), fun _ => by rw [hcd]; exact hmd54, fun k' i' h => (hf55 k' i' (by omega))⟩) hW hS (Nat.le_of_ble_eq_true rfl) (Nat.le_of_ble_eq_true rfl) dX8_comment_73
      · refine lv_aload_n hx hb dX8_comment_43 rfl (lv_at hl 0 rfl) ?_
        refine lv_iconst (v := zI (2)) hx hb dX8_comment_44 rfl ?_
        refine g_ci (g_runV X (k_X8_fail (v := 2) hmd) (cwV 1 hts gX8_comment_X8_fail rfl rfl rfl ⟨rfl, ds_X8_fail⟩ ⟨Nat.le_of_ble_eq_true rfl, Nat.le_of_ble_eq_true rfl⟩) hW hS hm70 rfl rfl hl.1 rfl (Nat.le_of_ble_eq_true rfl) dX8_comment_45 ⟨Nat.le_of_ble_eq_true rfl, Nat.le_of_ble_eq_true rfl⟩) hS (fun r58 C56 H locs hp57 hW hS => ?_)
        obtain ⟨e59, hmd60, hf61⟩ := hp57
        rw [e59]
        obtain ⟨⟨mgz60, hm70z60⟩, ⟨F71z60, F72z60, hm71z60, hm72z60, hmtz60⟩, ⟨F73z60, hm73z60, ha73z60⟩, ⟨F74z60, hm74z60, ha74z60⟩, ⟨F75z60, hm75z60, ha75z60⟩, ⟨F76z60, hm76z60, ha76z60⟩, ⟨F77z60, hm77z60, ha77z60⟩, ⟨F78z60, hm78z60, ha78z60⟩, ⟨F79z60, hm79z60, ha79z60⟩, ⟨F80z60, hm80z60, ha80z60⟩, ⟨F81z60, hm81z60, ha81z60⟩, ⟨F82z60, hm82z60, ha82z60⟩, ⟨F83z60, hm83z60, ha83z60⟩, ⟨F84z60, hm84z60, ha84z60⟩, ⟨F85z60, hm85z60, ha85z60⟩, ⟨F86z60, hm86z60, ha86z60⟩, ⟨F87z60, hm87z60⟩, ⟨F88z60, hm88z60⟩, ⟨F89z60, hm89z60⟩, ⟨F90z60, hm90z60⟩⟩ := id hmd60
        have hwnz60 := hwf.n
        have hcd : cd_comment S T cc a = 2 := by unfold cd_comment; rw [if_neg (fun z => z h_5), if_pos (Or.inr (by omega))]
        exact kret _ _ _ _ _ _ _ _ (⟨fun z9 => absurd (z9.symm.trans hcd) (by decide), fun _ => by rw [hcd]; exact hmd60, fun k' i' h => (hf61 k' i' (by omega))⟩) hW hS (Nat.le_of_ble_eq_true rfl) (Nat.le_of_ble_eq_true rfl) dX8_comment_48
  · refine lv_aload_n hx hb dX8_comment_8 rfl (lv_at hl 0 rfl) ?_
    refine lv_iconst (v := zI (1)) hx hb dX8_comment_9 rfl ?_
    refine g_ci (g_runV X (k_X8_fail (v := 1) hmd) (cwV 1 hts gX8_comment_X8_fail rfl rfl rfl ⟨rfl, ds_X8_fail⟩ ⟨Nat.le_of_ble_eq_true rfl, Nat.le_of_ble_eq_true rfl⟩) hW hS hm70 rfl rfl hl.1 rfl (Nat.le_of_ble_eq_true rfl) dX8_comment_10 ⟨Nat.le_of_ble_eq_true rfl, Nat.le_of_ble_eq_true rfl⟩) hS (fun r64 C62 H locs hp63 hW hS => ?_)
    obtain ⟨e65, hmd66, hf67⟩ := hp63
    rw [e65]
    obtain ⟨⟨mgz66, hm70z66⟩, ⟨F71z66, F72z66, hm71z66, hm72z66, hmtz66⟩, ⟨F73z66, hm73z66, ha73z66⟩, ⟨F74z66, hm74z66, ha74z66⟩, ⟨F75z66, hm75z66, ha75z66⟩, ⟨F76z66, hm76z66, ha76z66⟩, ⟨F77z66, hm77z66, ha77z66⟩, ⟨F78z66, hm78z66, ha78z66⟩, ⟨F79z66, hm79z66, ha79z66⟩, ⟨F80z66, hm80z66, ha80z66⟩, ⟨F81z66, hm81z66, ha81z66⟩, ⟨F82z66, hm82z66, ha82z66⟩, ⟨F83z66, hm83z66, ha83z66⟩, ⟨F84z66, hm84z66, ha84z66⟩, ⟨F85z66, hm85z66, ha85z66⟩, ⟨F86z66, hm86z66, ha86z66⟩, ⟨F87z66, hm87z66⟩, ⟨F88z66, hm88z66⟩, ⟨F89z66, hm89z66⟩, ⟨F90z66, hm90z66⟩⟩ := id hmd66
    have hwnz66 := hwf.n
    have hcd : cd_comment S T cc a = 1 := by unfold cd_comment; rw [if_pos (h_5)]
    exact kret _ _ _ _ _ _ _ _ (⟨fun z9 => absurd (z9.symm.trans hcd) (by decide), fun _ => by rw [hcd]; exact hmd66, fun k' i' h => (hf67 k' i' (by omega))⟩) hW hS (Nat.le_of_ble_eq_true rfl) (Nat.le_of_ble_eq_true rfl) dX8_comment_13

theorem ds_X8_resolve : yX8_resolve.cls ≠ "java/lang/invoke/MethodHandle" ∧ yX8_resolve.cls ≠ "java/lang/invoke/VarHandle" ∧ (parseMethodDescriptor yX8_resolve.desc).map (fun d => d.parameters.length) = some 1 := by decide +kernel
theorem in_X8_resolve_8 : ∀ w ∈ wsX80, w ∈ wsX8_resolve := by decide +kernel
def rX8_resolve : Room := { frames := 1, cells := 0, slots := 0, locals := 23 }
set_option maxHeartbeats 4000000 in
set_option maxRecDepth 100000 in
theorem k_X8_resolve {l : Launch} {Z : gZ} {B : gB} {C0 : gC} {S : gS} {T : gTx} {th : Int} {qq : Int} (hmd : md Z B C0 S T th) (hwf : wf S T) (rqq : zr qq) : Met l yX8_resolve wsX8_resolve rX8_resolve (gPc Z B C0 [.ref (B 70 0), .int (zI qq)]) (gQi Z B (fun r C1 => (cd_resolve S qq = 0 → r = zI (opn (nS_resolve S qq) (S 11 qq.toNat) : Int) ∧ md Z B C1 (nS_resolve S qq) T 0) ∧ (¬ cd_resolve S qq = 0 → md Z B C1 S T (cd_resolve S qq : Int)) ∧ fmd C0 C1)) 0 0 (gA Z) := by
  refine g_ofI (cc := cX8_resolve) (maxL := 2) (by decide) rfl (Nat.le_of_ble_eq_true rfl) ?_
  intro p e s m args below meth c Q X kret hW hS ls hl
  have hx := X.1.1
  have hb := X.1.2.1
  have hts := X.1.2.2.2.2
  have hl : lv_has ls 2 [(0, .ref (B 70 0)), (1, .int (zI qq))] := hl
  obtain ⟨⟨mg, hm70⟩, ⟨F71, F72, hm71, hm72, hmt⟩, ⟨F73, hm73, ha73⟩, ⟨F74, hm74, ha74⟩, ⟨F75, hm75, ha75⟩, ⟨F76, hm76, ha76⟩, ⟨F77, hm77, ha77⟩, ⟨F78, hm78, ha78⟩, ⟨F79, hm79, ha79⟩, ⟨F80, hm80, ha80⟩, ⟨F81, hm81, ha81⟩, ⟨F82, hm82, ha82⟩, ⟨F83, hm83, ha83⟩, ⟨F84, hm84, ha84⟩, ⟨F85, hm85, ha85⟩, ⟨F86, hm86, ha86⟩, ⟨F87, hm87⟩, ⟨F88, hm88⟩, ⟨F89, hm89⟩, ⟨F90, hm90⟩⟩ := id hmd
  have hwn := hwf.n
  refine lv_iload_n hx hb dX8_resolve_0 rfl (lv_at hl 1 rfl) ?_
  refine lv_iconst (v := zI (0)) hx hb dX8_resolve_1 rfl ?_
  refine lv_aload_n hx hb dX8_resolve_2 rfl (lv_at hl 0 rfl) ?_
  refine g_get (ci := 8) X in_X8_resolve_8 rfl hW hm70 3 (by decide) (hts _ (List.mem_of_getElem? (i := 1) rfl)) rfl dX8_resolve_3 ?_
  refine lv_iconst (v := zI (1)) hx hb dX8_resolve_6 rfl ?_
  refine z_isub hx hb dX8_resolve_7 ?_
  refine g_ci (g_runS X (k_X8_isIn (B := B) (C0 := C0) (x := qq) (a := 0) (b := ((S 0 2 : Int) - 1)) (rqq) (⟨by omega, by omega⟩) (⟨by omega, by omega⟩)) (va_cwS 3 hts gX8_resolve_X8_isIn rfl rfl rfl ds_X8_isIn ⟨Nat.le_of_ble_eq_true rfl, Nat.le_of_ble_eq_true rfl⟩) hW hS rfl hl.1 rfl (Nat.le_of_ble_eq_true rfl) dX8_resolve_8 ⟨Nat.le_of_ble_eq_true rfl, Nat.le_of_ble_eq_true rfl⟩) hS (fun r3 C1 H locs hp2 hW hS => ?_)
  obtain ⟨rfl, ehp2⟩ := hp2
  rw [ehp2] at hW
  refine z_ifb_ne (tgt := 20) hx hb dX8_resolve_11 (by decide) (fun h_11 => ?_) (fun h_11 => ?_)
  · refine lv_aload_n hx hb dX8_resolve_20 rfl (lv_at hl 0 rfl) ?_
    refine g_get (ci := 8) X in_X8_resolve_8 rfl hW hm70 20 (by decide) (hts _ (List.mem_of_getElem? (i := 2) rfl)) rfl dX8_resolve_21 ?_
    refine lv_iload_n hx hb dX8_resolve_24 rfl (lv_at hl 1 rfl) ?_
    refine z_iald X hW hm86 (by omega) (by omega) (by omega) dX8_resolve_25 ?_
    rw [show F86 (qq).toNat = (S 14 qq.toNat : Int) from by rw [show (qq).toNat = qq.toNat by omega]; exact ha86 _ (by omega)]
    have hwq := hwf.rm (show qq.toNat < S 0 2 by omega)
    refine lv_iconst (v := zI (1)) hx hb dX8_resolve_26 rfl ?_
    refine z_icmp_ne (tgt := 36) hx hb dX8_resolve_27 (by decide) (⟨by omega, by omega⟩) (⟨by omega, by omega⟩) (fun h_27 => ?_) (fun h_27 => ?_)
    · refine lv_aload_n hx hb dX8_resolve_36 rfl (lv_at hl 0 rfl) ?_
      refine lv_iconst (v := zI (0)) hx hb dX8_resolve_37 rfl ?_
      refine g_put (ci := 8) (ty := .int) X in_X8_resolve_8 tyX8 tyX8_ok nmX8 rfl hW hS hm70 0 (by decide) (hts _ (List.mem_of_getElem? (i := 3) rfl)) rfl (by decide +kernel) (rfl) (rfl) (Nat.le_of_ble_eq_true rfl) dX8_resolve_38 (fun C4 H locs hs5 hn6 hW hS => ?_)
      refine lv_aload_n hx hb dX8_resolve_41 rfl (lv_at hl 0 rfl) ?_
      refine g_get (ci := 8) X in_X8_resolve_8 rfl hW hs5 20 (by decide) (hts _ (List.mem_of_getElem? (i := 2) rfl)) rfl dX8_resolve_42 ?_
      refine lv_iload_n hx hb dX8_resolve_45 rfl (lv_at hl 1 rfl) ?_
      refine lv_iconst (v := zI (1)) hx hb dX8_resolve_46 rfl ?_
      have f7 : C4 86 0 = some (gJ Z 12 F86) := ((hn6 86 0 (gk (by decide))).trans hm86)
      refine z_iast X hW hS f7 (by omega) (by omega) (by omega) dX8_resolve_47 (fun C8 H locs hs9 hn10 hW hS => ?_)
      have so : ∀ k' i', ¬ (k' = 14 ∧ i' = qq.toNat) → nS_resolve S qq k' i' = S k' i' := fun k' i' a0 => by rw [nS_resolve, su_n a0]
      have s00 : nS_resolve S qq 0 0 = S 0 0 := so 0 0 (by omega)
      have s01 : nS_resolve S qq 0 1 = S 0 1 := so 0 1 (by omega)
      have s02 : nS_resolve S qq 0 2 = S 0 2 := so 0 2 (by omega)
      have s03 : nS_resolve S qq 0 3 = S 0 3 := so 0 3 (by omega)
      have f11 : C8 70 0 = some (.inr (8, [.int (zI 0), .int (zI (S 0 0 : Int)), .int (zI (S 0 1 : Int)), .int (zI (S 0 2 : Int)), .int (zI (S 0 3 : Int)), .ref (B 71 0), .ref (B 72 0), .ref (B 73 0), .ref (B 74 0), .ref (B 75 0), .ref (B 76 0), .ref (B 77 0), .ref (B 78 0), .ref (B 79 0), .ref (B 80 0), .ref (B 81 0), .ref (B 82 0), .ref (B 83 0), .ref (B 84 0), .ref (B 85 0), .ref (B 86 0), .ref (B 87 0), .ref (B 88 0), .ref (B 89 0), .ref (B 90 0), .int (zI mg)])) := ((hn10 70 0 (gk (by decide))).trans hs5)
      have f12 : C8 71 0 = some (gJ Z 312 F71) := ((hn10 71 0 (gk (by decide))).trans ((hn6 71 0 (gk (by decide))).trans hm71))
      have f13 : C8 72 0 = some (gJ Z 26 F72) := ((hn10 72 0 (gk (by decide))).trans ((hn6 72 0 (gk (by decide))).trans hm72))
      have hmdN14 : md Z B C8 (nS_resolve S qq) T 0 := by
        refine md.new hmd (by rw [s00, s01, s02, s03]; exact f11) ⟨_, _, f12, f13, hmt⟩ (fun k n q hq hrow => ?_) (fun k' h1 h2 => ((hn10 (k') 0 (by omega)).trans ((hn6 (k') 0 (by omega)).trans rfl)))
        by_cases e0 : k = 86
        · subst e0
          obtain ⟨rfl, rfl⟩ := mrw_86 hq
          exact row.put (i := qq.toNat) (v := 1) ha86 hs9 (by rw [nS_resolve, su_s]; rfl) (fun j hj hne => so 14 j (by omega))
        · skip
          have hqb := mrw_b hq
          exact hrow.same ((hn10 k 0 (by omega)).trans ((hn6 k 0 (by omega)).trans rfl)) (fun j hj => so q j (by omega))
      have hwf2 : wf (nS_resolve S qq) T := wf.reso hwf (by omega)
      have hi2 : S 11 qq.toNat < nS_resolve S qq 0 0 := by rw [s00]; exact hwq.1
      refine lv_aload_n hx hb dX8_resolve_48 rfl (lv_at hl 0 rfl) ?_
      refine lv_aload_n hx hb dX8_resolve_49 rfl (lv_at hl 0 rfl) ?_
      refine g_get (ci := 8) X in_X8_resolve_8 rfl hW f11 17 (by decide) (hts _ (List.mem_of_getElem? (i := 4) rfl)) rfl dX8_resolve_50 ?_
      refine lv_iload_n hx hb dX8_resolve_53 rfl (lv_at hl 1 rfl) ?_
      have f15 : C8 83 0 = some (gJ Z 12 F83) := ((hn10 83 0 (gk (by decide))).trans ((hn6 83 0 (gk (by decide))).trans hm83))
      refine z_iald X hW f15 (by omega) (by omega) (by omega) dX8_resolve_54 ?_
      rw [show F83 (qq).toNat = (S 11 qq.toNat : Int) from by rw [show (qq).toNat = qq.toNat by omega]; exact ha83 _ (by omega)]
      refine g_ci (g_runV X (k_X8_opens (i := (S 11 qq.toNat)) hmdN14 hwf2 hi2) (cwV 1 hts gX8_resolve_X8_opens rfl rfl rfl ⟨rfl, ds_X8_opens⟩ ⟨Nat.le_of_ble_eq_true rfl, Nat.le_of_ble_eq_true rfl⟩) hW hS f11 rfl rfl hl.1 rfl (Nat.le_of_ble_eq_true rfl) dX8_resolve_55 ⟨Nat.le_of_ble_eq_true rfl, Nat.le_of_ble_eq_true rfl⟩) hS (fun r18 C16 H locs hp17 hW hS => ?_)
      obtain ⟨rfl, ehp17⟩ := hp17
      rw [ehp17] at hW
      have hcd : cd_resolve S qq = 0 := by unfold cd_resolve; rw [if_neg (by omega), if_neg (by omega)]
      exact kret _ _ _ _ _ _ _ _ (⟨fun _ => ⟨rfl, hmdN14⟩, fun z9 => absurd hcd z9, fun k' i' h => (hn10 k' i' (by omega)).trans ((hn6 k' i' (by omega)))⟩) hW hS (Nat.le_of_ble_eq_true rfl) (Nat.le_of_ble_eq_true rfl) dX8_resolve_58
    · refine lv_aload_n hx hb dX8_resolve_30 rfl (lv_at hl 0 rfl) ?_
      refine lv_iconst (v := zI (2)) hx hb dX8_resolve_31 rfl ?_
      refine g_ci (g_runV X (k_X8_fail (v := 2) hmd) (cwV 1 hts gX8_resolve_X8_fail rfl rfl rfl ⟨rfl, ds_X8_fail⟩ ⟨Nat.le_of_ble_eq_true rfl, Nat.le_of_ble_eq_true rfl⟩) hW hS hm70 rfl rfl hl.1 rfl (Nat.le_of_ble_eq_true rfl) dX8_resolve_32 ⟨Nat.le_of_ble_eq_true rfl, Nat.le_of_ble_eq_true rfl⟩) hS (fun r21 C19 H locs hp20 hW hS => ?_)
      obtain ⟨e22, hmd23, hf24⟩ := hp20
      rw [e22]
      obtain ⟨⟨mgz23, hm70z23⟩, ⟨F71z23, F72z23, hm71z23, hm72z23, hmtz23⟩, ⟨F73z23, hm73z23, ha73z23⟩, ⟨F74z23, hm74z23, ha74z23⟩, ⟨F75z23, hm75z23, ha75z23⟩, ⟨F76z23, hm76z23, ha76z23⟩, ⟨F77z23, hm77z23, ha77z23⟩, ⟨F78z23, hm78z23, ha78z23⟩, ⟨F79z23, hm79z23, ha79z23⟩, ⟨F80z23, hm80z23, ha80z23⟩, ⟨F81z23, hm81z23, ha81z23⟩, ⟨F82z23, hm82z23, ha82z23⟩, ⟨F83z23, hm83z23, ha83z23⟩, ⟨F84z23, hm84z23, ha84z23⟩, ⟨F85z23, hm85z23, ha85z23⟩, ⟨F86z23, hm86z23, ha86z23⟩, ⟨F87z23, hm87z23⟩, ⟨F88z23, hm88z23⟩, ⟨F89z23, hm89z23⟩, ⟨F90z23, hm90z23⟩⟩ := id hmd23
      have hwnz23 := hwf.n
      have hcd : cd_resolve S qq = 2 := by unfold cd_resolve; rw [if_neg (by omega), if_pos (by omega)]
      exact kret _ _ _ _ _ _ _ _ (⟨fun z9 => absurd (z9.symm.trans hcd) (by decide), fun _ => by rw [hcd]; exact hmd23, fun k' i' h => (hf24 k' i' (by omega))⟩) hW hS (Nat.le_of_ble_eq_true rfl) (Nat.le_of_ble_eq_true rfl) dX8_resolve_35
  · refine lv_aload_n hx hb dX8_resolve_14 rfl (lv_at hl 0 rfl) ?_
    refine lv_iconst (v := zI (1)) hx hb dX8_resolve_15 rfl ?_
    refine g_ci (g_runV X (k_X8_fail (v := 1) hmd) (cwV 1 hts gX8_resolve_X8_fail rfl rfl rfl ⟨rfl, ds_X8_fail⟩ ⟨Nat.le_of_ble_eq_true rfl, Nat.le_of_ble_eq_true rfl⟩) hW hS hm70 rfl rfl hl.1 rfl (Nat.le_of_ble_eq_true rfl) dX8_resolve_16 ⟨Nat.le_of_ble_eq_true rfl, Nat.le_of_ble_eq_true rfl⟩) hS (fun r27 C25 H locs hp26 hW hS => ?_)
    obtain ⟨e28, hmd29, hf30⟩ := hp26
    rw [e28]
    obtain ⟨⟨mgz29, hm70z29⟩, ⟨F71z29, F72z29, hm71z29, hm72z29, hmtz29⟩, ⟨F73z29, hm73z29, ha73z29⟩, ⟨F74z29, hm74z29, ha74z29⟩, ⟨F75z29, hm75z29, ha75z29⟩, ⟨F76z29, hm76z29, ha76z29⟩, ⟨F77z29, hm77z29, ha77z29⟩, ⟨F78z29, hm78z29, ha78z29⟩, ⟨F79z29, hm79z29, ha79z29⟩, ⟨F80z29, hm80z29, ha80z29⟩, ⟨F81z29, hm81z29, ha81z29⟩, ⟨F82z29, hm82z29, ha82z29⟩, ⟨F83z29, hm83z29, ha83z29⟩, ⟨F84z29, hm84z29, ha84z29⟩, ⟨F85z29, hm85z29, ha85z29⟩, ⟨F86z29, hm86z29, ha86z29⟩, ⟨F87z29, hm87z29⟩, ⟨F88z29, hm88z29⟩, ⟨F89z29, hm89z29⟩, ⟨F90z29, hm90z29⟩⟩ := id hmd29
    have hwnz29 := hwf.n
    have hcd : cd_resolve S qq = 1 := by unfold cd_resolve; rw [if_pos (by omega)]
    exact kret _ _ _ _ _ _ _ _ (⟨fun z9 => absurd (z9.symm.trans hcd) (by decide), fun _ => by rw [hcd]; exact hmd29, fun k' i' h => (hf30 k' i' (by omega))⟩) hW hS (Nat.le_of_ble_eq_true rfl) (Nat.le_of_ble_eq_true rfl) dX8_resolve_19

theorem ds_X8_approve : yX8_approve.cls ≠ "java/lang/invoke/MethodHandle" ∧ yX8_approve.cls ≠ "java/lang/invoke/VarHandle" ∧ (parseMethodDescriptor yX8_approve.desc).map (fun d => d.parameters.length) = some 2 := by decide +kernel
theorem in_X8_approve_8 : ∀ w ∈ wsX80, w ∈ wsX8_approve := by decide +kernel
def rX8_approve : Room := { frames := 5, cells := 0, slots := 0, locals := 119 }
set_option maxHeartbeats 4000000 in
set_option maxRecDepth 100000 in
theorem k_X8_approve {l : Launch} {Z : gZ} {B : gB} {C0 : gC} {S : gS} {T : gTx} {th : Int} {cc a : Int} (hmd : md Z B C0 S T th) (hwf : wf S T) (rcc : zr cc) (ra : zr a) : Met l yX8_approve wsX8_approve rX8_approve (gPc Z B C0 [.ref (B 70 0), .int (zI cc), .int (zI a)]) (gQi Z B (fun r C1 => (cd_approve S cc a = 0 → r = zI (bcnt (fre (nS_approve S cc a) T cc.toNat) : Int) ∧ md Z B C1 (nS_approve S cc a) T 0) ∧ (¬ cd_approve S cc a = 0 → md Z B C1 S T (cd_approve S cc a : Int)) ∧ fmd C0 C1)) 0 0 (gA Z) := by
  refine g_ofI (cc := cX8_approve) (maxL := 3) (by decide) rfl (Nat.le_of_ble_eq_true rfl) ?_
  intro p e s m args below meth c Q X kret hW hS ls hl
  have hx := X.1.1
  have hb := X.1.2.1
  have hts := X.1.2.2.2.2
  have hl : lv_has ls 3 [(0, .ref (B 70 0)), (1, .int (zI cc)), (2, .int (zI a))] := hl
  obtain ⟨⟨mg, hm70⟩, ⟨F71, F72, hm71, hm72, hmt⟩, ⟨F73, hm73, ha73⟩, ⟨F74, hm74, ha74⟩, ⟨F75, hm75, ha75⟩, ⟨F76, hm76, ha76⟩, ⟨F77, hm77, ha77⟩, ⟨F78, hm78, ha78⟩, ⟨F79, hm79, ha79⟩, ⟨F80, hm80, ha80⟩, ⟨F81, hm81, ha81⟩, ⟨F82, hm82, ha82⟩, ⟨F83, hm83, ha83⟩, ⟨F84, hm84, ha84⟩, ⟨F85, hm85, ha85⟩, ⟨F86, hm86, ha86⟩, ⟨F87, hm87⟩, ⟨F88, hm88⟩, ⟨F89, hm89⟩, ⟨F90, hm90⟩⟩ := id hmd
  have hwn := hwf.n
  refine lv_aload_n hx hb dX8_approve_0 rfl (lv_at hl 0 rfl) ?_
  refine lv_iload_n hx hb dX8_approve_1 rfl (lv_at hl 1 rfl) ?_
  refine g_ci (g_runV X (k_X8_isChange (a := cc) hmd hwf (rcc)) (cwV 1 hts gX8_approve_X8_isChange rfl rfl rfl ⟨rfl, ds_X8_isChange⟩ ⟨Nat.le_of_ble_eq_true rfl, Nat.le_of_ble_eq_true rfl⟩) hW hS hm70 rfl rfl hl.1 rfl (Nat.le_of_ble_eq_true rfl) dX8_approve_2 ⟨Nat.le_of_ble_eq_true rfl, Nat.le_of_ble_eq_true rfl⟩) hS (fun r3 C1 H locs hp2 hW hS => ?_)
  obtain ⟨rfl, ehp2⟩ := hp2
  rw [ehp2] at hW
  refine z_ifb_eq (tgt := 15) hx hb dX8_approve_5 (by decide) (fun h_5 => ?_) (fun h_5 => ?_)
  · refine lv_aload_n hx hb dX8_approve_15 rfl (lv_at hl 0 rfl) ?_
    refine lv_iconst (v := zI (1)) hx hb dX8_approve_16 rfl ?_
    refine g_ci (g_runV X (k_X8_fail (v := 1) hmd) (cwV 1 hts gX8_approve_X8_fail rfl rfl rfl ⟨rfl, ds_X8_fail⟩ ⟨Nat.le_of_ble_eq_true rfl, Nat.le_of_ble_eq_true rfl⟩) hW hS hm70 rfl rfl hl.1 rfl (Nat.le_of_ble_eq_true rfl) dX8_approve_17 ⟨Nat.le_of_ble_eq_true rfl, Nat.le_of_ble_eq_true rfl⟩) hS (fun r6 C4 H locs hp5 hW hS => ?_)
    obtain ⟨e7, hmd8, hf9⟩ := hp5
    rw [e7]
    obtain ⟨⟨mgz8, hm70z8⟩, ⟨F71z8, F72z8, hm71z8, hm72z8, hmtz8⟩, ⟨F73z8, hm73z8, ha73z8⟩, ⟨F74z8, hm74z8, ha74z8⟩, ⟨F75z8, hm75z8, ha75z8⟩, ⟨F76z8, hm76z8, ha76z8⟩, ⟨F77z8, hm77z8, ha77z8⟩, ⟨F78z8, hm78z8, ha78z8⟩, ⟨F79z8, hm79z8, ha79z8⟩, ⟨F80z8, hm80z8, ha80z8⟩, ⟨F81z8, hm81z8, ha81z8⟩, ⟨F82z8, hm82z8, ha82z8⟩, ⟨F83z8, hm83z8, ha83z8⟩, ⟨F84z8, hm84z8, ha84z8⟩, ⟨F85z8, hm85z8, ha85z8⟩, ⟨F86z8, hm86z8, ha86z8⟩, ⟨F87z8, hm87z8⟩, ⟨F88z8, hm88z8⟩, ⟨F89z8, hm89z8⟩, ⟨F90z8, hm90z8⟩⟩ := id hmd8
    have hwnz8 := hwf.n
    have hcd : cd_approve S cc a = 1 := by unfold cd_approve; rw [if_pos (fun z => h_5 z.1)]
    exact kret _ _ _ _ _ _ _ _ (⟨fun z9 => absurd (z9.symm.trans hcd) (by decide), fun _ => by rw [hcd]; exact hmd8, fun k' i' h => (hf9 k' i' (by omega))⟩) hW hS (Nat.le_of_ble_eq_true rfl) (Nat.le_of_ble_eq_true rfl) dX8_approve_20
  · refine lv_iload_n hx hb dX8_approve_8 rfl (lv_at hl 2 rfl) ?_
    refine g_ci (g_runS X (k_X8_isUser (B := B) (C0 := C0) (a := a) (ra)) (va_cwS 1 hts gX8_approve_X8_isUser rfl rfl rfl ds_X8_isUser ⟨Nat.le_of_ble_eq_true rfl, Nat.le_of_ble_eq_true rfl⟩) hW hS rfl hl.1 rfl (Nat.le_of_ble_eq_true rfl) dX8_approve_9 ⟨Nat.le_of_ble_eq_true rfl, Nat.le_of_ble_eq_true rfl⟩) hS (fun r12 C10 H locs hp11 hW hS => ?_)
    obtain ⟨rfl, ehp11⟩ := hp11
    rw [ehp11] at hW
    refine z_ifb_ne (tgt := 21) hx hb dX8_approve_12 (by decide) (fun h_12 => ?_) (fun h_12 => ?_)
    · have hwi := hwf.ch (show cc.toNat < S 0 0 by omega)
      refine lv_aload_n hx hb dX8_approve_21 rfl (lv_at hl 0 rfl) ?_
      refine g_get (ci := 8) X in_X8_approve_8 rfl hW hm70 11 (by decide) (hts _ (List.mem_of_getElem? (i := 1) rfl)) rfl dX8_approve_22 ?_
      refine lv_iload_n hx hb dX8_approve_25 rfl (lv_at hl 1 rfl) ?_
      refine z_iald X hW hm77 (by omega) (by omega) (by omega) dX8_approve_26 ?_
      rw [show F77 (cc).toNat = (S 2 cc.toNat : Int) from by rw [show (cc).toNat = cc.toNat by omega]; exact ha77 _ (by omega)]
      refine z_if_ne (tgt := 36) hx hb dX8_approve_27 (by decide) (⟨by omega, by omega⟩) (fun h_27 => ?_) (fun h_27 => ?_)
      · refine lv_aload_n hx hb dX8_approve_36 rfl (lv_at hl 0 rfl) ?_
        refine g_get (ci := 8) X in_X8_approve_8 rfl hW hm70 14 (by decide) (hts _ (List.mem_of_getElem? (i := 2) rfl)) rfl dX8_approve_37 ?_
        refine lv_iload_n hx hb dX8_approve_40 rfl (lv_at hl 1 rfl) ?_
        refine z_iald X hW hm80 (by omega) (by omega) (by omega) dX8_approve_41 ?_
        rw [show F80 (cc).toNat = (S 5 cc.toNat : Int) from by rw [show (cc).toNat = cc.toNat by omega]; exact ha80 _ (by omega)]
        refine lv_iconst (v := zI (1)) hx hb dX8_approve_42 rfl ?_
        refine z_icmp_eq (tgt := 56) hx hb dX8_approve_43 (by decide) (⟨by omega, by omega⟩) (⟨by omega, by omega⟩) (fun h_43 => ?_) (fun h_43 => ?_)
        · refine lv_aload_n hx hb dX8_approve_56 rfl (lv_at hl 0 rfl) ?_
          refine lv_iconst (v := zI (3)) hx hb dX8_approve_57 rfl ?_
          refine g_ci (g_runV X (k_X8_fail (v := 3) hmd) (cwV 1 hts gX8_approve_X8_fail rfl rfl rfl ⟨rfl, ds_X8_fail⟩ ⟨Nat.le_of_ble_eq_true rfl, Nat.le_of_ble_eq_true rfl⟩) hW hS hm70 rfl rfl hl.1 rfl (Nat.le_of_ble_eq_true rfl) dX8_approve_58 ⟨Nat.le_of_ble_eq_true rfl, Nat.le_of_ble_eq_true rfl⟩) hS (fun r15 C13 H locs hp14 hW hS => ?_)
          obtain ⟨e16, hmd17, hf18⟩ := hp14
          rw [e16]
          obtain ⟨⟨mgz17, hm70z17⟩, ⟨F71z17, F72z17, hm71z17, hm72z17, hmtz17⟩, ⟨F73z17, hm73z17, ha73z17⟩, ⟨F74z17, hm74z17, ha74z17⟩, ⟨F75z17, hm75z17, ha75z17⟩, ⟨F76z17, hm76z17, ha76z17⟩, ⟨F77z17, hm77z17, ha77z17⟩, ⟨F78z17, hm78z17, ha78z17⟩, ⟨F79z17, hm79z17, ha79z17⟩, ⟨F80z17, hm80z17, ha80z17⟩, ⟨F81z17, hm81z17, ha81z17⟩, ⟨F82z17, hm82z17, ha82z17⟩, ⟨F83z17, hm83z17, ha83z17⟩, ⟨F84z17, hm84z17, ha84z17⟩, ⟨F85z17, hm85z17, ha85z17⟩, ⟨F86z17, hm86z17, ha86z17⟩, ⟨F87z17, hm87z17⟩, ⟨F88z17, hm88z17⟩, ⟨F89z17, hm89z17⟩, ⟨F90z17, hm90z17⟩⟩ := id hmd17
          have hwnz17 := hwf.n
          have hcd : cd_approve S cc a = 3 := by unfold cd_approve; rw [if_neg (fun z => z ⟨h_5, h_12⟩), if_neg (by omega), if_pos (by omega)]
          exact kret _ _ _ _ _ _ _ _ (⟨fun z9 => absurd (z9.symm.trans hcd) (by decide), fun _ => by rw [hcd]; exact hmd17, fun k' i' h => (hf18 k' i' (by omega))⟩) hW hS (Nat.le_of_ble_eq_true rfl) (Nat.le_of_ble_eq_true rfl) dX8_approve_61
        · refine lv_aload_n hx hb dX8_approve_46 rfl (lv_at hl 0 rfl) ?_
          refine g_get (ci := 8) X in_X8_approve_8 rfl hW hm70 10 (by decide) (hts _ (List.mem_of_getElem? (i := 3) rfl)) rfl dX8_approve_47 ?_
          refine lv_iload_n hx hb dX8_approve_50 rfl (lv_at hl 1 rfl) ?_
          refine z_iald X hW hm76 (by omega) (by omega) (by omega) dX8_approve_51 ?_
          rw [show F76 (cc).toNat = (S 1 cc.toNat : Int) from by rw [show (cc).toNat = cc.toNat by omega]; exact ha76 _ (by omega)]
          refine lv_iload_n hx hb dX8_approve_52 rfl (lv_at hl 2 rfl) ?_
          refine z_icmp_ne (tgt := 62) hx hb dX8_approve_53 (by decide) (⟨by omega, by omega⟩) (ra) (fun h_53 => ?_) (fun h_53 => ?_)
          · refine lv_aload_n hx hb dX8_approve_62 rfl (lv_at hl 0 rfl) ?_
            refine lv_iconst (v := zI (0)) hx hb dX8_approve_63 rfl ?_
            refine g_put (ci := 8) (ty := .int) X in_X8_approve_8 tyX8 tyX8_ok nmX8 rfl hW hS hm70 0 (by decide) (hts _ (List.mem_of_getElem? (i := 4) rfl)) rfl (by decide +kernel) (rfl) (rfl) (Nat.le_of_ble_eq_true rfl) dX8_approve_64 (fun C19 H locs hs20 hn21 hW hS => ?_)
            refine lv_aload_n hx hb dX8_approve_67 rfl (lv_at hl 0 rfl) ?_
            refine g_get (ci := 8) X in_X8_approve_8 rfl hW hs20 16 (by decide) (hts _ (List.mem_of_getElem? (i := 5) rfl)) rfl dX8_approve_68 ?_
            refine lv_iconst (v := zI (5)) hx hb dX8_approve_71 rfl ?_
            refine lv_iload_n hx hb dX8_approve_72 rfl (lv_at hl 1 rfl) ?_
            refine z_imul hx hb dX8_approve_73 ?_
            refine lv_iload_n hx hb dX8_approve_74 rfl (lv_at hl 2 rfl) ?_
            refine z_iadd hx hb dX8_approve_75 ?_
            refine lv_aload_n hx hb dX8_approve_76 rfl (lv_at hl 0 rfl) ?_
            refine g_get (ci := 8) X in_X8_approve_8 rfl hW hs20 11 (by decide) (hts _ (List.mem_of_getElem? (i := 1) rfl)) rfl dX8_approve_77 ?_
            refine lv_iload_n hx hb dX8_approve_80 rfl (lv_at hl 1 rfl) ?_
            have f22 : C19 77 0 = some (gJ Z 4 F77) := ((hn21 77 0 (gk (by decide))).trans hm77)
            refine z_iald X hW f22 (by omega) (by omega) (by omega) dX8_approve_81 ?_
            rw [show F77 (cc).toNat = (S 2 cc.toNat : Int) from by rw [show (cc).toNat = cc.toNat by omega]; exact ha77 _ (by omega)]
            have f23 : C19 82 0 = some (gJ Z 20 F82) := ((hn21 82 0 (gk (by decide))).trans hm82)
            refine z_iast X hW hS f23 (by omega) (by omega) (by omega) dX8_approve_82 (fun C24 H locs hs25 hn26 hW hS => ?_)
            have so : ∀ k' i', ¬ (k' = 7 ∧ i' = 5 * cc.toNat + a.toNat) → nS_approve S cc a k' i' = S k' i' := fun k' i' a0 => by rw [nS_approve, su_n a0]
            have s00 : nS_approve S cc a 0 0 = S 0 0 := so 0 0 (by omega)
            have s01 : nS_approve S cc a 0 1 = S 0 1 := so 0 1 (by omega)
            have s02 : nS_approve S cc a 0 2 = S 0 2 := so 0 2 (by omega)
            have s03 : nS_approve S cc a 0 3 = S 0 3 := so 0 3 (by omega)
            have f27 : C24 70 0 = some (.inr (8, [.int (zI 0), .int (zI (S 0 0 : Int)), .int (zI (S 0 1 : Int)), .int (zI (S 0 2 : Int)), .int (zI (S 0 3 : Int)), .ref (B 71 0), .ref (B 72 0), .ref (B 73 0), .ref (B 74 0), .ref (B 75 0), .ref (B 76 0), .ref (B 77 0), .ref (B 78 0), .ref (B 79 0), .ref (B 80 0), .ref (B 81 0), .ref (B 82 0), .ref (B 83 0), .ref (B 84 0), .ref (B 85 0), .ref (B 86 0), .ref (B 87 0), .ref (B 88 0), .ref (B 89 0), .ref (B 90 0), .int (zI mg)])) := ((hn26 70 0 (gk (by decide))).trans hs20)
            have f28 : C24 71 0 = some (gJ Z 312 F71) := ((hn26 71 0 (gk (by decide))).trans ((hn21 71 0 (gk (by decide))).trans hm71))
            have f29 : C24 72 0 = some (gJ Z 26 F72) := ((hn26 72 0 (gk (by decide))).trans ((hn21 72 0 (gk (by decide))).trans hm72))
            have hmdN30 : md Z B C24 (nS_approve S cc a) T 0 := by
              refine md.new hmd (by rw [s00, s01, s02, s03]; exact f27) ⟨_, _, f28, f29, hmt⟩ (fun k n q hq hrow => ?_) (fun k' h1 h2 => ((hn26 (k') 0 (by omega)).trans ((hn21 (k') 0 (by omega)).trans rfl)))
              by_cases e0 : k = 82
              · subst e0
                obtain ⟨rfl, rfl⟩ := mrw_82 hq
                exact row.put (i := 5 * cc.toNat + a.toNat) (v := (S 2 cc.toNat : Int)) ha82 (by have h9 := hs25; rwa [show (5 * cc + a).toNat = 5 * cc.toNat + a.toNat by omega] at h9) (by rw [nS_approve, su_s]) (fun j hj hne => so 7 j (by omega))
              · skip
                have hqb := mrw_b hq
                exact hrow.same ((hn26 k 0 (by omega)).trans ((hn21 k 0 (by omega)).trans rfl)) (fun j hj => so q j (by omega))
            have hwf2 : wf (nS_approve S cc a) T := wf.upd hwf (Or.inr (Or.inr rfl)) (by omega) (by omega) (fun _ c9 u9 e9 hu9 hc9 => by rw [show c9 = cc.toNat by omega]; exact Nat.le_refl _)
            have hi2 : cc.toNat < nS_approve S cc a 0 0 := by rw [s00]; omega
            refine lv_aload_n hx hb dX8_approve_83 rfl (lv_at hl 0 rfl) ?_
            refine lv_iload_n hx hb dX8_approve_84 rfl (lv_at hl 1 rfl) ?_
            rw [show zI cc = zI ((cc.toNat : Nat) : Int) from congrArg zI (by omega)]
            refine g_ci (g_runV X (k_X8_fresh (i := (cc.toNat)) hmdN30 hwf2 hi2) (cwV 1 hts gX8_approve_X8_fresh rfl rfl rfl ⟨rfl, ds_X8_fresh⟩ ⟨Nat.le_of_ble_eq_true rfl, Nat.le_of_ble_eq_true rfl⟩) hW hS f27 rfl rfl hl.1 rfl (Nat.le_of_ble_eq_true rfl) dX8_approve_85 ⟨Nat.le_of_ble_eq_true rfl, Nat.le_of_ble_eq_true rfl⟩) hS (fun r33 C31 H locs hp32 hW hS => ?_)
            obtain ⟨e34, hmd35, hf36⟩ := hp32
            rw [e34]
            obtain ⟨⟨mgz35, hm70z35⟩, ⟨F71z35, F72z35, hm71z35, hm72z35, hmtz35⟩, ⟨F73z35, hm73z35, ha73z35⟩, ⟨F74z35, hm74z35, ha74z35⟩, ⟨F75z35, hm75z35, ha75z35⟩, ⟨F76z35, hm76z35, ha76z35⟩, ⟨F77z35, hm77z35, ha77z35⟩, ⟨F78z35, hm78z35, ha78z35⟩, ⟨F79z35, hm79z35, ha79z35⟩, ⟨F80z35, hm80z35, ha80z35⟩, ⟨F81z35, hm81z35, ha81z35⟩, ⟨F82z35, hm82z35, ha82z35⟩, ⟨F83z35, hm83z35, ha83z35⟩, ⟨F84z35, hm84z35, ha84z35⟩, ⟨F85z35, hm85z35, ha85z35⟩, ⟨F86z35, hm86z35, ha86z35⟩, ⟨F87z35, hm87z35⟩, ⟨F88z35, hm88z35⟩, ⟨F89z35, hm89z35⟩, ⟨F90z35, hm90z35⟩⟩ := id hmd35
            have hwnz35 := hwf.n
            have hcd : cd_approve S cc a = 0 := by unfold cd_approve; rw [if_neg (fun z => z ⟨h_5, h_12⟩), if_neg (by omega), if_neg (by omega)]
            exact kret _ _ _ _ _ _ _ _ (⟨fun _ => ⟨rfl, hmd35⟩, fun z9 => absurd hcd z9, fun k' i' h => (hf36 k' i' (by omega)).trans ((hn26 k' i' (by omega)).trans ((hn21 k' i' (by omega))))⟩) hW hS (Nat.le_of_ble_eq_true rfl) (Nat.le_of_ble_eq_true rfl) dX8_approve_88
          · refine lv_aload_n hx hb dX8_approve_56 rfl (lv_at hl 0 rfl) ?_
            refine lv_iconst (v := zI (3)) hx hb dX8_approve_57 rfl ?_
            refine g_ci (g_runV X (k_X8_fail (v := 3) hmd) (cwV 1 hts gX8_approve_X8_fail rfl rfl rfl ⟨rfl, ds_X8_fail⟩ ⟨Nat.le_of_ble_eq_true rfl, Nat.le_of_ble_eq_true rfl⟩) hW hS hm70 rfl rfl hl.1 rfl (Nat.le_of_ble_eq_true rfl) dX8_approve_58 ⟨Nat.le_of_ble_eq_true rfl, Nat.le_of_ble_eq_true rfl⟩) hS (fun r39 C37 H locs hp38 hW hS => ?_)
            obtain ⟨e40, hmd41, hf42⟩ := hp38
            rw [e40]
            obtain ⟨⟨mgz41, hm70z41⟩, ⟨F71z41, F72z41, hm71z41, hm72z41, hmtz41⟩, ⟨F73z41, hm73z41, ha73z41⟩, ⟨F74z41, hm74z41, ha74z41⟩, ⟨F75z41, hm75z41, ha75z41⟩, ⟨F76z41, hm76z41, ha76z41⟩, ⟨F77z41, hm77z41, ha77z41⟩, ⟨F78z41, hm78z41, ha78z41⟩, ⟨F79z41, hm79z41, ha79z41⟩, ⟨F80z41, hm80z41, ha80z41⟩, ⟨F81z41, hm81z41, ha81z41⟩, ⟨F82z41, hm82z41, ha82z41⟩, ⟨F83z41, hm83z41, ha83z41⟩, ⟨F84z41, hm84z41, ha84z41⟩, ⟨F85z41, hm85z41, ha85z41⟩, ⟨F86z41, hm86z41, ha86z41⟩, ⟨F87z41, hm87z41⟩, ⟨F88z41, hm88z41⟩, ⟨F89z41, hm89z41⟩, ⟨F90z41, hm90z41⟩⟩ := id hmd41
            have hwnz41 := hwf.n
            have hcd : cd_approve S cc a = 3 := by unfold cd_approve; rw [if_neg (fun z => z ⟨h_5, h_12⟩), if_neg (by omega), if_pos (by omega)]
            exact kret _ _ _ _ _ _ _ _ (⟨fun z9 => absurd (z9.symm.trans hcd) (by decide), fun _ => by rw [hcd]; exact hmd41, fun k' i' h => (hf42 k' i' (by omega))⟩) hW hS (Nat.le_of_ble_eq_true rfl) (Nat.le_of_ble_eq_true rfl) dX8_approve_61
      · refine lv_aload_n hx hb dX8_approve_30 rfl (lv_at hl 0 rfl) ?_
        refine lv_iconst (v := zI (2)) hx hb dX8_approve_31 rfl ?_
        refine g_ci (g_runV X (k_X8_fail (v := 2) hmd) (cwV 1 hts gX8_approve_X8_fail rfl rfl rfl ⟨rfl, ds_X8_fail⟩ ⟨Nat.le_of_ble_eq_true rfl, Nat.le_of_ble_eq_true rfl⟩) hW hS hm70 rfl rfl hl.1 rfl (Nat.le_of_ble_eq_true rfl) dX8_approve_32 ⟨Nat.le_of_ble_eq_true rfl, Nat.le_of_ble_eq_true rfl⟩) hS (fun r45 C43 H locs hp44 hW hS => ?_)
        obtain ⟨e46, hmd47, hf48⟩ := hp44
        rw [e46]
        obtain ⟨⟨mgz47, hm70z47⟩, ⟨F71z47, F72z47, hm71z47, hm72z47, hmtz47⟩, ⟨F73z47, hm73z47, ha73z47⟩, ⟨F74z47, hm74z47, ha74z47⟩, ⟨F75z47, hm75z47, ha75z47⟩, ⟨F76z47, hm76z47, ha76z47⟩, ⟨F77z47, hm77z47, ha77z47⟩, ⟨F78z47, hm78z47, ha78z47⟩, ⟨F79z47, hm79z47, ha79z47⟩, ⟨F80z47, hm80z47, ha80z47⟩, ⟨F81z47, hm81z47, ha81z47⟩, ⟨F82z47, hm82z47, ha82z47⟩, ⟨F83z47, hm83z47, ha83z47⟩, ⟨F84z47, hm84z47, ha84z47⟩, ⟨F85z47, hm85z47, ha85z47⟩, ⟨F86z47, hm86z47, ha86z47⟩, ⟨F87z47, hm87z47⟩, ⟨F88z47, hm88z47⟩, ⟨F89z47, hm89z47⟩, ⟨F90z47, hm90z47⟩⟩ := id hmd47
        have hwnz47 := hwf.n
        have hcd : cd_approve S cc a = 2 := by unfold cd_approve; rw [if_neg (fun z => z ⟨h_5, h_12⟩), if_pos (by omega)]
        exact kret _ _ _ _ _ _ _ _ (⟨fun z9 => absurd (z9.symm.trans hcd) (by decide), fun _ => by rw [hcd]; exact hmd47, fun k' i' h => (hf48 k' i' (by omega))⟩) hW hS (Nat.le_of_ble_eq_true rfl) (Nat.le_of_ble_eq_true rfl) dX8_approve_35
    · refine lv_aload_n hx hb dX8_approve_15 rfl (lv_at hl 0 rfl) ?_
      refine lv_iconst (v := zI (1)) hx hb dX8_approve_16 rfl ?_
      refine g_ci (g_runV X (k_X8_fail (v := 1) hmd) (cwV 1 hts gX8_approve_X8_fail rfl rfl rfl ⟨rfl, ds_X8_fail⟩ ⟨Nat.le_of_ble_eq_true rfl, Nat.le_of_ble_eq_true rfl⟩) hW hS hm70 rfl rfl hl.1 rfl (Nat.le_of_ble_eq_true rfl) dX8_approve_17 ⟨Nat.le_of_ble_eq_true rfl, Nat.le_of_ble_eq_true rfl⟩) hS (fun r51 C49 H locs hp50 hW hS => ?_)
      obtain ⟨e52, hmd53, hf54⟩ := hp50
      rw [e52]
      obtain ⟨⟨mgz53, hm70z53⟩, ⟨F71z53, F72z53, hm71z53, hm72z53, hmtz53⟩, ⟨F73z53, hm73z53, ha73z53⟩, ⟨F74z53, hm74z53, ha74z53⟩, ⟨F75z53, hm75z53, ha75z53⟩, ⟨F76z53, hm76z53, ha76z53⟩, ⟨F77z53, hm77z53, ha77z53⟩, ⟨F78z53, hm78z53, ha78z53⟩, ⟨F79z53, hm79z53, ha79z53⟩, ⟨F80z53, hm80z53, ha80z53⟩, ⟨F81z53, hm81z53, ha81z53⟩, ⟨F82z53, hm82z53, ha82z53⟩, ⟨F83z53, hm83z53, ha83z53⟩, ⟨F84z53, hm84z53, ha84z53⟩, ⟨F85z53, hm85z53, ha85z53⟩, ⟨F86z53, hm86z53, ha86z53⟩, ⟨F87z53, hm87z53⟩, ⟨F88z53, hm88z53⟩, ⟨F89z53, hm89z53⟩, ⟨F90z53, hm90z53⟩⟩ := id hmd53
      have hwnz53 := hwf.n
      have hcd : cd_approve S cc a = 1 := by unfold cd_approve; rw [if_pos (fun z => h_12 z.2)]
      exact kret _ _ _ _ _ _ _ _ (⟨fun z9 => absurd (z9.symm.trans hcd) (by decide), fun _ => by rw [hcd]; exact hmd53, fun k' i' h => (hf54 k' i' (by omega))⟩) hW hS (Nat.le_of_ble_eq_true rfl) (Nat.le_of_ble_eq_true rfl) dX8_approve_20

theorem ds_X8_withdraw : yX8_withdraw.cls ≠ "java/lang/invoke/MethodHandle" ∧ yX8_withdraw.cls ≠ "java/lang/invoke/VarHandle" ∧ (parseMethodDescriptor yX8_withdraw.desc).map (fun d => d.parameters.length) = some 2 := by decide +kernel
theorem in_X8_withdraw_8 : ∀ w ∈ wsX80, w ∈ wsX8_withdraw := by decide +kernel
def rX8_withdraw : Room := { frames := 5, cells := 0, slots := 0, locals := 119 }
set_option maxHeartbeats 4000000 in
set_option maxRecDepth 100000 in
theorem k_X8_withdraw {l : Launch} {Z : gZ} {B : gB} {C0 : gC} {S : gS} {T : gTx} {th : Int} {cc a : Int} (hmd : md Z B C0 S T th) (hwf : wf S T) (rcc : zr cc) (ra : zr a) : Met l yX8_withdraw wsX8_withdraw rX8_withdraw (gPc Z B C0 [.ref (B 70 0), .int (zI cc), .int (zI a)]) (gQi Z B (fun r C1 => (cd_withdraw S cc a = 0 → r = zI (bcnt (fre (nS_withdraw S cc a) T cc.toNat) : Int) ∧ md Z B C1 (nS_withdraw S cc a) T 0) ∧ (¬ cd_withdraw S cc a = 0 → md Z B C1 S T (cd_withdraw S cc a : Int)) ∧ fmd C0 C1)) 0 0 (gA Z) := by
  refine g_ofI (cc := cX8_withdraw) (maxL := 3) (by decide) rfl (Nat.le_of_ble_eq_true rfl) ?_
  intro p e s m args below meth c Q X kret hW hS ls hl
  have hx := X.1.1
  have hb := X.1.2.1
  have hts := X.1.2.2.2.2
  have hl : lv_has ls 3 [(0, .ref (B 70 0)), (1, .int (zI cc)), (2, .int (zI a))] := hl
  obtain ⟨⟨mg, hm70⟩, ⟨F71, F72, hm71, hm72, hmt⟩, ⟨F73, hm73, ha73⟩, ⟨F74, hm74, ha74⟩, ⟨F75, hm75, ha75⟩, ⟨F76, hm76, ha76⟩, ⟨F77, hm77, ha77⟩, ⟨F78, hm78, ha78⟩, ⟨F79, hm79, ha79⟩, ⟨F80, hm80, ha80⟩, ⟨F81, hm81, ha81⟩, ⟨F82, hm82, ha82⟩, ⟨F83, hm83, ha83⟩, ⟨F84, hm84, ha84⟩, ⟨F85, hm85, ha85⟩, ⟨F86, hm86, ha86⟩, ⟨F87, hm87⟩, ⟨F88, hm88⟩, ⟨F89, hm89⟩, ⟨F90, hm90⟩⟩ := id hmd
  have hwn := hwf.n
  refine lv_aload_n hx hb dX8_withdraw_0 rfl (lv_at hl 0 rfl) ?_
  refine lv_iload_n hx hb dX8_withdraw_1 rfl (lv_at hl 1 rfl) ?_
  refine g_ci (g_runV X (k_X8_isChange (a := cc) hmd hwf (rcc)) (cwV 1 hts gX8_withdraw_X8_isChange rfl rfl rfl ⟨rfl, ds_X8_isChange⟩ ⟨Nat.le_of_ble_eq_true rfl, Nat.le_of_ble_eq_true rfl⟩) hW hS hm70 rfl rfl hl.1 rfl (Nat.le_of_ble_eq_true rfl) dX8_withdraw_2 ⟨Nat.le_of_ble_eq_true rfl, Nat.le_of_ble_eq_true rfl⟩) hS (fun r3 C1 H locs hp2 hW hS => ?_)
  obtain ⟨rfl, ehp2⟩ := hp2
  rw [ehp2] at hW
  refine z_ifb_eq (tgt := 15) hx hb dX8_withdraw_5 (by decide) (fun h_5 => ?_) (fun h_5 => ?_)
  · refine lv_aload_n hx hb dX8_withdraw_15 rfl (lv_at hl 0 rfl) ?_
    refine lv_iconst (v := zI (1)) hx hb dX8_withdraw_16 rfl ?_
    refine g_ci (g_runV X (k_X8_fail (v := 1) hmd) (cwV 1 hts gX8_withdraw_X8_fail rfl rfl rfl ⟨rfl, ds_X8_fail⟩ ⟨Nat.le_of_ble_eq_true rfl, Nat.le_of_ble_eq_true rfl⟩) hW hS hm70 rfl rfl hl.1 rfl (Nat.le_of_ble_eq_true rfl) dX8_withdraw_17 ⟨Nat.le_of_ble_eq_true rfl, Nat.le_of_ble_eq_true rfl⟩) hS (fun r6 C4 H locs hp5 hW hS => ?_)
    obtain ⟨e7, hmd8, hf9⟩ := hp5
    rw [e7]
    obtain ⟨⟨mgz8, hm70z8⟩, ⟨F71z8, F72z8, hm71z8, hm72z8, hmtz8⟩, ⟨F73z8, hm73z8, ha73z8⟩, ⟨F74z8, hm74z8, ha74z8⟩, ⟨F75z8, hm75z8, ha75z8⟩, ⟨F76z8, hm76z8, ha76z8⟩, ⟨F77z8, hm77z8, ha77z8⟩, ⟨F78z8, hm78z8, ha78z8⟩, ⟨F79z8, hm79z8, ha79z8⟩, ⟨F80z8, hm80z8, ha80z8⟩, ⟨F81z8, hm81z8, ha81z8⟩, ⟨F82z8, hm82z8, ha82z8⟩, ⟨F83z8, hm83z8, ha83z8⟩, ⟨F84z8, hm84z8, ha84z8⟩, ⟨F85z8, hm85z8, ha85z8⟩, ⟨F86z8, hm86z8, ha86z8⟩, ⟨F87z8, hm87z8⟩, ⟨F88z8, hm88z8⟩, ⟨F89z8, hm89z8⟩, ⟨F90z8, hm90z8⟩⟩ := id hmd8
    have hwnz8 := hwf.n
    have hcd : cd_withdraw S cc a = 1 := by unfold cd_withdraw; rw [if_pos (fun z => h_5 z.1)]
    exact kret _ _ _ _ _ _ _ _ (⟨fun z9 => absurd (z9.symm.trans hcd) (by decide), fun _ => by rw [hcd]; exact hmd8, fun k' i' h => (hf9 k' i' (by omega))⟩) hW hS (Nat.le_of_ble_eq_true rfl) (Nat.le_of_ble_eq_true rfl) dX8_withdraw_20
  · refine lv_iload_n hx hb dX8_withdraw_8 rfl (lv_at hl 2 rfl) ?_
    refine g_ci (g_runS X (k_X8_isUser (B := B) (C0 := C0) (a := a) (ra)) (va_cwS 1 hts gX8_withdraw_X8_isUser rfl rfl rfl ds_X8_isUser ⟨Nat.le_of_ble_eq_true rfl, Nat.le_of_ble_eq_true rfl⟩) hW hS rfl hl.1 rfl (Nat.le_of_ble_eq_true rfl) dX8_withdraw_9 ⟨Nat.le_of_ble_eq_true rfl, Nat.le_of_ble_eq_true rfl⟩) hS (fun r12 C10 H locs hp11 hW hS => ?_)
    obtain ⟨rfl, ehp11⟩ := hp11
    rw [ehp11] at hW
    refine z_ifb_ne (tgt := 21) hx hb dX8_withdraw_12 (by decide) (fun h_12 => ?_) (fun h_12 => ?_)
    · have hwi := hwf.ch (show cc.toNat < S 0 0 by omega)
      have hw7 := hwi.2.2.2.2.2 a.toNat (by omega)
      refine lv_aload_n hx hb dX8_withdraw_21 rfl (lv_at hl 0 rfl) ?_
      refine lv_iload_n hx hb dX8_withdraw_22 rfl (lv_at hl 1 rfl) ?_
      refine lv_iload_n hx hb dX8_withdraw_23 rfl (lv_at hl 2 rfl) ?_
      rw [show zI cc = zI ((cc.toNat : Nat) : Int) from congrArg zI (by omega)]
      rw [show zI a = zI ((a.toNat : Nat) : Int) from congrArg zI (by omega)]
      refine g_ci (g_runV X (k_X8_given (i := (cc.toNat)) (u := (a.toNat)) hmd hwf (show cc.toNat < S 0 0 by omega) (by omega)) (cwV 2 hts gX8_withdraw_X8_given rfl rfl rfl ⟨rfl, ds_X8_given⟩ ⟨Nat.le_of_ble_eq_true rfl, Nat.le_of_ble_eq_true rfl⟩) hW hS hm70 rfl rfl hl.1 rfl (Nat.le_of_ble_eq_true rfl) dX8_withdraw_24 ⟨Nat.le_of_ble_eq_true rfl, Nat.le_of_ble_eq_true rfl⟩) hS (fun r15 C13 H locs hp14 hW hS => ?_)
      obtain ⟨rfl, ehp14⟩ := hp14
      rw [ehp14] at hW
      refine z_if_ge (tgt := 36) hx hb dX8_withdraw_27 (by decide) (⟨by omega, by omega⟩) (fun h_27 => ?_) (fun h_27 => ?_)
      · refine lv_aload_n hx hb dX8_withdraw_36 rfl (lv_at hl 0 rfl) ?_
        refine g_get (ci := 8) X in_X8_withdraw_8 rfl hW hm70 14 (by decide) (hts _ (List.mem_of_getElem? (i := 1) rfl)) rfl dX8_withdraw_37 ?_
        refine lv_iload_n hx hb dX8_withdraw_40 rfl (lv_at hl 1 rfl) ?_
        refine z_iald X hW hm80 (by omega) (by omega) (by omega) dX8_withdraw_41 ?_
        rw [show F80 (cc).toNat = (S 5 cc.toNat : Int) from by rw [show (cc).toNat = cc.toNat by omega]; exact ha80 _ (by omega)]
        refine lv_iconst (v := zI (1)) hx hb dX8_withdraw_42 rfl ?_
        refine z_icmp_ne (tgt := 52) hx hb dX8_withdraw_43 (by decide) (⟨by omega, by omega⟩) (⟨by omega, by omega⟩) (fun h_43 => ?_) (fun h_43 => ?_)
        · refine lv_aload_n hx hb dX8_withdraw_52 rfl (lv_at hl 0 rfl) ?_
          refine lv_iconst (v := zI (0)) hx hb dX8_withdraw_53 rfl ?_
          refine g_put (ci := 8) (ty := .int) X in_X8_withdraw_8 tyX8 tyX8_ok nmX8 rfl hW hS hm70 0 (by decide) (hts _ (List.mem_of_getElem? (i := 2) rfl)) rfl (by decide +kernel) (rfl) (rfl) (Nat.le_of_ble_eq_true rfl) dX8_withdraw_54 (fun C16 H locs hs17 hn18 hW hS => ?_)
          refine lv_aload_n hx hb dX8_withdraw_57 rfl (lv_at hl 0 rfl) ?_
          refine g_get (ci := 8) X in_X8_withdraw_8 rfl hW hs17 16 (by decide) (hts _ (List.mem_of_getElem? (i := 3) rfl)) rfl dX8_withdraw_58 ?_
          refine lv_iconst (v := zI (5)) hx hb dX8_withdraw_61 rfl ?_
          refine lv_iload_n hx hb dX8_withdraw_62 rfl (lv_at hl 1 rfl) ?_
          refine z_imul hx hb dX8_withdraw_63 ?_
          refine lv_iload_n hx hb dX8_withdraw_64 rfl (lv_at hl 2 rfl) ?_
          refine z_iadd hx hb dX8_withdraw_65 ?_
          refine lv_iconst (v := zI (0)) hx hb dX8_withdraw_66 rfl ?_
          have f19 : C16 82 0 = some (gJ Z 20 F82) := ((hn18 82 0 (gk (by decide))).trans hm82)
          refine z_iast X hW hS f19 (by omega) (by omega) (by omega) dX8_withdraw_67 (fun C20 H locs hs21 hn22 hW hS => ?_)
          have so : ∀ k' i', ¬ (k' = 7 ∧ i' = 5 * cc.toNat + a.toNat) → nS_withdraw S cc a k' i' = S k' i' := fun k' i' a0 => by rw [nS_withdraw, su_n a0]
          have s00 : nS_withdraw S cc a 0 0 = S 0 0 := so 0 0 (by omega)
          have s01 : nS_withdraw S cc a 0 1 = S 0 1 := so 0 1 (by omega)
          have s02 : nS_withdraw S cc a 0 2 = S 0 2 := so 0 2 (by omega)
          have s03 : nS_withdraw S cc a 0 3 = S 0 3 := so 0 3 (by omega)
          have f23 : C20 70 0 = some (.inr (8, [.int (zI 0), .int (zI (S 0 0 : Int)), .int (zI (S 0 1 : Int)), .int (zI (S 0 2 : Int)), .int (zI (S 0 3 : Int)), .ref (B 71 0), .ref (B 72 0), .ref (B 73 0), .ref (B 74 0), .ref (B 75 0), .ref (B 76 0), .ref (B 77 0), .ref (B 78 0), .ref (B 79 0), .ref (B 80 0), .ref (B 81 0), .ref (B 82 0), .ref (B 83 0), .ref (B 84 0), .ref (B 85 0), .ref (B 86 0), .ref (B 87 0), .ref (B 88 0), .ref (B 89 0), .ref (B 90 0), .int (zI mg)])) := ((hn22 70 0 (gk (by decide))).trans hs17)
          have f24 : C20 71 0 = some (gJ Z 312 F71) := ((hn22 71 0 (gk (by decide))).trans ((hn18 71 0 (gk (by decide))).trans hm71))
          have f25 : C20 72 0 = some (gJ Z 26 F72) := ((hn22 72 0 (gk (by decide))).trans ((hn18 72 0 (gk (by decide))).trans hm72))
          have hmdN26 : md Z B C20 (nS_withdraw S cc a) T 0 := by
            refine md.new hmd (by rw [s00, s01, s02, s03]; exact f23) ⟨_, _, f24, f25, hmt⟩ (fun k n q hq hrow => ?_) (fun k' h1 h2 => ((hn22 (k') 0 (by omega)).trans ((hn18 (k') 0 (by omega)).trans rfl)))
            by_cases e0 : k = 82
            · subst e0
              obtain ⟨rfl, rfl⟩ := mrw_82 hq
              exact row.put (i := 5 * cc.toNat + a.toNat) (v := 0) ha82 (by have h9 := hs21; rwa [show (5 * cc + a).toNat = 5 * cc.toNat + a.toNat by omega] at h9) (by rw [nS_withdraw, su_s]; rfl) (fun j hj hne => so 7 j (by omega))
            · skip
              have hqb := mrw_b hq
              exact hrow.same ((hn22 k 0 (by omega)).trans ((hn18 k 0 (by omega)).trans rfl)) (fun j hj => so q j (by omega))
          have hwf2 : wf (nS_withdraw S cc a) T := wf.upd hwf (Or.inr (Or.inr rfl)) (by omega) (by omega) (fun _ c9 u9 e9 hu9 hc9 => by omega)
          have hi2 : cc.toNat < nS_withdraw S cc a 0 0 := by rw [s00]; omega
          refine lv_aload_n hx hb dX8_withdraw_68 rfl (lv_at hl 0 rfl) ?_
          refine lv_iload_n hx hb dX8_withdraw_69 rfl (lv_at hl 1 rfl) ?_
          rw [show zI cc = zI ((cc.toNat : Nat) : Int) from congrArg zI (by omega)]
          refine g_ci (g_runV X (k_X8_fresh (i := (cc.toNat)) hmdN26 hwf2 hi2) (cwV 1 hts gX8_withdraw_X8_fresh rfl rfl rfl ⟨rfl, ds_X8_fresh⟩ ⟨Nat.le_of_ble_eq_true rfl, Nat.le_of_ble_eq_true rfl⟩) hW hS f23 rfl rfl hl.1 rfl (Nat.le_of_ble_eq_true rfl) dX8_withdraw_70 ⟨Nat.le_of_ble_eq_true rfl, Nat.le_of_ble_eq_true rfl⟩) hS (fun r29 C27 H locs hp28 hW hS => ?_)
          obtain ⟨e30, hmd31, hf32⟩ := hp28
          rw [e30]
          obtain ⟨⟨mgz31, hm70z31⟩, ⟨F71z31, F72z31, hm71z31, hm72z31, hmtz31⟩, ⟨F73z31, hm73z31, ha73z31⟩, ⟨F74z31, hm74z31, ha74z31⟩, ⟨F75z31, hm75z31, ha75z31⟩, ⟨F76z31, hm76z31, ha76z31⟩, ⟨F77z31, hm77z31, ha77z31⟩, ⟨F78z31, hm78z31, ha78z31⟩, ⟨F79z31, hm79z31, ha79z31⟩, ⟨F80z31, hm80z31, ha80z31⟩, ⟨F81z31, hm81z31, ha81z31⟩, ⟨F82z31, hm82z31, ha82z31⟩, ⟨F83z31, hm83z31, ha83z31⟩, ⟨F84z31, hm84z31, ha84z31⟩, ⟨F85z31, hm85z31, ha85z31⟩, ⟨F86z31, hm86z31, ha86z31⟩, ⟨F87z31, hm87z31⟩, ⟨F88z31, hm88z31⟩, ⟨F89z31, hm89z31⟩, ⟨F90z31, hm90z31⟩⟩ := id hmd31
          have hwnz31 := hwf.n
          have hcd : cd_withdraw S cc a = 0 := by unfold cd_withdraw; rw [if_neg (fun z => z ⟨h_5, h_12⟩), if_neg (by omega), if_neg (by omega)]
          exact kret _ _ _ _ _ _ _ _ (⟨fun _ => ⟨rfl, hmd31⟩, fun z9 => absurd hcd z9, fun k' i' h => (hf32 k' i' (by omega)).trans ((hn22 k' i' (by omega)).trans ((hn18 k' i' (by omega))))⟩) hW hS (Nat.le_of_ble_eq_true rfl) (Nat.le_of_ble_eq_true rfl) dX8_withdraw_73
        · refine lv_aload_n hx hb dX8_withdraw_46 rfl (lv_at hl 0 rfl) ?_
          refine lv_iconst (v := zI (3)) hx hb dX8_withdraw_47 rfl ?_
          refine g_ci (g_runV X (k_X8_fail (v := 3) hmd) (cwV 1 hts gX8_withdraw_X8_fail rfl rfl rfl ⟨rfl, ds_X8_fail⟩ ⟨Nat.le_of_ble_eq_true rfl, Nat.le_of_ble_eq_true rfl⟩) hW hS hm70 rfl rfl hl.1 rfl (Nat.le_of_ble_eq_true rfl) dX8_withdraw_48 ⟨Nat.le_of_ble_eq_true rfl, Nat.le_of_ble_eq_true rfl⟩) hS (fun r35 C33 H locs hp34 hW hS => ?_)
          obtain ⟨e36, hmd37, hf38⟩ := hp34
          rw [e36]
          obtain ⟨⟨mgz37, hm70z37⟩, ⟨F71z37, F72z37, hm71z37, hm72z37, hmtz37⟩, ⟨F73z37, hm73z37, ha73z37⟩, ⟨F74z37, hm74z37, ha74z37⟩, ⟨F75z37, hm75z37, ha75z37⟩, ⟨F76z37, hm76z37, ha76z37⟩, ⟨F77z37, hm77z37, ha77z37⟩, ⟨F78z37, hm78z37, ha78z37⟩, ⟨F79z37, hm79z37, ha79z37⟩, ⟨F80z37, hm80z37, ha80z37⟩, ⟨F81z37, hm81z37, ha81z37⟩, ⟨F82z37, hm82z37, ha82z37⟩, ⟨F83z37, hm83z37, ha83z37⟩, ⟨F84z37, hm84z37, ha84z37⟩, ⟨F85z37, hm85z37, ha85z37⟩, ⟨F86z37, hm86z37, ha86z37⟩, ⟨F87z37, hm87z37⟩, ⟨F88z37, hm88z37⟩, ⟨F89z37, hm89z37⟩, ⟨F90z37, hm90z37⟩⟩ := id hmd37
          have hwnz37 := hwf.n
          have hcd : cd_withdraw S cc a = 3 := by unfold cd_withdraw; rw [if_neg (fun z => z ⟨h_5, h_12⟩), if_neg (by omega), if_pos (by omega)]
          exact kret _ _ _ _ _ _ _ _ (⟨fun z9 => absurd (z9.symm.trans hcd) (by decide), fun _ => by rw [hcd]; exact hmd37, fun k' i' h => (hf38 k' i' (by omega))⟩) hW hS (Nat.le_of_ble_eq_true rfl) (Nat.le_of_ble_eq_true rfl) dX8_withdraw_51
      · refine lv_aload_n hx hb dX8_withdraw_30 rfl (lv_at hl 0 rfl) ?_
        refine lv_iconst (v := zI (2)) hx hb dX8_withdraw_31 rfl ?_
        refine g_ci (g_runV X (k_X8_fail (v := 2) hmd) (cwV 1 hts gX8_withdraw_X8_fail rfl rfl rfl ⟨rfl, ds_X8_fail⟩ ⟨Nat.le_of_ble_eq_true rfl, Nat.le_of_ble_eq_true rfl⟩) hW hS hm70 rfl rfl hl.1 rfl (Nat.le_of_ble_eq_true rfl) dX8_withdraw_32 ⟨Nat.le_of_ble_eq_true rfl, Nat.le_of_ble_eq_true rfl⟩) hS (fun r41 C39 H locs hp40 hW hS => ?_)
        obtain ⟨e42, hmd43, hf44⟩ := hp40
        rw [e42]
        obtain ⟨⟨mgz43, hm70z43⟩, ⟨F71z43, F72z43, hm71z43, hm72z43, hmtz43⟩, ⟨F73z43, hm73z43, ha73z43⟩, ⟨F74z43, hm74z43, ha74z43⟩, ⟨F75z43, hm75z43, ha75z43⟩, ⟨F76z43, hm76z43, ha76z43⟩, ⟨F77z43, hm77z43, ha77z43⟩, ⟨F78z43, hm78z43, ha78z43⟩, ⟨F79z43, hm79z43, ha79z43⟩, ⟨F80z43, hm80z43, ha80z43⟩, ⟨F81z43, hm81z43, ha81z43⟩, ⟨F82z43, hm82z43, ha82z43⟩, ⟨F83z43, hm83z43, ha83z43⟩, ⟨F84z43, hm84z43, ha84z43⟩, ⟨F85z43, hm85z43, ha85z43⟩, ⟨F86z43, hm86z43, ha86z43⟩, ⟨F87z43, hm87z43⟩, ⟨F88z43, hm88z43⟩, ⟨F89z43, hm89z43⟩, ⟨F90z43, hm90z43⟩⟩ := id hmd43
        have hwnz43 := hwf.n
        have hcd : cd_withdraw S cc a = 2 := by unfold cd_withdraw; rw [if_neg (fun z => z ⟨h_5, h_12⟩), if_pos (by omega)]
        exact kret _ _ _ _ _ _ _ _ (⟨fun z9 => absurd (z9.symm.trans hcd) (by decide), fun _ => by rw [hcd]; exact hmd43, fun k' i' h => (hf44 k' i' (by omega))⟩) hW hS (Nat.le_of_ble_eq_true rfl) (Nat.le_of_ble_eq_true rfl) dX8_withdraw_35
    · refine lv_aload_n hx hb dX8_withdraw_15 rfl (lv_at hl 0 rfl) ?_
      refine lv_iconst (v := zI (1)) hx hb dX8_withdraw_16 rfl ?_
      refine g_ci (g_runV X (k_X8_fail (v := 1) hmd) (cwV 1 hts gX8_withdraw_X8_fail rfl rfl rfl ⟨rfl, ds_X8_fail⟩ ⟨Nat.le_of_ble_eq_true rfl, Nat.le_of_ble_eq_true rfl⟩) hW hS hm70 rfl rfl hl.1 rfl (Nat.le_of_ble_eq_true rfl) dX8_withdraw_17 ⟨Nat.le_of_ble_eq_true rfl, Nat.le_of_ble_eq_true rfl⟩) hS (fun r47 C45 H locs hp46 hW hS => ?_)
      obtain ⟨e48, hmd49, hf50⟩ := hp46
      rw [e48]
      obtain ⟨⟨mgz49, hm70z49⟩, ⟨F71z49, F72z49, hm71z49, hm72z49, hmtz49⟩, ⟨F73z49, hm73z49, ha73z49⟩, ⟨F74z49, hm74z49, ha74z49⟩, ⟨F75z49, hm75z49, ha75z49⟩, ⟨F76z49, hm76z49, ha76z49⟩, ⟨F77z49, hm77z49, ha77z49⟩, ⟨F78z49, hm78z49, ha78z49⟩, ⟨F79z49, hm79z49, ha79z49⟩, ⟨F80z49, hm80z49, ha80z49⟩, ⟨F81z49, hm81z49, ha81z49⟩, ⟨F82z49, hm82z49, ha82z49⟩, ⟨F83z49, hm83z49, ha83z49⟩, ⟨F84z49, hm84z49, ha84z49⟩, ⟨F85z49, hm85z49, ha85z49⟩, ⟨F86z49, hm86z49, ha86z49⟩, ⟨F87z49, hm87z49⟩, ⟨F88z49, hm88z49⟩, ⟨F89z49, hm89z49⟩, ⟨F90z49, hm90z49⟩⟩ := id hmd49
      have hwnz49 := hwf.n
      have hcd : cd_withdraw S cc a = 1 := by unfold cd_withdraw; rw [if_pos (fun z => h_12 z.2)]
      exact kret _ _ _ _ _ _ _ _ (⟨fun z9 => absurd (z9.symm.trans hcd) (by decide), fun _ => by rw [hcd]; exact hmd49, fun k' i' h => (hf50 k' i' (by omega))⟩) hW hS (Nat.le_of_ble_eq_true rfl) (Nat.le_of_ble_eq_true rfl) dX8_withdraw_20

theorem ds_X8_land : yX8_land.cls ≠ "java/lang/invoke/MethodHandle" ∧ yX8_land.cls ≠ "java/lang/invoke/VarHandle" ∧ (parseMethodDescriptor yX8_land.desc).map (fun d => d.parameters.length) = some 1 := by decide +kernel
theorem in_X8_land_8 : ∀ w ∈ wsX80, w ∈ wsX8_land := by decide +kernel
def rX8_land : Room := { frames := 6, cells := 0, slots := 0, locals := 140 }
set_option maxHeartbeats 4000000 in
set_option maxRecDepth 100000 in
theorem k_X8_land {l : Launch} {Z : gZ} {B : gB} {C0 : gC} {S : gS} {T : gTx} {th : Int} {cc : Int} (hmd : md Z B C0 S T th) (hwf : wf S T) (rcc : zr cc) : Met l yX8_land wsX8_land rX8_land (gPc Z B C0 [.ref (B 70 0), .int (zI cc)]) (gQi Z B (fun r C1 => (cd_land S T cc = 0 → r = zI ((ldT S T cc.toNat 0).length : Int) ∧ md Z B C1 (ldS S cc.toNat) (ldT S T cc.toNat) 0) ∧ (¬ cd_land S T cc = 0 → md Z B C1 S T (cd_land S T cc : Int)) ∧ fmd C0 C1)) 0 0 (gA Z) := by
  refine g_ofI (cc := cX8_land) (maxL := 2) (by decide) rfl (Nat.le_of_ble_eq_true rfl) ?_
  intro p e s m args below meth c Q X kret hW hS ls hl
  have hx := X.1.1
  have hb := X.1.2.1
  have hts := X.1.2.2.2.2
  have hl : lv_has ls 2 [(0, .ref (B 70 0)), (1, .int (zI cc))] := hl
  obtain ⟨⟨mg, hm70⟩, ⟨F71, F72, hm71, hm72, hmt⟩, ⟨F73, hm73, ha73⟩, ⟨F74, hm74, ha74⟩, ⟨F75, hm75, ha75⟩, ⟨F76, hm76, ha76⟩, ⟨F77, hm77, ha77⟩, ⟨F78, hm78, ha78⟩, ⟨F79, hm79, ha79⟩, ⟨F80, hm80, ha80⟩, ⟨F81, hm81, ha81⟩, ⟨F82, hm82, ha82⟩, ⟨F83, hm83, ha83⟩, ⟨F84, hm84, ha84⟩, ⟨F85, hm85, ha85⟩, ⟨F86, hm86, ha86⟩, ⟨F87, hm87⟩, ⟨F88, hm88⟩, ⟨F89, hm89⟩, ⟨F90, hm90⟩⟩ := id hmd
  have hwn := hwf.n
  refine lv_aload_n hx hb dX8_land_0 rfl (lv_at hl 0 rfl) ?_
  refine lv_iload_n hx hb dX8_land_1 rfl (lv_at hl 1 rfl) ?_
  refine g_ci (g_runV X (k_X8_isChange (a := cc) hmd hwf (rcc)) (cwV 1 hts gX8_land_X8_isChange rfl rfl rfl ⟨rfl, ds_X8_isChange⟩ ⟨Nat.le_of_ble_eq_true rfl, Nat.le_of_ble_eq_true rfl⟩) hW hS hm70 rfl rfl hl.1 rfl (Nat.le_of_ble_eq_true rfl) dX8_land_2 ⟨Nat.le_of_ble_eq_true rfl, Nat.le_of_ble_eq_true rfl⟩) hS (fun r3 C1 H locs hp2 hW hS => ?_)
  obtain ⟨rfl, ehp2⟩ := hp2
  rw [ehp2] at hW
  refine z_ifb_ne (tgt := 14) hx hb dX8_land_5 (by decide) (fun h_5 => ?_) (fun h_5 => ?_)
  · refine lv_aload_n hx hb dX8_land_14 rfl (lv_at hl 0 rfl) ?_
    refine lv_iload_n hx hb dX8_land_15 rfl (lv_at hl 1 rfl) ?_
    rw [show zI cc = zI ((cc.toNat : Nat) : Int) from congrArg zI (by omega)]
    refine g_ci (g_runV X (k_X8_against (i := (cc.toNat)) hmd hwf (show cc.toNat < S 0 0 by omega)) (cwV 1 hts gX8_land_X8_against rfl rfl rfl ⟨rfl, ds_X8_against⟩ ⟨Nat.le_of_ble_eq_true rfl, Nat.le_of_ble_eq_true rfl⟩) hW hS hm70 rfl rfl hl.1 rfl (Nat.le_of_ble_eq_true rfl) dX8_land_16 ⟨Nat.le_of_ble_eq_true rfl, Nat.le_of_ble_eq_true rfl⟩) hS (fun r6 C4 H locs hp5 hW hS => ?_)
    obtain ⟨e7, hmd8, hf9, hq10⟩ := hp5
    rw [e7]
    obtain ⟨⟨mgz8, hm70z8⟩, ⟨F71z8, F72z8, hm71z8, hm72z8, hmtz8⟩, ⟨F73z8, hm73z8, ha73z8⟩, ⟨F74z8, hm74z8, ha74z8⟩, ⟨F75z8, hm75z8, ha75z8⟩, ⟨F76z8, hm76z8, ha76z8⟩, ⟨F77z8, hm77z8, ha77z8⟩, ⟨F78z8, hm78z8, ha78z8⟩, ⟨F79z8, hm79z8, ha79z8⟩, ⟨F80z8, hm80z8, ha80z8⟩, ⟨F81z8, hm81z8, ha81z8⟩, ⟨F82z8, hm82z8, ha82z8⟩, ⟨F83z8, hm83z8, ha83z8⟩, ⟨F84z8, hm84z8, ha84z8⟩, ⟨F85z8, hm85z8, ha85z8⟩, ⟨F86z8, hm86z8, ha86z8⟩, ⟨F87z8, hm87z8⟩, ⟨F88z8, hm88z8⟩, ⟨F89z8, hm89z8⟩, ⟨F90z8, hm90z8⟩⟩ := id hmd8
    have hwnz8 := hwf.n
    have hag := ags_cases S T cc.toNat
    refine z_if_eq (tgt := 28) hx hb dX8_land_19 (by decide) (⟨by omega, by omega⟩) (fun h_19 => ?_) (fun h_19 => ?_)
    · have hrs : rsn S T cc.toNat = 32 := ags_z (by omega)
      obtain ⟨x, hgx, hx12, hli⟩ := hq10 hrs
      have hob := hli.1
      refine lv_aload_n hx hb dX8_land_28 rfl (lv_at hl 0 rfl) ?_
      refine lv_iconst (v := zI (0)) hx hb dX8_land_29 rfl ?_
      refine g_put (ci := 8) (ty := .int) X in_X8_land_8 tyX8 tyX8_ok nmX8 rfl hW hS hob 0 (by decide) (hts _ (List.mem_of_getElem? (i := 1) rfl)) rfl (by decide +kernel) (rfl) (rfl) (Nat.le_of_ble_eq_true rfl) dX8_land_30 (fun C11 H locs hs12 hn13 hW hS => ?_)
      have hli2 := lies.thr hli hs12 ((hn13 71 0 (gk (by decide))).trans rfl) ((hn13 72 0 (gk (by decide))).trans rfl)
      have hmd14 := md.thrown hmd8 hs12 (fun k' h1 h2 => ((hn13 (k') 0 (by omega)).trans rfl))
      refine lv_aload_n hx hb dX8_land_33 rfl (lv_at hl 0 rfl) ?_
      refine lv_iload_n hx hb dX8_land_34 rfl (lv_at hl 1 rfl) ?_
      rw [show zI cc = zI ((cc.toNat : Nat) : Int) from congrArg zI (by omega)]
      refine g_cv (g_runV X (k_X8_lands (i := (cc.toNat)) (x := x) hmd14 hwf (show cc.toNat < S 0 0 by omega) (rsn_ok hrs).1 hgx hx12 hli2) (cwV 1 hts gX8_land_X8_lands rfl rfl rfl ⟨rfl, ds_X8_lands⟩ ⟨Nat.le_of_ble_eq_true rfl, Nat.le_of_ble_eq_true rfl⟩) hW hS hs12 rfl rfl hl.1 rfl (Nat.le_of_ble_eq_true rfl) dX8_land_35 ⟨Nat.le_of_ble_eq_true rfl, Nat.le_of_ble_eq_true rfl⟩) hS (fun C15 H locs hp16 hW hS => ?_)
      obtain ⟨hmd17, hf18⟩ := hp16
      obtain ⟨⟨mgy, hm70y⟩, ⟨F71y, F72y, hm71y, hm72y, hmty⟩, -⟩ := id hmd17
      refine lv_aload_n hx hb dX8_land_38 rfl (lv_at hl 0 rfl) ?_
      refine g_get (ci := 8) X in_X8_land_8 rfl hW hm70y 6 (by decide) (hts _ (List.mem_of_getElem? (i := 2) rfl)) rfl dX8_land_39 ?_
      refine lv_iconst (v := zI (0)) hx hb dX8_land_42 rfl ?_
      refine z_iald X hW hm72y (by omega) (by omega) (by omega) dX8_land_43 ?_
      rw [show F72y (0 : Int).toNat = ((ldT S T cc.toNat 0).length : Int) from hmty.1 0 (by omega)]
      have hcd : cd_land S T cc = 0 := by unfold cd_land; rw [if_neg (fun z => z h_5), if_neg (fun z => z hrs)]
      exact kret _ _ _ _ _ _ _ _ (⟨fun _ => ⟨rfl, hmd17⟩, fun z9 => absurd hcd z9, fun k' i' h => (hf18 k' i' (by omega)).trans ((hn13 k' i' (by omega)).trans ((hf9 k' i' (by omega))))⟩) hW hS (Nat.le_of_ble_eq_true rfl) (Nat.le_of_ble_eq_true rfl) dX8_land_44
    · refine lv_aload_n hx hb dX8_land_22 rfl (lv_at hl 0 rfl) ?_
      refine lv_iconst (v := zI (2)) hx hb dX8_land_23 rfl ?_
      refine g_ci (g_runV X (k_X8_fail (v := 2) hmd8) (cwV 1 hts gX8_land_X8_fail rfl rfl rfl ⟨rfl, ds_X8_fail⟩ ⟨Nat.le_of_ble_eq_true rfl, Nat.le_of_ble_eq_true rfl⟩) hW hS hm70z8 rfl rfl hl.1 rfl (Nat.le_of_ble_eq_true rfl) dX8_land_24 ⟨Nat.le_of_ble_eq_true rfl, Nat.le_of_ble_eq_true rfl⟩) hS (fun r21 C19 H locs hp20 hW hS => ?_)
      obtain ⟨e22, hmd23, hf24⟩ := hp20
      rw [e22]
      obtain ⟨⟨mgz23, hm70z23⟩, ⟨F71z23, F72z23, hm71z23, hm72z23, hmtz23⟩, ⟨F73z23, hm73z23, ha73z23⟩, ⟨F74z23, hm74z23, ha74z23⟩, ⟨F75z23, hm75z23, ha75z23⟩, ⟨F76z23, hm76z23, ha76z23⟩, ⟨F77z23, hm77z23, ha77z23⟩, ⟨F78z23, hm78z23, ha78z23⟩, ⟨F79z23, hm79z23, ha79z23⟩, ⟨F80z23, hm80z23, ha80z23⟩, ⟨F81z23, hm81z23, ha81z23⟩, ⟨F82z23, hm82z23, ha82z23⟩, ⟨F83z23, hm83z23, ha83z23⟩, ⟨F84z23, hm84z23, ha84z23⟩, ⟨F85z23, hm85z23, ha85z23⟩, ⟨F86z23, hm86z23, ha86z23⟩, ⟨F87z23, hm87z23⟩, ⟨F88z23, hm88z23⟩, ⟨F89z23, hm89z23⟩, ⟨F90z23, hm90z23⟩⟩ := id hmd23
      have hwnz23 := hwf.n
      have hcd : cd_land S T cc = 2 := by unfold cd_land; rw [if_neg (fun z => z h_5), if_pos (ags_nz (by omega))]
      exact kret _ _ _ _ _ _ _ _ (⟨fun z9 => absurd (z9.symm.trans hcd) (by decide), fun _ => by rw [hcd]; exact hmd23, fun k' i' h => (hf24 k' i' (by omega)).trans ((hf9 k' i' (by omega)))⟩) hW hS (Nat.le_of_ble_eq_true rfl) (Nat.le_of_ble_eq_true rfl) dX8_land_27
  · refine lv_aload_n hx hb dX8_land_8 rfl (lv_at hl 0 rfl) ?_
    refine lv_iconst (v := zI (1)) hx hb dX8_land_9 rfl ?_
    refine g_ci (g_runV X (k_X8_fail (v := 1) hmd) (cwV 1 hts gX8_land_X8_fail rfl rfl rfl ⟨rfl, ds_X8_fail⟩ ⟨Nat.le_of_ble_eq_true rfl, Nat.le_of_ble_eq_true rfl⟩) hW hS hm70 rfl rfl hl.1 rfl (Nat.le_of_ble_eq_true rfl) dX8_land_10 ⟨Nat.le_of_ble_eq_true rfl, Nat.le_of_ble_eq_true rfl⟩) hS (fun r27 C25 H locs hp26 hW hS => ?_)
    obtain ⟨e28, hmd29, hf30⟩ := hp26
    rw [e28]
    obtain ⟨⟨mgz29, hm70z29⟩, ⟨F71z29, F72z29, hm71z29, hm72z29, hmtz29⟩, ⟨F73z29, hm73z29, ha73z29⟩, ⟨F74z29, hm74z29, ha74z29⟩, ⟨F75z29, hm75z29, ha75z29⟩, ⟨F76z29, hm76z29, ha76z29⟩, ⟨F77z29, hm77z29, ha77z29⟩, ⟨F78z29, hm78z29, ha78z29⟩, ⟨F79z29, hm79z29, ha79z29⟩, ⟨F80z29, hm80z29, ha80z29⟩, ⟨F81z29, hm81z29, ha81z29⟩, ⟨F82z29, hm82z29, ha82z29⟩, ⟨F83z29, hm83z29, ha83z29⟩, ⟨F84z29, hm84z29, ha84z29⟩, ⟨F85z29, hm85z29, ha85z29⟩, ⟨F86z29, hm86z29, ha86z29⟩, ⟨F87z29, hm87z29⟩, ⟨F88z29, hm88z29⟩, ⟨F89z29, hm89z29⟩, ⟨F90z29, hm90z29⟩⟩ := id hmd29
    have hwnz29 := hwf.n
    have hcd : cd_land S T cc = 1 := by unfold cd_land; rw [if_pos (h_5)]
    exact kret _ _ _ _ _ _ _ _ (⟨fun z9 => absurd (z9.symm.trans hcd) (by decide), fun _ => by rw [hcd]; exact hmd29, fun k' i' h => (hf30 k' i' (by omega))⟩) hW hS (Nat.le_of_ble_eq_true rfl) (Nat.le_of_ble_eq_true rfl) dX8_land_13

theorem ds_X8_landAll : yX8_landAll.cls ≠ "java/lang/invoke/MethodHandle" ∧ yX8_landAll.cls ≠ "java/lang/invoke/VarHandle" ∧ (parseMethodDescriptor yX8_landAll.desc).map (fun d => d.parameters.length) = some 0 := by decide +kernel
theorem in_X8_landAll_8 : ∀ w ∈ wsX80, w ∈ wsX8_landAll := by decide +kernel
def rX8_landAll : Room := { frames := 6, cells := 0, slots := 0, locals := 140 }
set_option maxHeartbeats 4000000 in
set_option maxRecDepth 100000 in
theorem k_X8_landAll {l : Launch} {Z : gZ} {B : gB} {C0 : gC} {S : gS} {T : gTx} {th : Int} (hmd : md Z B C0 S T th) (hwf : wf S T) : Met l yX8_landAll wsX8_landAll rX8_landAll (gPc Z B C0 [.ref (B 70 0)]) (gQi Z B (fun r C1 => r = zI (((lnd 4 (S, T)).1 0 3 : Int) - (S 0 3 : Int)) ∧ md Z B C1 (lnd 4 (S, T)).1 (lnd 4 (S, T)).2 0 ∧ fmd C0 C1)) 0 0 (gA Z) := by
  refine g_ofI (cc := cX8_landAll) (maxL := 4) (by decide) rfl (Nat.le_of_ble_eq_true rfl) ?_
  intro p e s m args below meth c Q X kret hW hS ls hl
  have hx := X.1.1
  have hb := X.1.2.1
  have hts := X.1.2.2.2.2
  have hl : lv_has ls 4 [(0, .ref (B 70 0))] := hl
  obtain ⟨⟨mg, hm70⟩, ⟨F71, F72, hm71, hm72, hmt⟩, ⟨F73, hm73, ha73⟩, ⟨F74, hm74, ha74⟩, ⟨F75, hm75, ha75⟩, ⟨F76, hm76, ha76⟩, ⟨F77, hm77, ha77⟩, ⟨F78, hm78, ha78⟩, ⟨F79, hm79, ha79⟩, ⟨F80, hm80, ha80⟩, ⟨F81, hm81, ha81⟩, ⟨F82, hm82, ha82⟩, ⟨F83, hm83, ha83⟩, ⟨F84, hm84, ha84⟩, ⟨F85, hm85, ha85⟩, ⟨F86, hm86, ha86⟩, ⟨F87, hm87⟩, ⟨F88, hm88⟩, ⟨F89, hm89⟩, ⟨F90, hm90⟩⟩ := id hmd
  have hwn := hwf.n
  refine lv_aload_n hx hb dX8_landAll_0 rfl (lv_at hl 0 rfl) ?_
  refine lv_iconst (v := zI (0)) hx hb dX8_landAll_1 rfl ?_
  refine g_put (ci := 8) (ty := .int) X in_X8_landAll_8 tyX8 tyX8_ok nmX8 rfl hW hS hm70 0 (by decide) (hts _ (List.mem_of_getElem? (i := 1) rfl)) rfl (by decide +kernel) (rfl) (rfl) (Nat.le_of_ble_eq_true rfl) dX8_landAll_2 (fun C1 H locs hs2 hn3 hW hS => ?_)
  refine lv_iconst (v := zI (0)) hx hb dX8_landAll_5 rfl ?_
  refine lv_istore_n (lv' := [(1, .int (zI 0)), (0, .ref (B 70 0))]) hx hb dX8_landAll_6 rfl hl (by decide) rfl (fun ls hl => ?_)
  refine lv_iconst (v := zI (0)) hx hb dX8_landAll_7 rfl ?_
  refine lv_istore_n (lv' := [(2, .int (zI 0)), (1, .int (zI 0)), (0, .ref (B 70 0))]) hx hb dX8_landAll_8 rfl hl (by decide) rfl (fun ls hl => ?_)
  have hl : lv_has ls 4 [(2, .int (zI 0)), (1, .int (zI ((S 0 3 : Int) - (S 0 3 : Int)))), (0, .ref (B 70 0))] := by rw [show (S 0 3 : Int) - (S 0 3 : Int) = 0 by omega]; exact hl
  have hmd4 := md.thrown hmd hs2 (fun k' h1 h2 => ((hn3 (k') 0 (by omega)).trans rfl))
  have lp9 : ∀ (n : Nat) (bb0 : Int) (j : Nat) (S1 : gS) (T1 : gTx) (Cl : gC) (H : Heap) (locs : List Loc), (5 * (4 - j) + (bb0 + 1).toNat < n) → (j ≤ 4) → ((0 ≤ bb0 ∧ bb0 ≤ 3) ∨ (bb0 = -1 ∧ bst S1 T1 (S1 0 0) = none)) → (S 0 3 + j = S1 0 3) → (lnd (4 - j) (S1, T1) = lnd 4 (S, T)) → (wf S1 T1) → (md Z B Cl S1 T1 0) → (fmd C0 Cl) → gw Z B Cl H → va_S (gA Z) s.heap H locs → ∀ ls : Array Slot, lv_has ls 4 [(0, .ref (B 70 0)), (1, .int (zI ((S1 0 3 : Int) - (S 0 3 : Int)))), (2, .int (zI bb0))] → W p l e rX8_landAll s m args below meth c H locs 0 0 Q (F0 m 9 ls []) := by
    intro n
    induction n with
    | zero =>
      intro bb0 j S1 T1 Cl H locs hm hjj hbb h03 hln hwf1 hmdo hfo hW hS ls hl
      exact absurd hm (by omega)
    | succ n ih9 =>
      intro bb0 j S1 T1 Cl H locs hm hjj hbb h03 hln hwf1 hmdo hfo hW hS ls hl
      obtain ⟨⟨mgo, hm70o⟩, ⟨F71o, F72o, hm71o, hm72o, hmto⟩, ⟨F73o, hm73o, ha73o⟩, ⟨F74o, hm74o, ha74o⟩, ⟨F75o, hm75o, ha75o⟩, ⟨F76o, hm76o, ha76o⟩, ⟨F77o, hm77o, ha77o⟩, ⟨F78o, hm78o, ha78o⟩, ⟨F79o, hm79o, ha79o⟩, ⟨F80o, hm80o, ha80o⟩, ⟨F81o, hm81o, ha81o⟩, ⟨F82o, hm82o, ha82o⟩, ⟨F83o, hm83o, ha83o⟩, ⟨F84o, hm84o, ha84o⟩, ⟨F85o, hm85o, ha85o⟩, ⟨F86o, hm86o, ha86o⟩, ⟨F87o, hm87o⟩, ⟨F88o, hm88o⟩, ⟨F89o, hm89o⟩, ⟨F90o, hm90o⟩⟩ := id hmdo
      have hwno := hwf1.n
      have hw13 := hwf1.ld
      refine lv_iload_n hx hb dX8_landAll_9 rfl (lv_at hl 2 rfl) ?_
      refine z_if_lt (tgt := 84) hx hb dX8_landAll_10 (by decide) (⟨by omega, by omega⟩) (fun h_10 => ?_) (fun h_10 => ?_)
      · refine lv_iload_n hx hb dX8_landAll_84 rfl (lv_at hl 1 rfl) ?_
        have hbn : bst S1 T1 (S1 0 0) = none := by rcases hbb with h9 | h9; omega; exact h9.2
        have hend : lnd 4 (S, T) = (S1, T1) := by rw [← hln, lnd_n hbn]
        exact kret _ _ _ _ _ _ _ _ (⟨by rw [hend], by rw [hend]; exact hmdo, hfo⟩) hW hS (Nat.le_of_ble_eq_true rfl) (Nat.le_of_ble_eq_true rfl) dX8_landAll_85
      · refine lv_iconst (v := zI (-1)) hx hb dX8_landAll_13 rfl ?_
        refine lv_istore_n (lv' := [(2, .int (zI (-1))), (0, .ref (B 70 0)), (1, .int (zI ((S1 0 3 : Int) - (S 0 3 : Int))))]) hx hb dX8_landAll_14 rfl hl (by decide) rfl (fun ls hl => ?_)
        refine lv_iconst (v := zI (0)) hx hb dX8_landAll_15 rfl ?_
        refine lv_istore_n (lv' := [(3, .int (zI 0)), (2, .int (zI (-1))), (0, .ref (B 70 0)), (1, .int (zI ((S1 0 3 : Int) - (S 0 3 : Int))))]) hx hb dX8_landAll_16 rfl hl (by decide) rfl (fun ls hl => ?_)
        have hl : lv_has ls 4 [(3, .int (zI 0)), (2, .int (zI (enc (bst S1 T1 0)))), (0, .ref (B 70 0)), (1, .int (zI ((S1 0 3 : Int) - (S 0 3 : Int))))] := hl
        have lp17 : ∀ (n : Nat) (k : Nat) (Cl : gC) (H : Heap) (locs : List Loc), (S1 0 0 - k < n) → (k ≤ S1 0 0) → (md Z B Cl S1 T1 0) → (fmd C0 Cl) → gw Z B Cl H → va_S (gA Z) s.heap H locs → ∀ ls : Array Slot, lv_has ls 4 [(0, .ref (B 70 0)), (1, .int (zI ((S1 0 3 : Int) - (S 0 3 : Int)))), (2, .int (zI (enc (bst S1 T1 k)))), (3, .int (zI (k : Int)))] → W p l e rX8_landAll s m args below meth c H locs 0 0 Q (F0 m 17 ls []) := by
          intro n
          induction n with
          | zero =>
            intro k Cl H locs hm hk4 hmdl hfl hW hS ls hl
            exact absurd hm (by omega)
          | succ n ih17 =>
            intro k Cl H locs hm hk4 hmdl hfl hW hS ls hl
            obtain ⟨⟨mgl, hm70l⟩, ⟨F71l, F72l, hm71l, hm72l, hmtl⟩, ⟨F73l, hm73l, ha73l⟩, ⟨F74l, hm74l, ha74l⟩, ⟨F75l, hm75l, ha75l⟩, ⟨F76l, hm76l, ha76l⟩, ⟨F77l, hm77l, ha77l⟩, ⟨F78l, hm78l, ha78l⟩, ⟨F79l, hm79l, ha79l⟩, ⟨F80l, hm80l, ha80l⟩, ⟨F81l, hm81l, ha81l⟩, ⟨F82l, hm82l, ha82l⟩, ⟨F83l, hm83l, ha83l⟩, ⟨F84l, hm84l, ha84l⟩, ⟨F85l, hm85l, ha85l⟩, ⟨F86l, hm86l, ha86l⟩, ⟨F87l, hm87l⟩, ⟨F88l, hm88l⟩, ⟨F89l, hm89l⟩, ⟨F90l, hm90l⟩⟩ := id hmdl
            have hwnl := hwf1.n
            refine lv_iload_n hx hb dX8_landAll_17 rfl (lv_at hl 3 rfl) ?_
            refine lv_aload_n hx hb dX8_landAll_18 rfl (lv_at hl 0 rfl) ?_
            refine g_get (ci := 8) X in_X8_landAll_8 rfl hW hm70l 1 (by decide) (hts _ (List.mem_of_getElem? (i := 2) rfl)) rfl dX8_landAll_19 ?_
            refine z_icmp_ge (tgt := 60) hx hb dX8_landAll_22 (by decide) (⟨by omega, by omega⟩) (⟨by omega, by omega⟩) (fun h_22 => ?_) (fun h_22 => ?_)
            · have hk0 : k = S1 0 0 := by omega
              subst hk0
              rcases hbo : bst S1 T1 (S1 0 0) with _ | bb
              · rw [hbo] at hl
                have hl : lv_has ls 4 [(0, .ref (B 70 0)), (1, .int (zI ((S1 0 3 : Int) - (S 0 3 : Int)))), (2, .int (zI (-1))), (3, .int (zI (S1 0 0 : Int)))] := hl
                refine lv_iload_n hx hb dX8_landAll_60 rfl (lv_at hl 2 rfl) ?_
                refine z_if_ge (tgt := 67) hx hb dX8_landAll_61 (by decide) (⟨by omega, by omega⟩) (fun h_61 => absurd h_61 (by omega)) (fun h_61 => ?_)
                refine lv_goto (tgt := 9) hx hb dX8_landAll_64 (by decide) ?_
                exact ih9 (-1) j S1 T1 _ _ _ (by omega) (by omega) (Or.inr ⟨rfl, hbo⟩) (by omega) hln hwf1 hmdl hfl hW hS _ (lv_sub hl [0, 1, 2] rfl)
              · rw [hbo] at hl
                have hl : lv_has ls 4 [(0, .ref (B 70 0)), (1, .int (zI ((S1 0 3 : Int) - (S 0 3 : Int)))), (2, .int (zI (bb : Int))), (3, .int (zI (S1 0 0 : Int)))] := hl
                have hbl := bst_lt hbo
                refine lv_iload_n hx hb dX8_landAll_60 rfl (lv_at hl 2 rfl) ?_
                refine z_if_ge (tgt := 67) hx hb dX8_landAll_61 (by decide) (⟨by omega, by omega⟩) (fun h_61 => ?_) (fun h_61 => absurd h_61 (by omega))
                refine lv_aload_n hx hb dX8_landAll_67 rfl (lv_at hl 0 rfl) ?_
                refine lv_iload_n hx hb dX8_landAll_68 rfl (lv_at hl 2 rfl) ?_
                refine g_ci (g_runV X (k_X8_against (i := bb) hmdl hwf1 hbl.1) (cwV 1 hts gX8_landAll_X8_against rfl rfl rfl ⟨rfl, ds_X8_against⟩ ⟨Nat.le_of_ble_eq_true rfl, Nat.le_of_ble_eq_true rfl⟩) hW hS hm70l rfl rfl hl.1 rfl (Nat.le_of_ble_eq_true rfl) dX8_landAll_69 ⟨Nat.le_of_ble_eq_true rfl, Nat.le_of_ble_eq_true rfl⟩) hS (fun r7 C5 H locs hp6 hW hS => ?_)
                obtain ⟨e8, hmd9, hf10, hq11⟩ := hp6
                rw [e8]
                obtain ⟨⟨mgz9, hm70z9⟩, ⟨F71z9, F72z9, hm71z9, hm72z9, hmtz9⟩, ⟨F73z9, hm73z9, ha73z9⟩, ⟨F74z9, hm74z9, ha74z9⟩, ⟨F75z9, hm75z9, ha75z9⟩, ⟨F76z9, hm76z9, ha76z9⟩, ⟨F77z9, hm77z9, ha77z9⟩, ⟨F78z9, hm78z9, ha78z9⟩, ⟨F79z9, hm79z9, ha79z9⟩, ⟨F80z9, hm80z9, ha80z9⟩, ⟨F81z9, hm81z9, ha81z9⟩, ⟨F82z9, hm82z9, ha82z9⟩, ⟨F83z9, hm83z9, ha83z9⟩, ⟨F84z9, hm84z9, ha84z9⟩, ⟨F85z9, hm85z9, ha85z9⟩, ⟨F86z9, hm86z9, ha86z9⟩, ⟨F87z9, hm87z9⟩, ⟨F88z9, hm88z9⟩, ⟨F89z9, hm89z9⟩, ⟨F90z9, hm90z9⟩⟩ := id hmd9
                have hwnz9 := hwf1.n
                have hag := ags_cases S1 T1 bb
                refine lv_istore_n (lv' := [(3, .int (zI ((ags S1 T1 bb : Nat) : Int))), (0, .ref (B 70 0)), (1, .int (zI ((S1 0 3 : Int) - (S 0 3 : Int)))), (2, .int (zI (bb : Int)))]) hx hb dX8_landAll_72 rfl hl (by decide) rfl (fun ls hl => ?_)
                obtain ⟨x, hgx, hx12, hli⟩ := hq11 hbl.2
                clear hq11
                have h50 := (rsn_ok hbl.2).1
                have hldb := hwf1.ld' hbl.1 h50
                have hl3 := hwf1.n
                refine lv_aload_n hx hb dX8_landAll_73 rfl (lv_at hl 1 rfl) ?_
                refine lv_iload_n hx hb dX8_landAll_74 rfl (lv_at hl 3 rfl) ?_
                refine g_cv (g_runV X (k_X8_lands (i := bb) (x := x) hmd9 hwf1 hbl.1 h50 hgx hx12 hli) (cwV 1 hts gX8_landAll_X8_lands rfl rfl rfl ⟨rfl, ds_X8_lands⟩ ⟨Nat.le_of_ble_eq_true rfl, Nat.le_of_ble_eq_true rfl⟩) hW hS hm70z9 rfl rfl hl.1 rfl (Nat.le_of_ble_eq_true rfl) dX8_landAll_75 ⟨Nat.le_of_ble_eq_true rfl, Nat.le_of_ble_eq_true rfl⟩) hS (fun C12 H locs hp13 hW hS => ?_)
                obtain ⟨hmd14, hf15⟩ := hp13
                refine z_iinc (lv' := [(1, .int (zI (((S1 0 3 : Int) - (S 0 3 : Int)) + 1))), (3, .int (zI ((ags S1 T1 bb : Nat) : Int))), (0, .ref (B 70 0)), (2, .int (zI (bb : Int)))]) hx hb dX8_landAll_78 hl (q := 2) rfl (by decide) rfl (fun ls hl => ?_)
                refine lv_goto (tgt := 9) hx hb dX8_landAll_81 (by decide) ?_
                have e3 : ldS S1 bb 0 3 = S1 0 3 + 1 := ldS_3
                rw [show (S1 0 3 : Int) - (S 0 3 : Int) + 1 = (ldS S1 bb 0 3 : Int) - (S 0 3 : Int) by rw [e3]; omega] at hl
                exact ih9 (bb : Int) (j + 1) (ldS S1 bb) (ldT S1 T1 bb) _ _ _ (by omega) (by omega) (Or.inl ⟨by omega, by omega⟩) (by rw [e3]; omega) (by rw [← hln, show 4 - j = (4 - (j + 1)) + 1 by omega, lnd_s hbo]) (hwf1.land hbl.1 hbl.2) hmd14 (fmd.trans hfl (fun k' i' h => (hf15 k' i' (by omega)).trans ((hf10 k' i' (by omega))))) hW hS _ (lv_sub hl [2, 0, 3] rfl)
            · rcases hbo : bst S1 T1 k with _ | bb
              · rw [hbo] at hl
                have hl : lv_has ls 4 [(0, .ref (B 70 0)), (1, .int (zI ((S1 0 3 : Int) - (S 0 3 : Int)))), (2, .int (zI (-1))), (3, .int (zI (k : Int)))] := hl
                have hwk := hwf1.ch (show k < S1 0 0 by omega)
                refine lv_iload_n hx hb dX8_landAll_25 rfl (lv_at hl 2 rfl) ?_
                refine z_if_lt (tgt := 44) hx hb dX8_landAll_26 (by decide) (⟨by omega, by omega⟩) (fun h_26 => ?_) (fun h_26 => absurd h_26 (by omega))
                refine lv_aload_n hx hb dX8_landAll_44 rfl (lv_at hl 0 rfl) ?_
                refine lv_iload_n hx hb dX8_landAll_45 rfl (lv_at hl 3 rfl) ?_
                refine g_ci (g_runV X (k_X8_against (i := k) hmdl hwf1 (show k < S1 0 0 by omega)) (cwV 1 hts gX8_landAll_X8_against rfl rfl rfl ⟨rfl, ds_X8_against⟩ ⟨Nat.le_of_ble_eq_true rfl, Nat.le_of_ble_eq_true rfl⟩) hW hS hm70l rfl rfl hl.1 rfl (Nat.le_of_ble_eq_true rfl) dX8_landAll_46 ⟨Nat.le_of_ble_eq_true rfl, Nat.le_of_ble_eq_true rfl⟩) hS (fun r18 C16 H locs hp17 hW hS => ?_)
                obtain ⟨e19, hmd20, hf21, hq22⟩ := hp17
                rw [e19]
                obtain ⟨⟨mgz20, hm70z20⟩, ⟨F71z20, F72z20, hm71z20, hm72z20, hmtz20⟩, ⟨F73z20, hm73z20, ha73z20⟩, ⟨F74z20, hm74z20, ha74z20⟩, ⟨F75z20, hm75z20, ha75z20⟩, ⟨F76z20, hm76z20, ha76z20⟩, ⟨F77z20, hm77z20, ha77z20⟩, ⟨F78z20, hm78z20, ha78z20⟩, ⟨F79z20, hm79z20, ha79z20⟩, ⟨F80z20, hm80z20, ha80z20⟩, ⟨F81z20, hm81z20, ha81z20⟩, ⟨F82z20, hm82z20, ha82z20⟩, ⟨F83z20, hm83z20, ha83z20⟩, ⟨F84z20, hm84z20, ha84z20⟩, ⟨F85z20, hm85z20, ha85z20⟩, ⟨F86z20, hm86z20, ha86z20⟩, ⟨F87z20, hm87z20⟩, ⟨F88z20, hm88z20⟩, ⟨F89z20, hm89z20⟩, ⟨F90z20, hm90z20⟩⟩ := id hmd20
                have hwnz20 := hwf1.n
                have hag := ags_cases S1 T1 k
                refine z_if_ne (tgt := 54) hx hb dX8_landAll_49 (by decide) (⟨by omega, by omega⟩) (fun h_49 => ?_) (fun h_49 => ?_)
                · clear hq22
                  have hq : bst S1 T1 (k + 1) = none := (bst_n (fun z9 => ags_nz (by omega) z9.2)).trans hbo
                  have hl : lv_has ls 4 [(0, .ref (B 70 0)), (1, .int (zI ((S1 0 3 : Int) - (S 0 3 : Int)))), (2, .int (zI (enc (bst S1 T1 (k + 1))))), (3, .int (zI (k : Int)))] := by rw [hq]; exact hl
                  refine z_iinc (lv' := [(3, .int (zI ((k : Int) + 1))), (0, .ref (B 70 0)), (1, .int (zI ((S1 0 3 : Int) - (S 0 3 : Int)))), (2, .int (zI (enc (bst S1 T1 (k + 1)))))]) hx hb dX8_landAll_54 hl (q := 3) rfl (by decide) rfl (fun ls hl => ?_)
                  refine lv_goto (tgt := 17) hx hb dX8_landAll_57 (by decide) ?_
                  exact ih17 (k + 1) _ _ _ (by omega) (by omega) hmd20 (fmd.trans hfl (fun k' i' h => (hf21 k' i' (by omega)))) hW hS _ (lv_sub hl [1, 2, 3, 0] rfl)
                · refine lv_iload_n hx hb dX8_landAll_52 rfl (lv_at hl 3 rfl) ?_
                  refine lv_istore_n (lv' := [(2, .int (zI (k : Int))), (0, .ref (B 70 0)), (1, .int (zI ((S1 0 3 : Int) - (S 0 3 : Int)))), (3, .int (zI (k : Int)))]) hx hb dX8_landAll_53 rfl hl (by decide) rfl (fun ls hl => ?_)
                  clear hq22
                  have hq : bst S1 T1 (k + 1) = some k := bst_y ⟨(fun b9 hb9 => by rw [hbo] at hb9; cases hb9), ags_z (by omega)⟩
                  have hl : lv_has ls 4 [(2, .int (zI (enc (bst S1 T1 (k + 1))))), (0, .ref (B 70 0)), (1, .int (zI ((S1 0 3 : Int) - (S 0 3 : Int)))), (3, .int (zI (k : Int)))] := by rw [hq]; exact hl
                  refine z_iinc (lv' := [(3, .int (zI ((k : Int) + 1))), (2, .int (zI (enc (bst S1 T1 (k + 1))))), (0, .ref (B 70 0)), (1, .int (zI ((S1 0 3 : Int) - (S 0 3 : Int))))]) hx hb dX8_landAll_54 hl (q := 3) rfl (by decide) rfl (fun ls hl => ?_)
                  refine lv_goto (tgt := 17) hx hb dX8_landAll_57 (by decide) ?_
                  exact ih17 (k + 1) _ _ _ (by omega) (by omega) hmd20 (fmd.trans hfl (fun k' i' h => (hf21 k' i' (by omega)))) hW hS _ (lv_sub hl [2, 3, 1, 0] rfl)
              · rw [hbo] at hl
                have hl : lv_has ls 4 [(0, .ref (B 70 0)), (1, .int (zI ((S1 0 3 : Int) - (S 0 3 : Int)))), (2, .int (zI (bb : Int))), (3, .int (zI (k : Int)))] := hl
                have hbl := bst_lt hbo
                have hbw := hwf1.ch (show bb < S1 0 0 by omega)
                have hwk := hwf1.ch (show k < S1 0 0 by omega)
                refine lv_iload_n hx hb dX8_landAll_25 rfl (lv_at hl 2 rfl) ?_
                refine z_if_lt (tgt := 44) hx hb dX8_landAll_26 (by decide) (⟨by omega, by omega⟩) (fun h_26 => absurd h_26 (by omega)) (fun h_26 => ?_)
                refine lv_aload_n hx hb dX8_landAll_29 rfl (lv_at hl 0 rfl) ?_
                refine g_get (ci := 8) X in_X8_landAll_8 rfl hW hm70l 13 (by decide) (hts _ (List.mem_of_getElem? (i := 3) rfl)) rfl dX8_landAll_30 ?_
                refine lv_iload_n hx hb dX8_landAll_33 rfl (lv_at hl 3 rfl) ?_
                refine z_iald X hW hm79l (by omega) (by omega) (by omega) dX8_landAll_34 ?_
                rw [show F79l (k : Int).toNat = (S1 4 k : Int) from by rw [show (k : Int).toNat = k by omega]; exact ha79l _ (by omega)]
                refine lv_aload_n hx hb dX8_landAll_35 rfl (lv_at hl 0 rfl) ?_
                refine g_get (ci := 8) X in_X8_landAll_8 rfl hW hm70l 13 (by decide) (hts _ (List.mem_of_getElem? (i := 3) rfl)) rfl dX8_landAll_36 ?_
                refine lv_iload_n hx hb dX8_landAll_39 rfl (lv_at hl 2 rfl) ?_
                refine z_iald X hW hm79l (by omega) (by omega) (by omega) dX8_landAll_40 ?_
                rw [show F79l (bb : Int).toNat = (S1 4 bb : Int) from by rw [show (bb : Int).toNat = bb by omega]; exact ha79l _ (by omega)]
                refine z_icmp_le (tgt := 54) hx hb dX8_landAll_41 (by decide) (⟨by omega, by omega⟩) (⟨by omega, by omega⟩) (fun h_41 => ?_) (fun h_41 => ?_)
                · have hq : bst S1 T1 (k + 1) = some bb := (bst_n (fun z9 => by have := z9.1 bb hbo; omega)).trans hbo
                  have hl : lv_has ls 4 [(0, .ref (B 70 0)), (1, .int (zI ((S1 0 3 : Int) - (S 0 3 : Int)))), (2, .int (zI (enc (bst S1 T1 (k + 1))))), (3, .int (zI (k : Int)))] := by rw [hq]; exact hl
                  refine z_iinc (lv' := [(3, .int (zI ((k : Int) + 1))), (0, .ref (B 70 0)), (1, .int (zI ((S1 0 3 : Int) - (S 0 3 : Int)))), (2, .int (zI (enc (bst S1 T1 (k + 1)))))]) hx hb dX8_landAll_54 hl (q := 3) rfl (by decide) rfl (fun ls hl => ?_)
                  refine lv_goto (tgt := 17) hx hb dX8_landAll_57 (by decide) ?_
                  exact ih17 (k + 1) _ _ _ (by omega) (by omega) hmdl hfl hW hS _ (lv_sub hl [1, 2, 3, 0] rfl)
                · refine lv_aload_n hx hb dX8_landAll_44 rfl (lv_at hl 0 rfl) ?_
                  refine lv_iload_n hx hb dX8_landAll_45 rfl (lv_at hl 3 rfl) ?_
                  refine g_ci (g_runV X (k_X8_against (i := k) hmdl hwf1 (show k < S1 0 0 by omega)) (cwV 1 hts gX8_landAll_X8_against rfl rfl rfl ⟨rfl, ds_X8_against⟩ ⟨Nat.le_of_ble_eq_true rfl, Nat.le_of_ble_eq_true rfl⟩) hW hS hm70l rfl rfl hl.1 rfl (Nat.le_of_ble_eq_true rfl) dX8_landAll_46 ⟨Nat.le_of_ble_eq_true rfl, Nat.le_of_ble_eq_true rfl⟩) hS (fun r25 C23 H locs hp24 hW hS => ?_)
                  obtain ⟨e26, hmd27, hf28, hq29⟩ := hp24
                  rw [e26]
                  obtain ⟨⟨mgz27, hm70z27⟩, ⟨F71z27, F72z27, hm71z27, hm72z27, hmtz27⟩, ⟨F73z27, hm73z27, ha73z27⟩, ⟨F74z27, hm74z27, ha74z27⟩, ⟨F75z27, hm75z27, ha75z27⟩, ⟨F76z27, hm76z27, ha76z27⟩, ⟨F77z27, hm77z27, ha77z27⟩, ⟨F78z27, hm78z27, ha78z27⟩, ⟨F79z27, hm79z27, ha79z27⟩, ⟨F80z27, hm80z27, ha80z27⟩, ⟨F81z27, hm81z27, ha81z27⟩, ⟨F82z27, hm82z27, ha82z27⟩, ⟨F83z27, hm83z27, ha83z27⟩, ⟨F84z27, hm84z27, ha84z27⟩, ⟨F85z27, hm85z27, ha85z27⟩, ⟨F86z27, hm86z27, ha86z27⟩, ⟨F87z27, hm87z27⟩, ⟨F88z27, hm88z27⟩, ⟨F89z27, hm89z27⟩, ⟨F90z27, hm90z27⟩⟩ := id hmd27
                  have hwnz27 := hwf1.n
                  have hag := ags_cases S1 T1 k
                  refine z_if_ne (tgt := 54) hx hb dX8_landAll_49 (by decide) (⟨by omega, by omega⟩) (fun h_49 => ?_) (fun h_49 => ?_)
                  · clear hq29
                    have hq : bst S1 T1 (k + 1) = some bb := (bst_n (fun z9 => ags_nz (by omega) z9.2)).trans hbo
                    have hl : lv_has ls 4 [(0, .ref (B 70 0)), (1, .int (zI ((S1 0 3 : Int) - (S 0 3 : Int)))), (2, .int (zI (enc (bst S1 T1 (k + 1))))), (3, .int (zI (k : Int)))] := by rw [hq]; exact hl
                    refine z_iinc (lv' := [(3, .int (zI ((k : Int) + 1))), (0, .ref (B 70 0)), (1, .int (zI ((S1 0 3 : Int) - (S 0 3 : Int)))), (2, .int (zI (enc (bst S1 T1 (k + 1)))))]) hx hb dX8_landAll_54 hl (q := 3) rfl (by decide) rfl (fun ls hl => ?_)
                    refine lv_goto (tgt := 17) hx hb dX8_landAll_57 (by decide) ?_
                    exact ih17 (k + 1) _ _ _ (by omega) (by omega) hmd27 (fmd.trans hfl (fun k' i' h => (hf28 k' i' (by omega)))) hW hS _ (lv_sub hl [1, 2, 3, 0] rfl)
                  · refine lv_iload_n hx hb dX8_landAll_52 rfl (lv_at hl 3 rfl) ?_
                    refine lv_istore_n (lv' := [(2, .int (zI (k : Int))), (0, .ref (B 70 0)), (1, .int (zI ((S1 0 3 : Int) - (S 0 3 : Int)))), (3, .int (zI (k : Int)))]) hx hb dX8_landAll_53 rfl hl (by decide) rfl (fun ls hl => ?_)
                    clear hq29
                    have hq : bst S1 T1 (k + 1) = some k := bst_y ⟨(fun b9 hb9 => by rw [hbo] at hb9; cases hb9; omega), ags_z (by omega)⟩
                    have hl : lv_has ls 4 [(2, .int (zI (enc (bst S1 T1 (k + 1))))), (0, .ref (B 70 0)), (1, .int (zI ((S1 0 3 : Int) - (S 0 3 : Int)))), (3, .int (zI (k : Int)))] := by rw [hq]; exact hl
                    refine z_iinc (lv' := [(3, .int (zI ((k : Int) + 1))), (2, .int (zI (enc (bst S1 T1 (k + 1))))), (0, .ref (B 70 0)), (1, .int (zI ((S1 0 3 : Int) - (S 0 3 : Int))))]) hx hb dX8_landAll_54 hl (q := 3) rfl (by decide) rfl (fun ls hl => ?_)
                    refine lv_goto (tgt := 17) hx hb dX8_landAll_57 (by decide) ?_
                    exact ih17 (k + 1) _ _ _ (by omega) (by omega) hmd27 (fmd.trans hfl (fun k' i' h => (hf28 k' i' (by omega)))) hW hS _ (lv_sub hl [2, 3, 1, 0] rfl)
        exact lp17 (S1 0 0 + 1) 0 _ _ _ (by omega) (by omega) hmdo hfo hW hS _ (lv_sub hl [2, 3, 1, 0] rfl)
  exact lp9 30 0 0 S T _ _ _ (by omega) (by omega) (Or.inl ⟨by omega, by omega⟩) (by omega) rfl hwf hmd4 (fun k' i' h => (hn3 k' i' (by omega))) hW hS _ (lv_sub hl [2, 1, 0] rfl)
