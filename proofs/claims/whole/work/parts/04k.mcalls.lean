theorem ds_X8_landedAt : yX8_landedAt.cls ≠ "java/lang/invoke/MethodHandle" ∧ yX8_landedAt.cls ≠ "java/lang/invoke/VarHandle" ∧ (parseMethodDescriptor yX8_landedAt.desc).map (fun d => d.parameters.length) = some 1 := by decide +kernel
theorem in_X8_landedAt_8 : ∀ w ∈ wsX80, w ∈ wsX8_landedAt := by decide +kernel
def rX8_landedAt : Room := { frames := 1, cells := 0, slots := 0, locals := 22 }
set_option maxHeartbeats 4000000 in
set_option maxRecDepth 100000 in
theorem k_X8_landedAt {l : Launch} {Z : gZ} {B : gB} {C0 : gC} {S : gS} {T : gTx} {th : Int} {a : Int} (hmd : md Z B C0 S T th) (hwf : wf S T) (ra : zr a) : Met l yX8_landedAt wsX8_landedAt rX8_landedAt (gPc Z B C0 [.ref (B 70 0), .int (zI a)]) (gQi Z B (fun r C1 => (cd_landedAt S a = 0 → r = zI (S 6 a.toNat : Int)) ∧ md Z B C1 S T (cd_landedAt S a : Int) ∧ fmd C0 C1)) 0 0 (gA Z) := by
  refine g_ofI (cc := cX8_landedAt) (maxL := 2) (by decide) rfl (Nat.le_of_ble_eq_true rfl) ?_
  intro p e s m args below meth c Q X kret hW hS ls hl
  have hx := X.1.1
  have hb := X.1.2.1
  have hts := X.1.2.2.2.2
  have hl : lv_has ls 2 [(0, .ref (B 70 0)), (1, .int (zI a))] := hl
  obtain ⟨⟨mg, hm70⟩, ⟨F71, F72, hm71, hm72, hmt⟩, ⟨F73, hm73, ha73⟩, ⟨F74, hm74, ha74⟩, ⟨F75, hm75, ha75⟩, ⟨F76, hm76, ha76⟩, ⟨F77, hm77, ha77⟩, ⟨F78, hm78, ha78⟩, ⟨F79, hm79, ha79⟩, ⟨F80, hm80, ha80⟩, ⟨F81, hm81, ha81⟩, ⟨F82, hm82, ha82⟩, ⟨F83, hm83, ha83⟩, ⟨F84, hm84, ha84⟩, ⟨F85, hm85, ha85⟩, ⟨F86, hm86, ha86⟩, ⟨F87, hm87⟩, ⟨F88, hm88⟩, ⟨F89, hm89⟩, ⟨F90, hm90⟩⟩ := id hmd
  have hwn := hwf.n
  refine lv_aload_n hx hb dX8_landedAt_0 rfl (lv_at hl 0 rfl) ?_
  refine lv_iload_n hx hb dX8_landedAt_1 rfl (lv_at hl 1 rfl) ?_
  refine lv_iconst (v := zI (0)) hx hb dX8_landedAt_2 rfl ?_
  refine lv_aload_n hx hb dX8_landedAt_3 rfl (lv_at hl 0 rfl) ?_
  refine g_get (ci := 8) X in_X8_landedAt_8 rfl hW hm70 4 (by decide) (hts _ (List.mem_of_getElem? (i := 1) rfl)) rfl dX8_landedAt_4 ?_
  refine lv_iconst (v := zI (1)) hx hb dX8_landedAt_7 rfl ?_
  refine z_isub hx hb dX8_landedAt_8 ?_
  refine g_ci (g_runS X (k_X8_isIn (B := B) (C0 := C0) (x := a) (a := 0) (b := ((S 0 3 : Int) - 1)) (ra) (⟨by omega, by omega⟩) (⟨by have := hwf.ld; omega, by have := hwf.ld; omega⟩)) (va_cwS 3 hts gX8_landedAt_X8_isIn rfl rfl rfl ds_X8_isIn ⟨Nat.le_of_ble_eq_true rfl, Nat.le_of_ble_eq_true rfl⟩) hW hS rfl hl.1 rfl (Nat.le_of_ble_eq_true rfl) dX8_landedAt_9 ⟨Nat.le_of_ble_eq_true rfl, Nat.le_of_ble_eq_true rfl⟩) hS (fun r3 C1 H locs hp2 hW hS => ?_)
  obtain ⟨rfl, ehp2⟩ := hp2
  rw [ehp2] at hW
  refine z_ifb_eq (tgt := 19) hx hb dX8_landedAt_12 (by decide) (fun h_12 => ?_) (fun h_12 => ?_)
  · refine lv_iconst (v := zI (1)) hx hb dX8_landedAt_19 rfl ?_
    refine g_put (ci := 8) (ty := .int) X in_X8_landedAt_8 tyX8 tyX8_ok nmX8 rfl hW hS hm70 0 (by decide) (hts _ (List.mem_of_getElem? (i := 2) rfl)) rfl (by decide +kernel) (rfl) (rfl) (Nat.le_of_ble_eq_true rfl) dX8_landedAt_20 (fun C4 H locs hs5 hn6 hW hS => ?_)
    refine lv_aload_n hx hb dX8_landedAt_23 rfl (lv_at hl 0 rfl) ?_
    refine g_get (ci := 8) X in_X8_landedAt_8 rfl hW hs5 0 (by decide) (hts _ (List.mem_of_getElem? (i := 2) rfl)) rfl dX8_landedAt_24 ?_
    refine z_if_ne (tgt := 39) hx hb dX8_landedAt_27 (by decide) (⟨by omega, by omega⟩) (fun h_27 => ?_) (fun h_27 => absurd h_27 (by omega))
    refine lv_iconst (v := zI (0)) hx hb dX8_landedAt_39 rfl ?_
    have hcd : cd_landedAt S a = 1 := by unfold cd_landedAt; rw [if_pos (by omega)]
    exact kret _ _ _ _ _ _ _ _ (⟨(fun z9 => by rw [hcd] at z9; cases z9), by rw [hcd]; exact md.thrown hmd hs5 (fun k' h1 h2 => ((hn6 k' 0 (by omega)).trans rfl)), fun k' i' h => (hn6 k' i' (by omega))⟩) hW hS (Nat.le_of_ble_eq_true rfl) (Nat.le_of_ble_eq_true rfl) dX8_landedAt_40
  · refine lv_iconst (v := zI (0)) hx hb dX8_landedAt_15 rfl ?_
    refine lv_goto (tgt := 20) hx hb dX8_landedAt_16 (by decide) ?_
    refine g_put (ci := 8) (ty := .int) X in_X8_landedAt_8 tyX8 tyX8_ok nmX8 rfl hW hS hm70 0 (by decide) (hts _ (List.mem_of_getElem? (i := 2) rfl)) rfl (by decide +kernel) (rfl) (rfl) (Nat.le_of_ble_eq_true rfl) dX8_landedAt_20 (fun C7 H locs hs8 hn9 hW hS => ?_)
    refine lv_aload_n hx hb dX8_landedAt_23 rfl (lv_at hl 0 rfl) ?_
    refine g_get (ci := 8) X in_X8_landedAt_8 rfl hW hs8 0 (by decide) (hts _ (List.mem_of_getElem? (i := 2) rfl)) rfl dX8_landedAt_24 ?_
    refine z_if_ne (tgt := 39) hx hb dX8_landedAt_27 (by decide) (⟨by omega, by omega⟩) (fun h_27 => absurd h_27 (by omega)) (fun h_27 => ?_)
    refine lv_aload_n hx hb dX8_landedAt_30 rfl (lv_at hl 0 rfl) ?_
    refine g_get (ci := 8) X in_X8_landedAt_8 rfl hW hs8 15 (by decide) (hts _ (List.mem_of_getElem? (i := 3) rfl)) rfl dX8_landedAt_31 ?_
    refine lv_iload_n hx hb dX8_landedAt_34 rfl (lv_at hl 1 rfl) ?_
    have f10 : C7 81 0 = some (gJ Z 4 F81) := ((hn9 81 0 (gk (by decide))).trans hm81)
    refine z_iald X hW f10 (by omega) (by have := hwf.ld; omega) (by omega) dX8_landedAt_35 ?_
    have hld := hwf.ld
    rw [show F81 (a).toNat = (S 6 a.toNat : Int) from by rw [show (a).toNat = a.toNat by omega]; exact ha81 _ (by omega)]
    refine lv_goto (tgt := 40) hx hb dX8_landedAt_36 (by decide) ?_
    have hcd : cd_landedAt S a = 0 := by unfold cd_landedAt; rw [if_neg (by omega)]
    exact kret _ _ _ _ _ _ _ _ (⟨(fun _ => rfl), by rw [hcd]; exact md.thrown hmd hs8 (fun k' h1 h2 => ((hn9 k' 0 (by omega)).trans rfl)), fun k' i' h => (hn9 k' i' (by omega))⟩) hW hS (Nat.le_of_ble_eq_true rfl) (Nat.le_of_ble_eq_true rfl) dX8_landedAt_40

theorem ds_X8_mainLines : yX8_mainLines.cls ≠ "java/lang/invoke/MethodHandle" ∧ yX8_mainLines.cls ≠ "java/lang/invoke/VarHandle" ∧ (parseMethodDescriptor yX8_mainLines.desc).map (fun d => d.parameters.length) = some 0 := by decide +kernel
theorem in_X8_mainLines_8 : ∀ w ∈ wsX80, w ∈ wsX8_mainLines := by decide +kernel
def rX8_mainLines : Room := { frames := 0, cells := 0, slots := 0, locals := 0 }
set_option maxHeartbeats 4000000 in
set_option maxRecDepth 100000 in
theorem k_X8_mainLines {l : Launch} {Z : gZ} {B : gB} {C0 : gC} {S : gS} {T : gTx} {th : Int} (hmd : md Z B C0 S T th) (hwf : wf S T) : Met l yX8_mainLines wsX8_mainLines rX8_mainLines (gPc Z B C0 [.ref (B 70 0)]) (gQi Z B (fun r C1 => r = zI ((T 0).length : Int) ∧ md Z B C1 S T 0 ∧ fmd C0 C1)) 0 0 (gA Z) := by
  refine g_ofI (cc := cX8_mainLines) (maxL := 1) (by decide) rfl (Nat.le_of_ble_eq_true rfl) ?_
  intro p e s m args below meth c Q X kret hW hS ls hl
  have hx := X.1.1
  have hb := X.1.2.1
  have hts := X.1.2.2.2.2
  have hl : lv_has ls 1 [(0, .ref (B 70 0))] := hl
  obtain ⟨⟨mg, hm70⟩, ⟨F71, F72, hm71, hm72, hmt⟩, ⟨F73, hm73, ha73⟩, ⟨F74, hm74, ha74⟩, ⟨F75, hm75, ha75⟩, ⟨F76, hm76, ha76⟩, ⟨F77, hm77, ha77⟩, ⟨F78, hm78, ha78⟩, ⟨F79, hm79, ha79⟩, ⟨F80, hm80, ha80⟩, ⟨F81, hm81, ha81⟩, ⟨F82, hm82, ha82⟩, ⟨F83, hm83, ha83⟩, ⟨F84, hm84, ha84⟩, ⟨F85, hm85, ha85⟩, ⟨F86, hm86, ha86⟩, ⟨F87, hm87⟩, ⟨F88, hm88⟩, ⟨F89, hm89⟩, ⟨F90, hm90⟩⟩ := id hmd
  have hwn := hwf.n
  refine lv_aload_n hx hb dX8_mainLines_0 rfl (lv_at hl 0 rfl) ?_
  refine lv_iconst (v := zI (0)) hx hb dX8_mainLines_1 rfl ?_
  refine g_put (ci := 8) (ty := .int) X in_X8_mainLines_8 tyX8 tyX8_ok nmX8 rfl hW hS hm70 0 (by decide) (hts _ (List.mem_of_getElem? (i := 1) rfl)) rfl (by decide +kernel) (rfl) (rfl) (Nat.le_of_ble_eq_true rfl) dX8_mainLines_2 (fun C1 H locs hs2 hn3 hW hS => ?_)
  refine lv_aload_n hx hb dX8_mainLines_5 rfl (lv_at hl 0 rfl) ?_
  refine g_get (ci := 8) X in_X8_mainLines_8 rfl hW hs2 6 (by decide) (hts _ (List.mem_of_getElem? (i := 2) rfl)) rfl dX8_mainLines_6 ?_
  refine lv_iconst (v := zI (0)) hx hb dX8_mainLines_9 rfl ?_
  have f4 : C1 72 0 = some (gJ Z 26 F72) := ((hn3 72 0 (gk (by decide))).trans hm72)
  refine z_iald X hW f4 (by omega) (by omega) (by omega) dX8_mainLines_10 ?_
  rw [show F72 (0 : Int).toNat = ((T 0).length : Int) from hmt.1 0 (by omega)]
  exact kret _ _ _ _ _ _ _ _ (⟨rfl, md.thrown hmd hs2 (fun k' h1 h2 => ((hn3 k' 0 (by omega)).trans rfl)), fun k' i' h => (hn3 k' i' (by omega))⟩) hW hS (Nat.le_of_ble_eq_true rfl) (Nat.le_of_ble_eq_true rfl) dX8_mainLines_11

theorem ds_X8_rounds : yX8_rounds.cls ≠ "java/lang/invoke/MethodHandle" ∧ yX8_rounds.cls ≠ "java/lang/invoke/VarHandle" ∧ (parseMethodDescriptor yX8_rounds.desc).map (fun d => d.parameters.length) = some 1 := by decide +kernel
theorem in_X8_rounds_8 : ∀ w ∈ wsX80, w ∈ wsX8_rounds := by decide +kernel
def rX8_rounds : Room := { frames := 2, cells := 0, slots := 0, locals := 43 }
set_option maxHeartbeats 4000000 in
set_option maxRecDepth 100000 in
theorem k_X8_rounds {l : Launch} {Z : gZ} {B : gB} {C0 : gC} {S : gS} {T : gTx} {th : Int} {cc : Int} (hmd : md Z B C0 S T th) (hwf : wf S T) (rcc : zr cc) : Met l yX8_rounds wsX8_rounds rX8_rounds (gPc Z B C0 [.ref (B 70 0), .int (zI cc)]) (gQi Z B (fun r C1 => (cd_C S cc = 0 → r = zI (S 2 cc.toNat : Int)) ∧ md Z B C1 S T (cd_C S cc : Int) ∧ fmd C0 C1)) 0 0 (gA Z) := by
  refine g_ofI (cc := cX8_rounds) (maxL := 2) (by decide) rfl (Nat.le_of_ble_eq_true rfl) ?_
  intro p e s m args below meth c Q X kret hW hS ls hl
  have hx := X.1.1
  have hb := X.1.2.1
  have hts := X.1.2.2.2.2
  have hl : lv_has ls 2 [(0, .ref (B 70 0)), (1, .int (zI cc))] := hl
  obtain ⟨⟨mg, hm70⟩, ⟨F71, F72, hm71, hm72, hmt⟩, ⟨F73, hm73, ha73⟩, ⟨F74, hm74, ha74⟩, ⟨F75, hm75, ha75⟩, ⟨F76, hm76, ha76⟩, ⟨F77, hm77, ha77⟩, ⟨F78, hm78, ha78⟩, ⟨F79, hm79, ha79⟩, ⟨F80, hm80, ha80⟩, ⟨F81, hm81, ha81⟩, ⟨F82, hm82, ha82⟩, ⟨F83, hm83, ha83⟩, ⟨F84, hm84, ha84⟩, ⟨F85, hm85, ha85⟩, ⟨F86, hm86, ha86⟩, ⟨F87, hm87⟩, ⟨F88, hm88⟩, ⟨F89, hm89⟩, ⟨F90, hm90⟩⟩ := id hmd
  have hwn := hwf.n
  refine lv_aload_n hx hb dX8_rounds_0 rfl (lv_at hl 0 rfl) ?_
  refine lv_aload_n hx hb dX8_rounds_1 rfl (lv_at hl 0 rfl) ?_
  refine lv_iload_n hx hb dX8_rounds_2 rfl (lv_at hl 1 rfl) ?_
  refine g_ci (g_runV X (k_X8_isChange (a := cc) hmd hwf (rcc)) (cwV 1 hts gX8_rounds_X8_isChange rfl rfl rfl ⟨rfl, ds_X8_isChange⟩ ⟨Nat.le_of_ble_eq_true rfl, Nat.le_of_ble_eq_true rfl⟩) hW hS hm70 rfl rfl hl.1 rfl (Nat.le_of_ble_eq_true rfl) dX8_rounds_3 ⟨Nat.le_of_ble_eq_true rfl, Nat.le_of_ble_eq_true rfl⟩) hS (fun r3 C1 H locs hp2 hW hS => ?_)
  obtain ⟨rfl, ehp2⟩ := hp2
  rw [ehp2] at hW
  refine z_ifb_eq (tgt := 13) hx hb dX8_rounds_6 (by decide) (fun h_6 => ?_) (fun h_6 => ?_)
  · refine lv_iconst (v := zI (1)) hx hb dX8_rounds_13 rfl ?_
    refine g_put (ci := 8) (ty := .int) X in_X8_rounds_8 tyX8 tyX8_ok nmX8 rfl hW hS hm70 0 (by decide) (hts _ (List.mem_of_getElem? (i := 1) rfl)) rfl (by decide +kernel) (rfl) (rfl) (Nat.le_of_ble_eq_true rfl) dX8_rounds_14 (fun C4 H locs hs5 hn6 hW hS => ?_)
    refine lv_aload_n hx hb dX8_rounds_17 rfl (lv_at hl 0 rfl) ?_
    refine g_get (ci := 8) X in_X8_rounds_8 rfl hW hs5 0 (by decide) (hts _ (List.mem_of_getElem? (i := 1) rfl)) rfl dX8_rounds_18 ?_
    refine z_if_ne (tgt := 33) hx hb dX8_rounds_21 (by decide) (⟨by omega, by omega⟩) (fun h_21 => ?_) (fun h_21 => absurd h_21 (by omega))
    refine lv_iconst (v := zI (0)) hx hb dX8_rounds_33 rfl ?_
    have hcd : cd_C S cc = 1 := by unfold cd_C; rw [if_pos (h_6)]
    exact kret _ _ _ _ _ _ _ _ (⟨(fun z9 => by rw [hcd] at z9; cases z9), by rw [hcd]; exact md.thrown hmd hs5 (fun k' h1 h2 => ((hn6 k' 0 (by omega)).trans rfl)), fun k' i' h => (hn6 k' i' (by omega))⟩) hW hS (Nat.le_of_ble_eq_true rfl) (Nat.le_of_ble_eq_true rfl) dX8_rounds_34
  · refine lv_iconst (v := zI (0)) hx hb dX8_rounds_9 rfl ?_
    refine lv_goto (tgt := 14) hx hb dX8_rounds_10 (by decide) ?_
    refine g_put (ci := 8) (ty := .int) X in_X8_rounds_8 tyX8 tyX8_ok nmX8 rfl hW hS hm70 0 (by decide) (hts _ (List.mem_of_getElem? (i := 1) rfl)) rfl (by decide +kernel) (rfl) (rfl) (Nat.le_of_ble_eq_true rfl) dX8_rounds_14 (fun C7 H locs hs8 hn9 hW hS => ?_)
    refine lv_aload_n hx hb dX8_rounds_17 rfl (lv_at hl 0 rfl) ?_
    refine g_get (ci := 8) X in_X8_rounds_8 rfl hW hs8 0 (by decide) (hts _ (List.mem_of_getElem? (i := 1) rfl)) rfl dX8_rounds_18 ?_
    refine z_if_ne (tgt := 33) hx hb dX8_rounds_21 (by decide) (⟨by omega, by omega⟩) (fun h_21 => absurd h_21 (by omega)) (fun h_21 => ?_)
    refine lv_aload_n hx hb dX8_rounds_24 rfl (lv_at hl 0 rfl) ?_
    refine g_get (ci := 8) X in_X8_rounds_8 rfl hW hs8 11 (by decide) (hts _ (List.mem_of_getElem? (i := 2) rfl)) rfl dX8_rounds_25 ?_
    refine lv_iload_n hx hb dX8_rounds_28 rfl (lv_at hl 1 rfl) ?_
    have f10 : C7 77 0 = some (gJ Z 4 F77) := ((hn9 77 0 (gk (by decide))).trans hm77)
    refine z_iald X hW f10 (by omega) (by omega) (by omega) dX8_rounds_29 ?_
    rw [show F77 (cc).toNat = (S 2 cc.toNat : Int) from by rw [show (cc).toNat = cc.toNat by omega]; exact ha77 _ (by omega)]
    refine lv_goto (tgt := 34) hx hb dX8_rounds_30 (by decide) ?_
    have hcd : cd_C S cc = 0 := by unfold cd_C; rw [if_neg (fun z => z h_6)]
    exact kret _ _ _ _ _ _ _ _ (⟨(fun _ => rfl), by rw [hcd]; exact md.thrown hmd hs8 (fun k' h1 h2 => ((hn9 k' 0 (by omega)).trans rfl)), fun k' i' h => (hn9 k' i' (by omega))⟩) hW hS (Nat.le_of_ble_eq_true rfl) (Nat.le_of_ble_eq_true rfl) dX8_rounds_34

theorem ds_X8_mainLine : yX8_mainLine.cls ≠ "java/lang/invoke/MethodHandle" ∧ yX8_mainLine.cls ≠ "java/lang/invoke/VarHandle" ∧ (parseMethodDescriptor yX8_mainLine.desc).map (fun d => d.parameters.length) = some 1 := by decide +kernel
theorem in_X8_mainLine_8 : ∀ w ∈ wsX80, w ∈ wsX8_mainLine := by decide +kernel
def rX8_mainLine : Room := { frames := 1, cells := 0, slots := 0, locals := 22 }
set_option maxHeartbeats 4000000 in
set_option maxRecDepth 100000 in
theorem k_X8_mainLine {l : Launch} {Z : gZ} {B : gB} {C0 : gC} {S : gS} {T : gTx} {th : Int} {a : Int} (hmd : md Z B C0 S T th) (hwf : wf S T) (ra : zr a) : Met l yX8_mainLine wsX8_mainLine rX8_mainLine (gPc Z B C0 [.ref (B 70 0), .int (zI a)]) (gQi Z B (fun r C1 => (cd_mainLine T a = 0 → r = zI (ta (T 0) a)) ∧ md Z B C1 S T (cd_mainLine T a : Int) ∧ fmd C0 C1)) 0 0 (gA Z) := by
  refine g_ofI (cc := cX8_mainLine) (maxL := 2) (by decide) rfl (Nat.le_of_ble_eq_true rfl) ?_
  intro p e s m args below meth c Q X kret hW hS ls hl
  have hx := X.1.1
  have hb := X.1.2.1
  have hts := X.1.2.2.2.2
  have hl : lv_has ls 2 [(0, .ref (B 70 0)), (1, .int (zI a))] := hl
  obtain ⟨⟨mg, hm70⟩, ⟨F71, F72, hm71, hm72, hmt⟩, ⟨F73, hm73, ha73⟩, ⟨F74, hm74, ha74⟩, ⟨F75, hm75, ha75⟩, ⟨F76, hm76, ha76⟩, ⟨F77, hm77, ha77⟩, ⟨F78, hm78, ha78⟩, ⟨F79, hm79, ha79⟩, ⟨F80, hm80, ha80⟩, ⟨F81, hm81, ha81⟩, ⟨F82, hm82, ha82⟩, ⟨F83, hm83, ha83⟩, ⟨F84, hm84, ha84⟩, ⟨F85, hm85, ha85⟩, ⟨F86, hm86, ha86⟩, ⟨F87, hm87⟩, ⟨F88, hm88⟩, ⟨F89, hm89⟩, ⟨F90, hm90⟩⟩ := id hmd
  have hwn := hwf.n
  have hl0 := hwf.tx 0
  refine lv_aload_n hx hb dX8_mainLine_0 rfl (lv_at hl 0 rfl) ?_
  refine lv_iload_n hx hb dX8_mainLine_1 rfl (lv_at hl 1 rfl) ?_
  refine lv_iconst (v := zI (0)) hx hb dX8_mainLine_2 rfl ?_
  refine lv_aload_n hx hb dX8_mainLine_3 rfl (lv_at hl 0 rfl) ?_
  refine g_get (ci := 8) X in_X8_mainLine_8 rfl hW hm70 6 (by decide) (hts _ (List.mem_of_getElem? (i := 1) rfl)) rfl dX8_mainLine_4 ?_
  refine lv_iconst (v := zI (0)) hx hb dX8_mainLine_7 rfl ?_
  refine z_iald X hW hm72 (by omega) (by omega) (by omega) dX8_mainLine_8 ?_
  rw [show F72 (0 : Int).toNat = ((T 0).length : Int) from hmt.1 0 (by omega)]
  refine lv_iconst (v := zI (1)) hx hb dX8_mainLine_9 rfl ?_
  refine z_isub hx hb dX8_mainLine_10 ?_
  refine g_ci (g_runS X (k_X8_isIn (B := B) (C0 := C0) (x := a) (a := 0) (b := (((T 0).length : Int) - 1)) (ra) (⟨by omega, by omega⟩) (⟨by omega, by omega⟩)) (va_cwS 3 hts gX8_mainLine_X8_isIn rfl rfl rfl ds_X8_isIn ⟨Nat.le_of_ble_eq_true rfl, Nat.le_of_ble_eq_true rfl⟩) hW hS rfl hl.1 rfl (Nat.le_of_ble_eq_true rfl) dX8_mainLine_11 ⟨Nat.le_of_ble_eq_true rfl, Nat.le_of_ble_eq_true rfl⟩) hS (fun r3 C1 H locs hp2 hW hS => ?_)
  obtain ⟨rfl, ehp2⟩ := hp2
  rw [ehp2] at hW
  refine z_ifb_eq (tgt := 21) hx hb dX8_mainLine_14 (by decide) (fun h_14 => ?_) (fun h_14 => ?_)
  · refine lv_iconst (v := zI (1)) hx hb dX8_mainLine_21 rfl ?_
    refine g_put (ci := 8) (ty := .int) X in_X8_mainLine_8 tyX8 tyX8_ok nmX8 rfl hW hS hm70 0 (by decide) (hts _ (List.mem_of_getElem? (i := 2) rfl)) rfl (by decide +kernel) (rfl) (rfl) (Nat.le_of_ble_eq_true rfl) dX8_mainLine_22 (fun C4 H locs hs5 hn6 hW hS => ?_)
    refine lv_aload_n hx hb dX8_mainLine_25 rfl (lv_at hl 0 rfl) ?_
    refine g_get (ci := 8) X in_X8_mainLine_8 rfl hW hs5 0 (by decide) (hts _ (List.mem_of_getElem? (i := 2) rfl)) rfl dX8_mainLine_26 ?_
    refine z_if_ne (tgt := 41) hx hb dX8_mainLine_29 (by decide) (⟨by omega, by omega⟩) (fun h_29 => ?_) (fun h_29 => absurd h_29 (by omega))
    refine lv_iconst (v := zI (0)) hx hb dX8_mainLine_41 rfl ?_
    have hcd : cd_mainLine T a = 1 := by unfold cd_mainLine; rw [if_pos (by omega)]
    exact kret _ _ _ _ _ _ _ _ (⟨(fun z9 => by rw [hcd] at z9; cases z9), by rw [hcd]; exact md.thrown hmd hs5 (fun k' h1 h2 => ((hn6 k' 0 (by omega)).trans rfl)), fun k' i' h => (hn6 k' i' (by omega))⟩) hW hS (Nat.le_of_ble_eq_true rfl) (Nat.le_of_ble_eq_true rfl) dX8_mainLine_42
  · refine lv_iconst (v := zI (0)) hx hb dX8_mainLine_17 rfl ?_
    refine lv_goto (tgt := 22) hx hb dX8_mainLine_18 (by decide) ?_
    refine g_put (ci := 8) (ty := .int) X in_X8_mainLine_8 tyX8 tyX8_ok nmX8 rfl hW hS hm70 0 (by decide) (hts _ (List.mem_of_getElem? (i := 2) rfl)) rfl (by decide +kernel) (rfl) (rfl) (Nat.le_of_ble_eq_true rfl) dX8_mainLine_22 (fun C7 H locs hs8 hn9 hW hS => ?_)
    refine lv_aload_n hx hb dX8_mainLine_25 rfl (lv_at hl 0 rfl) ?_
    refine g_get (ci := 8) X in_X8_mainLine_8 rfl hW hs8 0 (by decide) (hts _ (List.mem_of_getElem? (i := 2) rfl)) rfl dX8_mainLine_26 ?_
    refine z_if_ne (tgt := 41) hx hb dX8_mainLine_29 (by decide) (⟨by omega, by omega⟩) (fun h_29 => absurd h_29 (by omega)) (fun h_29 => ?_)
    refine lv_aload_n hx hb dX8_mainLine_32 rfl (lv_at hl 0 rfl) ?_
    refine lv_iconst (v := zI (0)) hx hb dX8_mainLine_33 rfl ?_
    refine lv_iload_n hx hb dX8_mainLine_34 rfl (lv_at hl 1 rfl) ?_
    have f10 : C7 71 0 = some (gJ Z 312 F71) := ((hn9 71 0 (gk (by decide))).trans hm71)
    refine g_ci (g_runV X (k_X8_line (a := 0) (b := a) hs8 f10 (⟨by omega, by omega⟩) (⟨by omega, by omega⟩)) (cwV 2 hts gX8_mainLine_X8_line rfl rfl rfl ⟨rfl, ds_X8_line⟩ ⟨Nat.le_of_ble_eq_true rfl, Nat.le_of_ble_eq_true rfl⟩) hW hS hs8 rfl rfl hl.1 rfl (Nat.le_of_ble_eq_true rfl) dX8_mainLine_35 ⟨Nat.le_of_ble_eq_true rfl, Nat.le_of_ble_eq_true rfl⟩) hS (fun r13 C11 H locs hp12 hW hS => ?_)
    obtain ⟨rfl, ehp12⟩ := hp12
    rw [ehp12] at hW
    rw [show F71 (12 * 0 + a).toNat = ta (T 0) a from by rw [show (12 * 0 + a).toNat = 12 * 0 + a.toNat by omega, hmt.2 0 (by omega) _ (by omega), ta, if_pos (by omega)]]
    refine lv_goto (tgt := 42) hx hb dX8_mainLine_38 (by decide) ?_
    have hcd : cd_mainLine T a = 0 := by unfold cd_mainLine; rw [if_neg (by omega)]
    exact kret _ _ _ _ _ _ _ _ (⟨(fun _ => rfl), by rw [hcd]; exact md.thrown hmd hs8 (fun k' h1 h2 => ((hn9 k' 0 (by omega)).trans rfl)), fun k' i' h => (hn9 k' i' (by omega))⟩) hW hS (Nat.le_of_ble_eq_true rfl) (Nat.le_of_ble_eq_true rfl) dX8_mainLine_42

theorem ds_X8_isOpen : yX8_isOpen.cls ≠ "java/lang/invoke/MethodHandle" ∧ yX8_isOpen.cls ≠ "java/lang/invoke/VarHandle" ∧ (parseMethodDescriptor yX8_isOpen.desc).map (fun d => d.parameters.length) = some 1 := by decide +kernel
theorem in_X8_isOpen_8 : ∀ w ∈ wsX80, w ∈ wsX8_isOpen := by decide +kernel
def rX8_isOpen : Room := { frames := 1, cells := 0, slots := 0, locals := 22 }
set_option maxHeartbeats 4000000 in
set_option maxRecDepth 100000 in
theorem k_X8_isOpen {l : Launch} {Z : gZ} {B : gB} {C0 : gC} {S : gS} {T : gTx} {th : Int} {qq : Int} (hmd : md Z B C0 S T th) (hwf : wf S T) (rqq : zr qq) : Met l yX8_isOpen wsX8_isOpen rX8_isOpen (gPc Z B C0 [.ref (B 70 0), .int (zI qq)]) (gQi Z B (fun r C1 => (cd_R S qq = 0 → r = zI (if S 14 qq.toNat = 0 then 1 else 0)) ∧ md Z B C1 S T (cd_R S qq : Int) ∧ fmd C0 C1 ∧ (r = zI 0 ∨ r = zI 1))) 0 0 (gA Z) := by
  refine g_ofZ (cc := cX8_isOpen) (maxL := 2) (by decide) rfl (Nat.le_of_ble_eq_true rfl) (fun r C1 h => by rcases h.2.2.2 with h | h <;> rw [h] <;> rfl) ?_
  intro p e s m args below meth c Q X kret hW hS ls hl
  have hx := X.1.1
  have hb := X.1.2.1
  have hts := X.1.2.2.2.2
  have hl : lv_has ls 2 [(0, .ref (B 70 0)), (1, .int (zI qq))] := hl
  obtain ⟨⟨mg, hm70⟩, ⟨F71, F72, hm71, hm72, hmt⟩, ⟨F73, hm73, ha73⟩, ⟨F74, hm74, ha74⟩, ⟨F75, hm75, ha75⟩, ⟨F76, hm76, ha76⟩, ⟨F77, hm77, ha77⟩, ⟨F78, hm78, ha78⟩, ⟨F79, hm79, ha79⟩, ⟨F80, hm80, ha80⟩, ⟨F81, hm81, ha81⟩, ⟨F82, hm82, ha82⟩, ⟨F83, hm83, ha83⟩, ⟨F84, hm84, ha84⟩, ⟨F85, hm85, ha85⟩, ⟨F86, hm86, ha86⟩, ⟨F87, hm87⟩, ⟨F88, hm88⟩, ⟨F89, hm89⟩, ⟨F90, hm90⟩⟩ := id hmd
  have hwn := hwf.n
  refine lv_aload_n hx hb dX8_isOpen_0 rfl (lv_at hl 0 rfl) ?_
  refine lv_iload_n hx hb dX8_isOpen_1 rfl (lv_at hl 1 rfl) ?_
  refine lv_iconst (v := zI (0)) hx hb dX8_isOpen_2 rfl ?_
  refine lv_aload_n hx hb dX8_isOpen_3 rfl (lv_at hl 0 rfl) ?_
  refine g_get (ci := 8) X in_X8_isOpen_8 rfl hW hm70 3 (by decide) (hts _ (List.mem_of_getElem? (i := 1) rfl)) rfl dX8_isOpen_4 ?_
  refine lv_iconst (v := zI (1)) hx hb dX8_isOpen_7 rfl ?_
  refine z_isub hx hb dX8_isOpen_8 ?_
  refine g_ci (g_runS X (k_X8_isIn (B := B) (C0 := C0) (x := qq) (a := 0) (b := ((S 0 2 : Int) - 1)) (rqq) (⟨by omega, by omega⟩) (⟨by omega, by omega⟩)) (va_cwS 3 hts gX8_isOpen_X8_isIn rfl rfl rfl ds_X8_isIn ⟨Nat.le_of_ble_eq_true rfl, Nat.le_of_ble_eq_true rfl⟩) hW hS rfl hl.1 rfl (Nat.le_of_ble_eq_true rfl) dX8_isOpen_9 ⟨Nat.le_of_ble_eq_true rfl, Nat.le_of_ble_eq_true rfl⟩) hS (fun r3 C1 H locs hp2 hW hS => ?_)
  obtain ⟨rfl, ehp2⟩ := hp2
  rw [ehp2] at hW
  refine z_ifb_eq (tgt := 19) hx hb dX8_isOpen_12 (by decide) (fun h_12 => ?_) (fun h_12 => ?_)
  · refine lv_iconst (v := zI (1)) hx hb dX8_isOpen_19 rfl ?_
    refine g_put (ci := 8) (ty := .int) X in_X8_isOpen_8 tyX8 tyX8_ok nmX8 rfl hW hS hm70 0 (by decide) (hts _ (List.mem_of_getElem? (i := 2) rfl)) rfl (by decide +kernel) (rfl) (rfl) (Nat.le_of_ble_eq_true rfl) dX8_isOpen_20 (fun C4 H locs hs5 hn6 hW hS => ?_)
    refine lv_aload_n hx hb dX8_isOpen_23 rfl (lv_at hl 0 rfl) ?_
    refine g_get (ci := 8) X in_X8_isOpen_8 rfl hW hs5 0 (by decide) (hts _ (List.mem_of_getElem? (i := 2) rfl)) rfl dX8_isOpen_24 ?_
    refine z_if_ne (tgt := 43) hx hb dX8_isOpen_27 (by decide) (⟨by omega, by omega⟩) (fun h_27 => ?_) (fun h_27 => absurd h_27 (by omega))
    refine lv_iconst (v := zI (0)) hx hb dX8_isOpen_43 rfl ?_
    have hcd : cd_R S qq = 1 := by unfold cd_R; rw [if_pos (by omega)]
    exact kret _ _ _ _ _ _ _ _ (⟨(fun z9 => by rw [hcd] at z9; cases z9), by rw [hcd]; exact md.thrown hmd hs5 (fun k' h1 h2 => ((hn6 k' 0 (by omega)).trans rfl)), fun k' i' h => (hn6 k' i' (by omega)), Or.inl rfl⟩) hW hS (Nat.le_of_ble_eq_true rfl) (Nat.le_of_ble_eq_true rfl) dX8_isOpen_44
  · refine lv_iconst (v := zI (0)) hx hb dX8_isOpen_15 rfl ?_
    refine lv_goto (tgt := 20) hx hb dX8_isOpen_16 (by decide) ?_
    refine g_put (ci := 8) (ty := .int) X in_X8_isOpen_8 tyX8 tyX8_ok nmX8 rfl hW hS hm70 0 (by decide) (hts _ (List.mem_of_getElem? (i := 2) rfl)) rfl (by decide +kernel) (rfl) (rfl) (Nat.le_of_ble_eq_true rfl) dX8_isOpen_20 (fun C7 H locs hs8 hn9 hW hS => ?_)
    refine lv_aload_n hx hb dX8_isOpen_23 rfl (lv_at hl 0 rfl) ?_
    refine g_get (ci := 8) X in_X8_isOpen_8 rfl hW hs8 0 (by decide) (hts _ (List.mem_of_getElem? (i := 2) rfl)) rfl dX8_isOpen_24 ?_
    refine z_if_ne (tgt := 43) hx hb dX8_isOpen_27 (by decide) (⟨by omega, by omega⟩) (fun h_27 => absurd h_27 (by omega)) (fun h_27 => ?_)
    refine lv_aload_n hx hb dX8_isOpen_30 rfl (lv_at hl 0 rfl) ?_
    refine g_get (ci := 8) X in_X8_isOpen_8 rfl hW hs8 20 (by decide) (hts _ (List.mem_of_getElem? (i := 3) rfl)) rfl dX8_isOpen_31 ?_
    refine lv_iload_n hx hb dX8_isOpen_34 rfl (lv_at hl 1 rfl) ?_
    have f10 : C7 86 0 = some (gJ Z 12 F86) := ((hn9 86 0 (gk (by decide))).trans hm86)
    refine z_iald X hW f10 (by omega) (by omega) (by omega) dX8_isOpen_35 ?_
    rw [show F86 (qq).toNat = (S 14 qq.toNat : Int) from by rw [show (qq).toNat = qq.toNat by omega]; exact ha86 _ (by omega)]
    have hwq := hwf.rm (show qq.toNat < S 0 2 by omega)
    refine z_if_ne (tgt := 43) hx hb dX8_isOpen_36 (by decide) (⟨by omega, by omega⟩) (fun h_36 => ?_) (fun h_36 => ?_)
    · refine lv_iconst (v := zI (0)) hx hb dX8_isOpen_43 rfl ?_
      have hcd : cd_R S qq = 0 := by unfold cd_R; rw [if_neg (by omega)]
      exact kret _ _ _ _ _ _ _ _ (⟨(fun _ => by rw [if_neg (by omega)]), by rw [hcd]; exact md.thrown hmd hs8 (fun k' h1 h2 => ((hn9 k' 0 (by omega)).trans rfl)), fun k' i' h => (hn9 k' i' (by omega)), Or.inl rfl⟩) hW hS (Nat.le_of_ble_eq_true rfl) (Nat.le_of_ble_eq_true rfl) dX8_isOpen_44
    · refine lv_iconst (v := zI (1)) hx hb dX8_isOpen_39 rfl ?_
      refine lv_goto (tgt := 44) hx hb dX8_isOpen_40 (by decide) ?_
      have hcd : cd_R S qq = 0 := by unfold cd_R; rw [if_neg (by omega)]
      exact kret _ _ _ _ _ _ _ _ (⟨(fun _ => by rw [if_pos (by omega)]), by rw [hcd]; exact md.thrown hmd hs8 (fun k' h1 h2 => ((hn9 k' 0 (by omega)).trans rfl)), fun k' i' h => (hn9 k' i' (by omega)), Or.inr rfl⟩) hW hS (Nat.le_of_ble_eq_true rfl) (Nat.le_of_ble_eq_true rfl) dX8_isOpen_44

theorem ds_X8_openComments : yX8_openComments.cls ≠ "java/lang/invoke/MethodHandle" ∧ yX8_openComments.cls ≠ "java/lang/invoke/VarHandle" ∧ (parseMethodDescriptor yX8_openComments.desc).map (fun d => d.parameters.length) = some 1 := by decide +kernel
theorem in_X8_openComments_8 : ∀ w ∈ wsX80, w ∈ wsX8_openComments := by decide +kernel
def rX8_openComments : Room := { frames := 2, cells := 0, slots := 0, locals := 43 }
set_option maxHeartbeats 4000000 in
set_option maxRecDepth 100000 in
theorem k_X8_openComments {l : Launch} {Z : gZ} {B : gB} {C0 : gC} {S : gS} {T : gTx} {th : Int} {cc : Int} (hmd : md Z B C0 S T th) (hwf : wf S T) (rcc : zr cc) : Met l yX8_openComments wsX8_openComments rX8_openComments (gPc Z B C0 [.ref (B 70 0), .int (zI cc)]) (gQi Z B (fun r C1 => (cd_C S cc = 0 → r = zI (opn S cc.toNat : Int)) ∧ md Z B C1 S T (cd_C S cc : Int) ∧ fmd C0 C1)) 0 0 (gA Z) := by
  refine g_ofI (cc := cX8_openComments) (maxL := 2) (by decide) rfl (Nat.le_of_ble_eq_true rfl) ?_
  intro p e s m args below meth c Q X kret hW hS ls hl
  have hx := X.1.1
  have hb := X.1.2.1
  have hts := X.1.2.2.2.2
  have hl : lv_has ls 2 [(0, .ref (B 70 0)), (1, .int (zI cc))] := hl
  obtain ⟨⟨mg, hm70⟩, ⟨F71, F72, hm71, hm72, hmt⟩, ⟨F73, hm73, ha73⟩, ⟨F74, hm74, ha74⟩, ⟨F75, hm75, ha75⟩, ⟨F76, hm76, ha76⟩, ⟨F77, hm77, ha77⟩, ⟨F78, hm78, ha78⟩, ⟨F79, hm79, ha79⟩, ⟨F80, hm80, ha80⟩, ⟨F81, hm81, ha81⟩, ⟨F82, hm82, ha82⟩, ⟨F83, hm83, ha83⟩, ⟨F84, hm84, ha84⟩, ⟨F85, hm85, ha85⟩, ⟨F86, hm86, ha86⟩, ⟨F87, hm87⟩, ⟨F88, hm88⟩, ⟨F89, hm89⟩, ⟨F90, hm90⟩⟩ := id hmd
  have hwn := hwf.n
  refine lv_aload_n hx hb dX8_openComments_0 rfl (lv_at hl 0 rfl) ?_
  refine lv_aload_n hx hb dX8_openComments_1 rfl (lv_at hl 0 rfl) ?_
  refine lv_iload_n hx hb dX8_openComments_2 rfl (lv_at hl 1 rfl) ?_
  refine g_ci (g_runV X (k_X8_isChange (a := cc) hmd hwf (rcc)) (cwV 1 hts gX8_openComments_X8_isChange rfl rfl rfl ⟨rfl, ds_X8_isChange⟩ ⟨Nat.le_of_ble_eq_true rfl, Nat.le_of_ble_eq_true rfl⟩) hW hS hm70 rfl rfl hl.1 rfl (Nat.le_of_ble_eq_true rfl) dX8_openComments_3 ⟨Nat.le_of_ble_eq_true rfl, Nat.le_of_ble_eq_true rfl⟩) hS (fun r3 C1 H locs hp2 hW hS => ?_)
  obtain ⟨rfl, ehp2⟩ := hp2
  rw [ehp2] at hW
  refine z_ifb_eq (tgt := 13) hx hb dX8_openComments_6 (by decide) (fun h_6 => ?_) (fun h_6 => ?_)
  · refine lv_iconst (v := zI (1)) hx hb dX8_openComments_13 rfl ?_
    refine g_put (ci := 8) (ty := .int) X in_X8_openComments_8 tyX8 tyX8_ok nmX8 rfl hW hS hm70 0 (by decide) (hts _ (List.mem_of_getElem? (i := 1) rfl)) rfl (by decide +kernel) (rfl) (rfl) (Nat.le_of_ble_eq_true rfl) dX8_openComments_14 (fun C4 H locs hs5 hn6 hW hS => ?_)
    have hmd2 := md.thrown hmd hs5 (fun k' h1 h2 => ((hn6 k' 0 (by omega)).trans rfl))
    refine lv_aload_n hx hb dX8_openComments_17 rfl (lv_at hl 0 rfl) ?_
    refine g_get (ci := 8) X in_X8_openComments_8 rfl hW hs5 0 (by decide) (hts _ (List.mem_of_getElem? (i := 1) rfl)) rfl dX8_openComments_18 ?_
    refine z_if_ne (tgt := 32) hx hb dX8_openComments_21 (by decide) (⟨by omega, by omega⟩) (fun h_21 => ?_) (fun h_21 => absurd h_21 (by omega))
    refine lv_iconst (v := zI (0)) hx hb dX8_openComments_32 rfl ?_
    have hcd : cd_C S cc = 1 := by unfold cd_C; rw [if_pos (h_6)]
    exact kret _ _ _ _ _ _ _ _ (⟨(fun z9 => by rw [hcd] at z9; cases z9), by rw [hcd]; exact md.thrown hmd hs5 (fun k' h1 h2 => ((hn6 k' 0 (by omega)).trans rfl)), fun k' i' h => (hn6 k' i' (by omega))⟩) hW hS (Nat.le_of_ble_eq_true rfl) (Nat.le_of_ble_eq_true rfl) dX8_openComments_33
  · refine lv_iconst (v := zI (0)) hx hb dX8_openComments_9 rfl ?_
    refine lv_goto (tgt := 14) hx hb dX8_openComments_10 (by decide) ?_
    refine g_put (ci := 8) (ty := .int) X in_X8_openComments_8 tyX8 tyX8_ok nmX8 rfl hW hS hm70 0 (by decide) (hts _ (List.mem_of_getElem? (i := 1) rfl)) rfl (by decide +kernel) (rfl) (rfl) (Nat.le_of_ble_eq_true rfl) dX8_openComments_14 (fun C7 H locs hs8 hn9 hW hS => ?_)
    have hmd2 := md.thrown hmd hs8 (fun k' h1 h2 => ((hn9 k' 0 (by omega)).trans rfl))
    refine lv_aload_n hx hb dX8_openComments_17 rfl (lv_at hl 0 rfl) ?_
    refine g_get (ci := 8) X in_X8_openComments_8 rfl hW hs8 0 (by decide) (hts _ (List.mem_of_getElem? (i := 1) rfl)) rfl dX8_openComments_18 ?_
    refine z_if_ne (tgt := 32) hx hb dX8_openComments_21 (by decide) (⟨by omega, by omega⟩) (fun h_21 => absurd h_21 (by omega)) (fun h_21 => ?_)
    refine lv_aload_n hx hb dX8_openComments_24 rfl (lv_at hl 0 rfl) ?_
    refine lv_iload_n hx hb dX8_openComments_25 rfl (lv_at hl 1 rfl) ?_
    rw [show zI cc = zI ((cc.toNat : Nat) : Int) from congrArg zI (by omega)]
    refine g_ci (g_runV X (k_X8_opens (i := (cc.toNat)) hmd2 hwf (show cc.toNat < S 0 0 by omega)) (cwV 1 hts gX8_openComments_X8_opens rfl rfl rfl ⟨rfl, ds_X8_opens⟩ ⟨Nat.le_of_ble_eq_true rfl, Nat.le_of_ble_eq_true rfl⟩) hW hS hs8 rfl rfl hl.1 rfl (Nat.le_of_ble_eq_true rfl) dX8_openComments_26 ⟨Nat.le_of_ble_eq_true rfl, Nat.le_of_ble_eq_true rfl⟩) hS (fun r12 C10 H locs hp11 hW hS => ?_)
    obtain ⟨rfl, ehp11⟩ := hp11
    rw [ehp11] at hW
    refine lv_goto (tgt := 33) hx hb dX8_openComments_29 (by decide) ?_
    have hcd : cd_C S cc = 0 := by unfold cd_C; rw [if_neg (fun z => z h_6)]
    exact kret _ _ _ _ _ _ _ _ (⟨(fun _ => rfl), by rw [hcd]; exact md.thrown hmd hs8 (fun k' h1 h2 => ((hn9 k' 0 (by omega)).trans rfl)), fun k' i' h => (hn9 k' i' (by omega))⟩) hW hS (Nat.le_of_ble_eq_true rfl) (Nat.le_of_ble_eq_true rfl) dX8_openComments_33

theorem ds_X8_hasApproved : yX8_hasApproved.cls ≠ "java/lang/invoke/MethodHandle" ∧ yX8_hasApproved.cls ≠ "java/lang/invoke/VarHandle" ∧ (parseMethodDescriptor yX8_hasApproved.desc).map (fun d => d.parameters.length) = some 2 := by decide +kernel
theorem in_X8_hasApproved_8 : ∀ w ∈ wsX80, w ∈ wsX8_hasApproved := by decide +kernel
def rX8_hasApproved : Room := { frames := 2, cells := 0, slots := 0, locals := 43 }
set_option maxHeartbeats 4000000 in
set_option maxRecDepth 100000 in
theorem k_X8_hasApproved {l : Launch} {Z : gZ} {B : gB} {C0 : gC} {S : gS} {T : gTx} {th : Int} {cc a : Int} (hmd : md Z B C0 S T th) (hwf : wf S T) (rcc : zr cc) (ra : zr a) : Met l yX8_hasApproved wsX8_hasApproved rX8_hasApproved (gPc Z B C0 [.ref (B 70 0), .int (zI cc), .int (zI a)]) (gQi Z B (fun r C1 => (cd_CU S cc a = 0 → r = zI (if 1 ≤ S 7 (5 * cc.toNat + a.toNat) then 1 else 0)) ∧ md Z B C1 S T (cd_CU S cc a : Int) ∧ fmd C0 C1 ∧ (r = zI 0 ∨ r = zI 1))) 0 0 (gA Z) := by
  refine g_ofZ (cc := cX8_hasApproved) (maxL := 3) (by decide) rfl (Nat.le_of_ble_eq_true rfl) (fun r C1 h => by rcases h.2.2.2 with h | h <;> rw [h] <;> rfl) ?_
  intro p e s m args below meth c Q X kret hW hS ls hl
  have hx := X.1.1
  have hb := X.1.2.1
  have hts := X.1.2.2.2.2
  have hl : lv_has ls 3 [(0, .ref (B 70 0)), (1, .int (zI cc)), (2, .int (zI a))] := hl
  obtain ⟨⟨mg, hm70⟩, ⟨F71, F72, hm71, hm72, hmt⟩, ⟨F73, hm73, ha73⟩, ⟨F74, hm74, ha74⟩, ⟨F75, hm75, ha75⟩, ⟨F76, hm76, ha76⟩, ⟨F77, hm77, ha77⟩, ⟨F78, hm78, ha78⟩, ⟨F79, hm79, ha79⟩, ⟨F80, hm80, ha80⟩, ⟨F81, hm81, ha81⟩, ⟨F82, hm82, ha82⟩, ⟨F83, hm83, ha83⟩, ⟨F84, hm84, ha84⟩, ⟨F85, hm85, ha85⟩, ⟨F86, hm86, ha86⟩, ⟨F87, hm87⟩, ⟨F88, hm88⟩, ⟨F89, hm89⟩, ⟨F90, hm90⟩⟩ := id hmd
  have hwn := hwf.n
  refine lv_aload_n hx hb dX8_hasApproved_0 rfl (lv_at hl 0 rfl) ?_
  refine lv_aload_n hx hb dX8_hasApproved_1 rfl (lv_at hl 0 rfl) ?_
  refine lv_iload_n hx hb dX8_hasApproved_2 rfl (lv_at hl 1 rfl) ?_
  refine g_ci (g_runV X (k_X8_isChange (a := cc) hmd hwf (rcc)) (cwV 1 hts gX8_hasApproved_X8_isChange rfl rfl rfl ⟨rfl, ds_X8_isChange⟩ ⟨Nat.le_of_ble_eq_true rfl, Nat.le_of_ble_eq_true rfl⟩) hW hS hm70 rfl rfl hl.1 rfl (Nat.le_of_ble_eq_true rfl) dX8_hasApproved_3 ⟨Nat.le_of_ble_eq_true rfl, Nat.le_of_ble_eq_true rfl⟩) hS (fun r3 C1 H locs hp2 hW hS => ?_)
  obtain ⟨rfl, ehp2⟩ := hp2
  rw [ehp2] at hW
  refine z_ifb_eq (tgt := 20) hx hb dX8_hasApproved_6 (by decide) (fun h_6 => ?_) (fun h_6 => ?_)
  · refine lv_iconst (v := zI (1)) hx hb dX8_hasApproved_20 rfl ?_
    refine g_put (ci := 8) (ty := .int) X in_X8_hasApproved_8 tyX8 tyX8_ok nmX8 rfl hW hS hm70 0 (by decide) (hts _ (List.mem_of_getElem? (i := 1) rfl)) rfl (by decide +kernel) (rfl) (rfl) (Nat.le_of_ble_eq_true rfl) dX8_hasApproved_21 (fun C4 H locs hs5 hn6 hW hS => ?_)
    have hmd2 := md.thrown hmd hs5 (fun k' h1 h2 => ((hn6 k' 0 (by omega)).trans rfl))
    refine lv_aload_n hx hb dX8_hasApproved_24 rfl (lv_at hl 0 rfl) ?_
    refine g_get (ci := 8) X in_X8_hasApproved_8 rfl hW hs5 0 (by decide) (hts _ (List.mem_of_getElem? (i := 1) rfl)) rfl dX8_hasApproved_25 ?_
    refine z_if_ne (tgt := 44) hx hb dX8_hasApproved_28 (by decide) (⟨by omega, by omega⟩) (fun h_28 => ?_) (fun h_28 => absurd h_28 (by omega))
    refine lv_iconst (v := zI (0)) hx hb dX8_hasApproved_44 rfl ?_
    have hcd : cd_CU S cc a = 1 := by unfold cd_CU; rw [if_pos (fun z => h_6 z.1)]
    exact kret _ _ _ _ _ _ _ _ (⟨(fun z9 => by rw [hcd] at z9; cases z9), by rw [hcd]; exact md.thrown hmd hs5 (fun k' h1 h2 => ((hn6 k' 0 (by omega)).trans rfl)), fun k' i' h => (hn6 k' i' (by omega)), Or.inl rfl⟩) hW hS (Nat.le_of_ble_eq_true rfl) (Nat.le_of_ble_eq_true rfl) dX8_hasApproved_45
  · refine lv_iload_n hx hb dX8_hasApproved_9 rfl (lv_at hl 2 rfl) ?_
    refine g_ci (g_runS X (k_X8_isUser (B := B) (C0 := C0) (a := a) (ra)) (va_cwS 1 hts gX8_hasApproved_X8_isUser rfl rfl rfl ds_X8_isUser ⟨Nat.le_of_ble_eq_true rfl, Nat.le_of_ble_eq_true rfl⟩) hW hS rfl hl.1 rfl (Nat.le_of_ble_eq_true rfl) dX8_hasApproved_10 ⟨Nat.le_of_ble_eq_true rfl, Nat.le_of_ble_eq_true rfl⟩) hS (fun r9 C7 H locs hp8 hW hS => ?_)
    obtain ⟨rfl, ehp8⟩ := hp8
    rw [ehp8] at hW
    refine z_ifb_eq (tgt := 20) hx hb dX8_hasApproved_13 (by decide) (fun h_13 => ?_) (fun h_13 => ?_)
    · refine lv_iconst (v := zI (1)) hx hb dX8_hasApproved_20 rfl ?_
      refine g_put (ci := 8) (ty := .int) X in_X8_hasApproved_8 tyX8 tyX8_ok nmX8 rfl hW hS hm70 0 (by decide) (hts _ (List.mem_of_getElem? (i := 1) rfl)) rfl (by decide +kernel) (rfl) (rfl) (Nat.le_of_ble_eq_true rfl) dX8_hasApproved_21 (fun C10 H locs hs11 hn12 hW hS => ?_)
      have hmd2 := md.thrown hmd hs11 (fun k' h1 h2 => ((hn12 k' 0 (by omega)).trans rfl))
      refine lv_aload_n hx hb dX8_hasApproved_24 rfl (lv_at hl 0 rfl) ?_
      refine g_get (ci := 8) X in_X8_hasApproved_8 rfl hW hs11 0 (by decide) (hts _ (List.mem_of_getElem? (i := 1) rfl)) rfl dX8_hasApproved_25 ?_
      refine z_if_ne (tgt := 44) hx hb dX8_hasApproved_28 (by decide) (⟨by omega, by omega⟩) (fun h_28 => ?_) (fun h_28 => absurd h_28 (by omega))
      refine lv_iconst (v := zI (0)) hx hb dX8_hasApproved_44 rfl ?_
      have hcd : cd_CU S cc a = 1 := by unfold cd_CU; rw [if_pos (fun z => h_13 z.2)]
      exact kret _ _ _ _ _ _ _ _ (⟨(fun z9 => by rw [hcd] at z9; cases z9), by rw [hcd]; exact md.thrown hmd hs11 (fun k' h1 h2 => ((hn12 k' 0 (by omega)).trans rfl)), fun k' i' h => (hn12 k' i' (by omega)), Or.inl rfl⟩) hW hS (Nat.le_of_ble_eq_true rfl) (Nat.le_of_ble_eq_true rfl) dX8_hasApproved_45
    · refine lv_iconst (v := zI (0)) hx hb dX8_hasApproved_16 rfl ?_
      refine lv_goto (tgt := 21) hx hb dX8_hasApproved_17 (by decide) ?_
      refine g_put (ci := 8) (ty := .int) X in_X8_hasApproved_8 tyX8 tyX8_ok nmX8 rfl hW hS hm70 0 (by decide) (hts _ (List.mem_of_getElem? (i := 1) rfl)) rfl (by decide +kernel) (rfl) (rfl) (Nat.le_of_ble_eq_true rfl) dX8_hasApproved_21 (fun C13 H locs hs14 hn15 hW hS => ?_)
      have hmd2 := md.thrown hmd hs14 (fun k' h1 h2 => ((hn15 k' 0 (by omega)).trans rfl))
      refine lv_aload_n hx hb dX8_hasApproved_24 rfl (lv_at hl 0 rfl) ?_
      refine g_get (ci := 8) X in_X8_hasApproved_8 rfl hW hs14 0 (by decide) (hts _ (List.mem_of_getElem? (i := 1) rfl)) rfl dX8_hasApproved_25 ?_
      refine z_if_ne (tgt := 44) hx hb dX8_hasApproved_28 (by decide) (⟨by omega, by omega⟩) (fun h_28 => absurd h_28 (by omega)) (fun h_28 => ?_)
      refine lv_aload_n hx hb dX8_hasApproved_31 rfl (lv_at hl 0 rfl) ?_
      refine lv_iload_n hx hb dX8_hasApproved_32 rfl (lv_at hl 1 rfl) ?_
      refine lv_iload_n hx hb dX8_hasApproved_33 rfl (lv_at hl 2 rfl) ?_
      rw [show zI cc = zI ((cc.toNat : Nat) : Int) from congrArg zI (by omega)]
      rw [show zI a = zI ((a.toNat : Nat) : Int) from congrArg zI (by omega)]
      refine g_ci (g_runV X (k_X8_given (i := (cc.toNat)) (u := (a.toNat)) hmd2 hwf (show cc.toNat < S 0 0 by omega) (by omega)) (cwV 2 hts gX8_hasApproved_X8_given rfl rfl rfl ⟨rfl, ds_X8_given⟩ ⟨Nat.le_of_ble_eq_true rfl, Nat.le_of_ble_eq_true rfl⟩) hW hS hs14 rfl rfl hl.1 rfl (Nat.le_of_ble_eq_true rfl) dX8_hasApproved_34 ⟨Nat.le_of_ble_eq_true rfl, Nat.le_of_ble_eq_true rfl⟩) hS (fun r18 C16 H locs hp17 hW hS => ?_)
      obtain ⟨rfl, ehp17⟩ := hp17
      rw [ehp17] at hW
      have hw7 := (hwf.ch (show cc.toNat < S 0 0 by omega)).2.2.2.2.2 a.toNat (by omega)
      have hwi := hwf.ch (show cc.toNat < S 0 0 by omega)
      refine z_if_lt (tgt := 44) hx hb dX8_hasApproved_37 (by decide) (⟨by omega, by omega⟩) (fun h_37 => ?_) (fun h_37 => ?_)
      · refine lv_iconst (v := zI (0)) hx hb dX8_hasApproved_44 rfl ?_
        have hcd : cd_CU S cc a = 0 := by unfold cd_CU; rw [if_neg (fun z => z ⟨h_6, h_13⟩)]
        exact kret _ _ _ _ _ _ _ _ (⟨(fun _ => by rw [if_neg (by omega)]), by rw [hcd]; exact md.thrown hmd hs14 (fun k' h1 h2 => ((hn15 k' 0 (by omega)).trans rfl)), fun k' i' h => (hn15 k' i' (by omega)), Or.inl rfl⟩) hW hS (Nat.le_of_ble_eq_true rfl) (Nat.le_of_ble_eq_true rfl) dX8_hasApproved_45
      · refine lv_iconst (v := zI (1)) hx hb dX8_hasApproved_40 rfl ?_
        refine lv_goto (tgt := 45) hx hb dX8_hasApproved_41 (by decide) ?_
        have hcd : cd_CU S cc a = 0 := by unfold cd_CU; rw [if_neg (fun z => z ⟨h_6, h_13⟩)]
        exact kret _ _ _ _ _ _ _ _ (⟨(fun _ => by rw [if_pos (by omega)]), by rw [hcd]; exact md.thrown hmd hs14 (fun k' h1 h2 => ((hn15 k' 0 (by omega)).trans rfl)), fun k' i' h => (hn15 k' i' (by omega)), Or.inr rfl⟩) hW hS (Nat.le_of_ble_eq_true rfl) (Nat.le_of_ble_eq_true rfl) dX8_hasApproved_45
