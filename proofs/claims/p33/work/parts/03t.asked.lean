theorem ds_X7_mainLines : yX7_mainLines.cls ≠ "java/lang/invoke/MethodHandle" ∧ yX7_mainLines.cls ≠ "java/lang/invoke/VarHandle" ∧ (parseMethodDescriptor yX7_mainLines.desc).map (fun d => d.parameters.length) = some 0 := by decide +kernel
theorem in_X7_mainLines_7 : ∀ w ∈ wsX70, w ∈ wsX7_mainLines := by decide +kernel
def rX7_mainLines : Room := { frames := 1, cells := 0, slots := 0, locals := 20 }
set_option maxHeartbeats 4000000 in
set_option maxRecDepth 100000 in
theorem k_X7_mainLines {l : Launch} {Z : gZ} {B : gB} {C0 : gC} {S : gS} {T : gTx} (hcs : cs Z B C0 S T) (hwf : wf S T) : Met l yX7_mainLines wsX7_mainLines rX7_mainLines (gPc Z B C0 [.ref (B 0 0)]) (gQi Z B (fun r C1 => r = zI ((T 0).length : Int) ∧ C1 = C0)) 0 0 (gA Z) := by
  refine g_ofI (cc := cX7_mainLines) (maxL := 1) (by decide) rfl (Nat.le_of_ble_eq_true rfl) ?_
  intro p e s m args below meth c Q X kret hW hS ls hl
  have hx := X.1.1
  have hb := X.1.2.1
  have hts := X.1.2.2.2.2
  have hl : lv_has ls 1 [(0, .ref (B 0 0))] := hl
  obtain ⟨hb0, hb1, ⟨F3, hb3, hb3a⟩, ⟨f4, hb4, hb4a, hb4b⟩, ⟨f5, hb5, hb5a, hb5b⟩, ⟨F6, hb6, hb6a⟩, hb7, hb8, hb9, hb10, hb11⟩ := id hcs
  have hwn := hwf.n
  refine lv_aload_n hx hb dX7_mainLines_0 rfl (lv_at hl 0 rfl) ?_
  refine g_get (ci := 7) X in_X7_mainLines_7 rfl hW hb0 0 (by decide) (hts _ (List.mem_of_getElem? (i := 1) rfl)) rfl dX7_mainLines_1 ?_
  refine g_ci (g_runV X (k_X5_size (t := T 0) hb1 ) (cwV 0 hts gX7_mainLines_X5_size rfl rfl rfl ⟨rfl, ds_X5_size⟩ ⟨Nat.le_of_ble_eq_true rfl, Nat.le_of_ble_eq_true rfl⟩) hW hS hb1.2.2.1 rfl rfl hl.1 rfl (Nat.le_of_ble_eq_true rfl) dX7_mainLines_4 ⟨Nat.le_of_ble_eq_true rfl, Nat.le_of_ble_eq_true rfl⟩) hS (fun r3 C1 H locs hp2 hW hS => ?_)
  obtain ⟨rfl, ehp2⟩ := hp2
  rw [ehp2] at hW
  exact kret _ _ _ _ _ _ _ _ (⟨rfl, rfl⟩) hW hS (Nat.le_of_ble_eq_true rfl) (Nat.le_of_ble_eq_true rfl) dX7_mainLines_7

theorem ds_X7_landedAt : yX7_landedAt.cls ≠ "java/lang/invoke/MethodHandle" ∧ yX7_landedAt.cls ≠ "java/lang/invoke/VarHandle" ∧ (parseMethodDescriptor yX7_landedAt.desc).map (fun d => d.parameters.length) = some 1 := by decide +kernel
theorem in_X7_landedAt_7 : ∀ w ∈ wsX70, w ∈ wsX7_landedAt := by decide +kernel
def rX7_landedAt : Room := { frames := 6, cells := 1, slots := 6, locals := 82 }
set_option maxHeartbeats 4000000 in
set_option maxRecDepth 100000 in
theorem k_X7_landedAt {l : Launch} (hfl : l.stackTraces = false) {Z : gZ} {B : gB} {C0 : gC} {S : gS} {T : gTx} {a : Int} (hcs : cs Z B C0 S T) (hcx : cx Z B C0) (hwf : wf S T) (ra : zr a) : vx_Met l yX7_landedAt wsX7_landedAt rX7_landedAt (gPc Z B C0 [.ref (B 0 0), .int (zI a)]) (gQi Z B (fun r C1 => (cd_landedAt S a = 0 ∧ r = zI (S 6 a.toNat : Int)) ∧ cs Z B C1 S T ∧ cx Z B C1 ∧ gfo C0 C1)) (gXC Z B (fun E C1 => (E = "java/util/NoSuchElementException" ∧ cd_landedAt S a = 1) ∧ cs Z B C1 S T ∧ cx Z B C1 ∧ gfo C0 C1)) 1 6 (gA Z) := by
  refine g_ofIx (cc := cX7_landedAt) (maxL := 2) hfl (by decide) rfl rfl (Nat.le_of_ble_eq_true rfl) (Nat.le_of_ble_eq_true rfl) (Nat.le_of_ble_eq_true rfl) (Nat.le_of_ble_eq_true rfl) (Nat.le_of_ble_eq_true rfl) ?_
  intro p e s m args below meth c Q X kret ko kt hW hS ls hl
  have hx := X.1.1
  have hb := X.1.2.1
  have hts := X.1.2.2.2.2
  have hl : lv_has ls 2 [(0, .ref (B 0 0)), (1, .int (zI a))] := hl
  obtain ⟨hb0, hb1, ⟨F3, hb3, hb3a⟩, ⟨f4, hb4, hb4a, hb4b⟩, ⟨f5, hb5, hb5a, hb5b⟩, ⟨F6, hb6, hb6a⟩, hb7, hb8, hb9, hb10, hb11⟩ := id hcs
  have hwn := hwf.n
  refine lv_iload_n hx hb dX7_landedAt_0 rfl (lv_at hl 1 rfl) ?_
  refine z_if_lt (tgt := 12) hx hb dX7_landedAt_1 (by decide) (ra) (fun h_1 => ?_) (fun h_1 => ?_)
  · exact kt "java/util/NoSuchElementException" "no such position" 171 238 175 _ _ _ _ _ _ _ _ (pubx (⟨rfl, by unfold cd_landedAt; rw [if_pos (by omega)]⟩) hcs hcx gfo.rfl' rfl) hW hS hl ex_4 st_14 (by decide +kernel) (List.mem_of_getElem? (i := 1) rfl) (List.mem_of_getElem? (i := 2) rfl) (fun w hw => List.mem_cons_of_mem _ (List.mem_append_right _ hw)) vxo_4_175 vxn_4_175 (Nat.le_of_ble_eq_true rfl) (Nat.le_of_ble_eq_true rfl) dX7_landedAt_12 dX7_landedAt_15 (Or.inl ⟨dX7_landedAt_16, dX7_landedAt_18, dX7_landedAt_21⟩)
  · refine lv_iload_n hx hb dX7_landedAt_4 rfl (lv_at hl 1 rfl) ?_
    refine lv_aload_n hx hb dX7_landedAt_5 rfl (lv_at hl 0 rfl) ?_
    refine g_get (ci := 7) X in_X7_landedAt_7 rfl hW hb0 8 (by decide) (hts _ (List.mem_of_getElem? (i := 3) rfl)) rfl dX7_landedAt_6 ?_
    refine z_icmp_lt (tgt := 22) hx hb dX7_landedAt_9 (by decide) (ra) (⟨by have := hwf.ld; omega, by have := hwf.ld; omega⟩) (fun h_9 => ?_) (fun h_9 => ?_)
    · refine lv_aload_n hx hb dX7_landedAt_22 rfl (lv_at hl 0 rfl) ?_
      refine g_get (ci := 7) X in_X7_landedAt_7 rfl hW hb0 7 (by decide) (hts _ (List.mem_of_getElem? (i := 4) rfl)) rfl dX7_landedAt_23 ?_
      refine lv_iload_n hx hb dX7_landedAt_26 rfl (lv_at hl 1 rfl) ?_
      refine g_ci (g_runS X (k_X7_cell (a := a) hb6 (by decide) (⟨by omega, by omega⟩)) (va_cwS 2 hts gX7_landedAt_X7_cell rfl rfl rfl ds_X7_cell ⟨Nat.le_of_ble_eq_true rfl, Nat.le_of_ble_eq_true rfl⟩) hW hS rfl hl.1 rfl (Nat.le_of_ble_eq_true rfl) dX7_landedAt_27 ⟨Nat.le_of_ble_eq_true rfl, Nat.le_of_ble_eq_true rfl⟩) hS (fun r3 C1 H locs hp2 hW hS => ?_)
      rw [if_pos (show (0 : Int) ≤ a ∧ a < ((4 : Nat) : Int) from ⟨by omega, by have := hwf.ld; omega⟩)] at hp2
      obtain ⟨rfl, ehp2⟩ := hp2
      rw [ehp2] at hW
      exact kret _ _ _ _ _ _ _ _ (⟨⟨by unfold cd_landedAt; rw [if_neg (by omega)], congrArg zI (by rw [hb6a _ (by omega)])⟩, hcs, hcx, gfo.rfl'⟩) hW hS (Nat.le_of_ble_eq_true rfl) (Nat.le_of_ble_eq_true rfl) dX7_landedAt_30
    · exact kt "java/util/NoSuchElementException" "no such position" 171 238 175 _ _ _ _ _ _ _ _ (pubx (⟨rfl, by unfold cd_landedAt; rw [if_pos (by omega)]⟩) hcs hcx gfo.rfl' rfl) hW hS hl ex_4 st_14 (by decide +kernel) (List.mem_of_getElem? (i := 1) rfl) (List.mem_of_getElem? (i := 2) rfl) (fun w hw => List.mem_cons_of_mem _ (List.mem_append_right _ hw)) vxo_4_175 vxn_4_175 (Nat.le_of_ble_eq_true rfl) (Nat.le_of_ble_eq_true rfl) dX7_landedAt_12 dX7_landedAt_15 (Or.inl ⟨dX7_landedAt_16, dX7_landedAt_18, dX7_landedAt_21⟩)

theorem ds_X7_mainLine : yX7_mainLine.cls ≠ "java/lang/invoke/MethodHandle" ∧ yX7_mainLine.cls ≠ "java/lang/invoke/VarHandle" ∧ (parseMethodDescriptor yX7_mainLine.desc).map (fun d => d.parameters.length) = some 1 := by decide +kernel
theorem in_X7_mainLine_7 : ∀ w ∈ wsX70, w ∈ wsX7_mainLine := by decide +kernel
def rX7_mainLine : Room := { frames := 7, cells := 1, slots := 6, locals := 103 }
set_option maxHeartbeats 4000000 in
set_option maxRecDepth 100000 in
theorem k_X7_mainLine {l : Launch} (hfl : l.stackTraces = false) {Z : gZ} {B : gB} {C0 : gC} {S : gS} {T : gTx} {a : Int} (hcs : cs Z B C0 S T) (hcx : cx Z B C0) (hwf : wf S T) (ra : zr a) : vx_Met l yX7_mainLine wsX7_mainLine rX7_mainLine (gPc Z B C0 [.ref (B 0 0), .int (zI a)]) (gQi Z B (fun r C1 => (cd_mainLine T a = 0 ∧ r = zI (ta (T 0) a)) ∧ cs Z B C1 S T ∧ cx Z B C1 ∧ gfo C0 C1)) (gXC Z B (fun E C1 => (E = "java/util/NoSuchElementException" ∧ cd_mainLine T a = 1) ∧ cs Z B C1 S T ∧ cx Z B C1 ∧ gfo C0 C1)) 1 6 (gA Z) := by
  refine g_ofIx (cc := cX7_mainLine) (maxL := 2) hfl (by decide) rfl rfl (Nat.le_of_ble_eq_true rfl) (Nat.le_of_ble_eq_true rfl) (Nat.le_of_ble_eq_true rfl) (Nat.le_of_ble_eq_true rfl) (Nat.le_of_ble_eq_true rfl) ?_
  intro p e s m args below meth c Q X kret ko kt hW hS ls hl
  have hx := X.1.1
  have hb := X.1.2.1
  have hts := X.1.2.2.2.2
  have hl : lv_has ls 2 [(0, .ref (B 0 0)), (1, .int (zI a))] := hl
  obtain ⟨hb0, hb1, ⟨F3, hb3, hb3a⟩, ⟨f4, hb4, hb4a, hb4b⟩, ⟨f5, hb5, hb5a, hb5b⟩, ⟨F6, hb6, hb6a⟩, hb7, hb8, hb9, hb10, hb11⟩ := id hcs
  have hwn := hwf.n
  refine lv_aload_n hx hb dX7_mainLine_0 rfl (lv_at hl 0 rfl) ?_
  refine g_get (ci := 7) X in_X7_mainLine_7 rfl hW hb0 0 (by decide) (hts _ (List.mem_of_getElem? (i := 1) rfl)) rfl dX7_mainLine_1 ?_
  refine lv_iload_n hx hb dX7_mainLine_4 rfl (lv_at hl 1 rfl) ?_
  refine g_cvx (g_runSx X (k_X7_checkLine hfl (t := T 0) (a := a) hb1 (ra)) (va_cwS 2 hts gX7_mainLine_X7_checkLine rfl rfl rfl ds_X7_checkLine ⟨Nat.le_of_ble_eq_true rfl, Nat.le_of_ble_eq_true rfl⟩) hW hS rfl hl.1 rfl (Nat.le_of_ble_eq_true rfl) dX7_mainLine_5 ⟨Nat.le_of_ble_eq_true rfl, Nat.le_of_ble_eq_true rfl⟩) hS (fun E9 ce9 q9 C9 H9 locs9 hp9 hW9 hS9 e1 e2 e3 => ko E9 ce9 q9 C9 H9 locs9 _ _ _ _ _ (pubx (⟨hp9.1, by unfold cd_mainLine; rw [if_pos (hp9.2.1)]⟩) hcs hcx gfo.rfl' hp9.2.2) hW9 hS9 e1 e2 e3 (Nat.le_of_ble_eq_true rfl) (Nat.le_of_ble_eq_true rfl)) (fun C1 H locs hp2 hW hS => ?_)
  obtain ⟨hk, ehp2⟩ := hp2
  rw [ehp2] at hW
  refine lv_aload_n hx hb dX7_mainLine_8 rfl (lv_at hl 0 rfl) ?_
  refine g_get (ci := 7) X in_X7_mainLine_7 rfl hW hb0 0 (by decide) (hts _ (List.mem_of_getElem? (i := 1) rfl)) rfl dX7_mainLine_9 ?_
  refine lv_iload_n hx hb dX7_mainLine_12 rfl (lv_at hl 1 rfl) ?_
  refine g_ci (g_runV X (k_X5_at (t := T 0) hb1 (a := a) (ra)) (cwV 1 hts gX7_mainLine_X5_at rfl rfl rfl ⟨rfl, ds_X5_at⟩ ⟨Nat.le_of_ble_eq_true rfl, Nat.le_of_ble_eq_true rfl⟩) hW hS hb1.2.2.1 rfl rfl hl.1 rfl (Nat.le_of_ble_eq_true rfl) dX7_mainLine_13 ⟨Nat.le_of_ble_eq_true rfl, Nat.le_of_ble_eq_true rfl⟩) hS (fun r6 C4 H locs hp5 hW hS => ?_)
  obtain ⟨rfl, ehp5⟩ := hp5
  rw [ehp5] at hW
  exact kret _ _ _ _ _ _ _ _ (⟨⟨by unfold cd_mainLine; rw [if_neg (fun z => z hk)], rfl⟩, hcs, hcx, gfo.rfl'⟩) hW hS (Nat.le_of_ble_eq_true rfl) (Nat.le_of_ble_eq_true rfl) dX7_mainLine_16

theorem ds_X7_rounds : yX7_rounds.cls ≠ "java/lang/invoke/MethodHandle" ∧ yX7_rounds.cls ≠ "java/lang/invoke/VarHandle" ∧ (parseMethodDescriptor yX7_rounds.desc).map (fun d => d.parameters.length) = some 1 := by decide +kernel
theorem in_X7_rounds_1 : ∀ w ∈ wsX10, w ∈ wsX7_rounds := by decide +kernel
def rX7_rounds : Room := { frames := 7, cells := 1, slots := 6, locals := 104 }
set_option maxHeartbeats 4000000 in
set_option maxRecDepth 100000 in
theorem k_X7_rounds {l : Launch} (hfl : l.stackTraces = false) {Z : gZ} {B : gB} {C0 : gC} {S : gS} {T : gTx} {cc : Int} (hcs : cs Z B C0 S T) (hcx : cx Z B C0) (hwf : wf S T) (rcc : zr cc) : vx_Met l yX7_rounds wsX7_rounds rX7_rounds (gPc Z B C0 [.ref (B 0 0), .int (zI cc)]) (gQi Z B (fun r C1 => (cd_C S cc = 0 ∧ r = zI (S 2 cc.toNat : Int)) ∧ cs Z B C1 S T ∧ cx Z B C1 ∧ gfo C0 C1)) (gXC Z B (fun E C1 => (E = "java/lang/IndexOutOfBoundsException" ∧ cd_C S cc = 1) ∧ cs Z B C1 S T ∧ cx Z B C1 ∧ gfo C0 C1)) 1 6 (gA Z) := by
  refine g_ofIx (cc := cX7_rounds) (maxL := 2) hfl (by decide) rfl rfl (Nat.le_of_ble_eq_true rfl) (Nat.le_of_ble_eq_true rfl) (Nat.le_of_ble_eq_true rfl) (Nat.le_of_ble_eq_true rfl) (Nat.le_of_ble_eq_true rfl) ?_
  intro p e s m args below meth c Q X kret ko kt hW hS ls hl
  have hx := X.1.1
  have hb := X.1.2.1
  have hts := X.1.2.2.2.2
  have hl : lv_has ls 2 [(0, .ref (B 0 0)), (1, .int (zI cc))] := hl
  obtain ⟨hb0, hb1, ⟨F3, hb3, hb3a⟩, ⟨f4, hb4, hb4a, hb4b⟩, ⟨f5, hb5, hb5a, hb5b⟩, ⟨F6, hb6, hb6a⟩, hb7, hb8, hb9, hb10, hb11⟩ := id hcs
  have hwn := hwf.n
  refine lv_aload_n hx hb dX7_rounds_0 rfl (lv_at hl 0 rfl) ?_
  refine lv_iload_n hx hb dX7_rounds_1 rfl (lv_at hl 1 rfl) ?_
  refine g_crx (g_runVx X (k_X7_changeOf hfl (a := cc) hcs hwf (rcc)) (cwV 1 hts gX7_rounds_X7_changeOf rfl rfl rfl ⟨rfl, ds_X7_changeOf⟩ ⟨Nat.le_of_ble_eq_true rfl, Nat.le_of_ble_eq_true rfl⟩) hW hS hb0 rfl rfl hl.1 rfl (Nat.le_of_ble_eq_true rfl) dX7_rounds_2 ⟨Nat.le_of_ble_eq_true rfl, Nat.le_of_ble_eq_true rfl⟩) hS (fun E9 ce9 q9 C9 H9 locs9 hp9 hW9 hS9 e1 e2 e3 => ko E9 ce9 q9 C9 H9 locs9 _ _ _ _ _ (pubx (⟨hp9.1, by unfold cd_C; rw [if_pos (hp9.2.1)]⟩) hcs hcx gfo.rfl' hp9.2.2) hW9 hS9 e1 e2 e3 (Nat.le_of_ble_eq_true rfl) (Nat.le_of_ble_eq_true rfl)) (fun r3 C1 H locs hp2 hW hS => ?_)
  obtain ⟨⟨hkc, rfl⟩, ehp2⟩ := hp2
  rw [ehp2] at hW
  have hicc : cc.toNat < S 0 0 := by omega
  obtain ⟨hc0, hc1, hc2, ⟨f45, hc3, hc3a, hc3b⟩, hc4, hc4n, hc5, F50, hc6, hc6a⟩ := id (cs.ch hcs hicc)
  have hwicc := hwf.ch hicc
  refine g_getN (ci := 1) X in_X7_rounds_1 rfl hW hc0 6 (by decide) _ nf_1 rfl rfl dX7_rounds_5 ?_
  exact kret _ _ _ _ _ _ _ _ (⟨⟨by unfold cd_C; rw [if_neg (fun z => z hkc)], rfl⟩, hcs, hcx, gfo.rfl'⟩) hW hS (Nat.le_of_ble_eq_true rfl) (Nat.le_of_ble_eq_true rfl) dX7_rounds_8

theorem ds_X7_lines : yX7_lines.cls ≠ "java/lang/invoke/MethodHandle" ∧ yX7_lines.cls ≠ "java/lang/invoke/VarHandle" ∧ (parseMethodDescriptor yX7_lines.desc).map (fun d => d.parameters.length) = some 2 := by decide +kernel
def rX7_lines : Room := { frames := 8, cells := 2, slots := 12, locals := 124 }
set_option maxHeartbeats 4000000 in
set_option maxRecDepth 100000 in
theorem k_X7_lines {l : Launch} (hfl : l.stackTraces = false) {Z : gZ} {B : gB} {C0 : gC} {S : gS} {T : gTx} {cc a : Int} (hcs : cs Z B C0 S T) (hcx : cx Z B C0) (hwf : wf S T) (rcc : zr cc) (ra : zr a) : vx_Met l yX7_lines wsX7_lines rX7_lines (gPc Z B C0 [.ref (B 0 0), .int (zI cc), .int (zI a)]) (gQi Z B (fun r C1 => (cd_lines S cc a = 0 ∧ r = zI ((rdt T cc.toNat a.toNat).length : Int)) ∧ cs Z B C1 S T ∧ cx Z B C1 ∧ gfo C0 C1)) (gXC Z B (fun E C1 => (E = "java/lang/IndexOutOfBoundsException" ∧ cd_lines S cc a = 1 ∨ E = "java/util/NoSuchElementException" ∧ cd_lines S cc a = 2) ∧ cs Z B C1 S T ∧ cx Z B C1 ∧ gfo C0 C1)) 2 12 (gA Z) := by
  refine g_ofIx (cc := cX7_lines) (maxL := 3) hfl (by decide) rfl rfl (Nat.le_of_ble_eq_true rfl) (Nat.le_of_ble_eq_true rfl) (Nat.le_of_ble_eq_true rfl) (Nat.le_of_ble_eq_true rfl) (Nat.le_of_ble_eq_true rfl) ?_
  intro p e s m args below meth c Q X kret ko kt hW hS ls hl
  have hx := X.1.1
  have hb := X.1.2.1
  have hts := X.1.2.2.2.2
  have hl : lv_has ls 3 [(0, .ref (B 0 0)), (1, .int (zI cc)), (2, .int (zI a))] := hl
  obtain ⟨hb0, hb1, ⟨F3, hb3, hb3a⟩, ⟨f4, hb4, hb4a, hb4b⟩, ⟨f5, hb5, hb5a, hb5b⟩, ⟨F6, hb6, hb6a⟩, hb7, hb8, hb9, hb10, hb11⟩ := id hcs
  have hwn := hwf.n
  refine lv_aload_n hx hb dX7_lines_0 rfl (lv_at hl 0 rfl) ?_
  refine lv_iload_n hx hb dX7_lines_1 rfl (lv_at hl 1 rfl) ?_
  refine g_crx (g_runVx X (k_X7_changeOf hfl (a := cc) hcs hwf (rcc)) (cwV 1 hts gX7_lines_X7_changeOf rfl rfl rfl ⟨rfl, ds_X7_changeOf⟩ ⟨Nat.le_of_ble_eq_true rfl, Nat.le_of_ble_eq_true rfl⟩) hW hS hb0 rfl rfl hl.1 rfl (Nat.le_of_ble_eq_true rfl) dX7_lines_2 ⟨Nat.le_of_ble_eq_true rfl, Nat.le_of_ble_eq_true rfl⟩) hS (fun E9 ce9 q9 C9 H9 locs9 hp9 hW9 hS9 e1 e2 e3 => ko E9 ce9 q9 C9 H9 locs9 _ _ _ _ _ (pubx (Or.inl (⟨hp9.1, by unfold cd_lines; rw [if_pos (hp9.2.1)]⟩)) hcs hcx gfo.rfl' hp9.2.2) hW9 hS9 e1 e2 e3 (Nat.le_of_ble_eq_true rfl) (Nat.le_of_ble_eq_true rfl)) (fun r3 C1 H locs hp2 hW hS => ?_)
  obtain ⟨⟨hkc, rfl⟩, ehp2⟩ := hp2
  rw [ehp2] at hW
  have hicc : cc.toNat < S 0 0 := by omega
  obtain ⟨hc0, hc1, hc2, ⟨f45, hc3, hc3a, hc3b⟩, hc4, hc4n, hc5, F50, hc6, hc6a⟩ := id (cs.ch hcs hicc)
  have hwicc := hwf.ch hicc
  refine lv_iload_n hx hb dX7_lines_5 rfl (lv_at hl 2 rfl) ?_
  refine g_crx (g_runSx X (k_X7_roundOf hfl (i := cc.toNat) (a := a) hcs hwf hicc (ra)) (va_cwS 2 hts gX7_lines_X7_roundOf rfl rfl rfl ds_X7_roundOf ⟨Nat.le_of_ble_eq_true rfl, Nat.le_of_ble_eq_true rfl⟩) hW hS rfl hl.1 rfl (Nat.le_of_ble_eq_true rfl) dX7_lines_6 ⟨Nat.le_of_ble_eq_true rfl, Nat.le_of_ble_eq_true rfl⟩) hS (fun E9 ce9 q9 C9 H9 locs9 hp9 hW9 hS9 e1 e2 e3 => ko E9 ce9 q9 C9 H9 locs9 _ _ _ _ _ (pubx (Or.inr (⟨hp9.1, by unfold cd_lines; rw [if_neg (fun z => z hkc), if_pos (hp9.2.1)]⟩)) hcs hcx gfo.rfl' hp9.2.2) hW9 hS9 e1 e2 e3 (Nat.le_of_ble_eq_true rfl) (Nat.le_of_ble_eq_true rfl)) (fun r7 C5 H locs hp6 hW hS => ?_)
  obtain ⟨⟨hkr, rfl⟩, ehp6⟩ := hp6
  rw [ehp6] at hW
  refine g_ci (g_runV X (k_X5_size (t := T (9 + 4 * cc.toNat + a.toNat)) (hc4 a.toNat (by omega)) ) (cwV 0 hts gX7_lines_X5_size rfl rfl rfl ⟨rfl, ds_X5_size⟩ ⟨Nat.le_of_ble_eq_true rfl, Nat.le_of_ble_eq_true rfl⟩) hW hS (hc4 a.toNat (by omega)).2.2.1 rfl rfl hl.1 rfl (Nat.le_of_ble_eq_true rfl) dX7_lines_9 ⟨Nat.le_of_ble_eq_true rfl, Nat.le_of_ble_eq_true rfl⟩) hS (fun r11 C9 H locs hp10 hW hS => ?_)
  obtain ⟨rfl, ehp10⟩ := hp10
  rw [ehp10] at hW
  exact kret _ _ _ _ _ _ _ _ (⟨⟨by unfold cd_lines; rw [if_neg (fun z => z hkc), if_neg (fun z => z hkr)], rfl⟩, hcs, hcx, gfo.rfl'⟩) hW hS (Nat.le_of_ble_eq_true rfl) (Nat.le_of_ble_eq_true rfl) dX7_lines_12

theorem ds_X7_lineAt : yX7_lineAt.cls ≠ "java/lang/invoke/MethodHandle" ∧ yX7_lineAt.cls ≠ "java/lang/invoke/VarHandle" ∧ (parseMethodDescriptor yX7_lineAt.desc).map (fun d => d.parameters.length) = some 3 := by decide +kernel
def rX7_lineAt : Room := { frames := 8, cells := 3, slots := 18, locals := 124 }
set_option maxHeartbeats 4000000 in
set_option maxRecDepth 100000 in
theorem k_X7_lineAt {l : Launch} (hfl : l.stackTraces = false) {Z : gZ} {B : gB} {C0 : gC} {S : gS} {T : gTx} {cc a b : Int} (hcs : cs Z B C0 S T) (hcx : cx Z B C0) (hwf : wf S T) (rcc : zr cc) (ra : zr a) (rb : zr b) : vx_Met l yX7_lineAt wsX7_lineAt rX7_lineAt (gPc Z B C0 [.ref (B 0 0), .int (zI cc), .int (zI a), .int (zI b)]) (gQi Z B (fun r C1 => (cd_lineAt S T cc a b = 0 ∧ r = zI (ta (rdt T cc.toNat a.toNat) b)) ∧ cs Z B C1 S T ∧ cx Z B C1 ∧ gfo C0 C1)) (gXC Z B (fun E C1 => (E = "java/lang/IndexOutOfBoundsException" ∧ cd_lineAt S T cc a b = 1 ∨ E = "java/util/NoSuchElementException" ∧ cd_lineAt S T cc a b = 2) ∧ cs Z B C1 S T ∧ cx Z B C1 ∧ gfo C0 C1)) 3 18 (gA Z) := by
  refine g_ofIx (cc := cX7_lineAt) (maxL := 5) hfl (by decide) rfl rfl (Nat.le_of_ble_eq_true rfl) (Nat.le_of_ble_eq_true rfl) (Nat.le_of_ble_eq_true rfl) (Nat.le_of_ble_eq_true rfl) (Nat.le_of_ble_eq_true rfl) ?_
  intro p e s m args below meth c Q X kret ko kt hW hS ls hl
  have hx := X.1.1
  have hb := X.1.2.1
  have hts := X.1.2.2.2.2
  have hl : lv_has ls 5 [(0, .ref (B 0 0)), (1, .int (zI cc)), (2, .int (zI a)), (3, .int (zI b))] := hl
  obtain ⟨hb0, hb1, ⟨F3, hb3, hb3a⟩, ⟨f4, hb4, hb4a, hb4b⟩, ⟨f5, hb5, hb5a, hb5b⟩, ⟨F6, hb6, hb6a⟩, hb7, hb8, hb9, hb10, hb11⟩ := id hcs
  have hwn := hwf.n
  refine lv_aload_n hx hb dX7_lineAt_0 rfl (lv_at hl 0 rfl) ?_
  refine lv_iload_n hx hb dX7_lineAt_1 rfl (lv_at hl 1 rfl) ?_
  refine g_crx (g_runVx X (k_X7_changeOf hfl (a := cc) hcs hwf (rcc)) (cwV 1 hts gX7_lineAt_X7_changeOf rfl rfl rfl ⟨rfl, ds_X7_changeOf⟩ ⟨Nat.le_of_ble_eq_true rfl, Nat.le_of_ble_eq_true rfl⟩) hW hS hb0 rfl rfl hl.1 rfl (Nat.le_of_ble_eq_true rfl) dX7_lineAt_2 ⟨Nat.le_of_ble_eq_true rfl, Nat.le_of_ble_eq_true rfl⟩) hS (fun E9 ce9 q9 C9 H9 locs9 hp9 hW9 hS9 e1 e2 e3 => ko E9 ce9 q9 C9 H9 locs9 _ _ _ _ _ (pubx (Or.inl (⟨hp9.1, by unfold cd_lineAt; rw [if_pos (hp9.2.1)]⟩)) hcs hcx gfo.rfl' hp9.2.2) hW9 hS9 e1 e2 e3 (Nat.le_of_ble_eq_true rfl) (Nat.le_of_ble_eq_true rfl)) (fun r3 C1 H locs hp2 hW hS => ?_)
  obtain ⟨⟨hkc, rfl⟩, ehp2⟩ := hp2
  rw [ehp2] at hW
  have hicc : cc.toNat < S 0 0 := by omega
  obtain ⟨hc0, hc1, hc2, ⟨f45, hc3, hc3a, hc3b⟩, hc4, hc4n, hc5, F50, hc6, hc6a⟩ := id (cs.ch hcs hicc)
  have hwicc := hwf.ch hicc
  refine lv_iload_n hx hb dX7_lineAt_5 rfl (lv_at hl 2 rfl) ?_
  refine g_crx (g_runSx X (k_X7_roundOf hfl (i := cc.toNat) (a := a) hcs hwf hicc (ra)) (va_cwS 2 hts gX7_lineAt_X7_roundOf rfl rfl rfl ds_X7_roundOf ⟨Nat.le_of_ble_eq_true rfl, Nat.le_of_ble_eq_true rfl⟩) hW hS rfl hl.1 rfl (Nat.le_of_ble_eq_true rfl) dX7_lineAt_6 ⟨Nat.le_of_ble_eq_true rfl, Nat.le_of_ble_eq_true rfl⟩) hS (fun E9 ce9 q9 C9 H9 locs9 hp9 hW9 hS9 e1 e2 e3 => ko E9 ce9 q9 C9 H9 locs9 _ _ _ _ _ (pubx (Or.inr (⟨hp9.1, by unfold cd_lineAt; rw [if_neg (fun z => z hkc), if_pos (hp9.2.1)]⟩)) hcs hcx gfo.rfl' hp9.2.2) hW9 hS9 e1 e2 e3 (Nat.le_of_ble_eq_true rfl) (Nat.le_of_ble_eq_true rfl)) (fun r7 C5 H locs hp6 hW hS => ?_)
  obtain ⟨⟨hkr, rfl⟩, ehp6⟩ := hp6
  rw [ehp6] at hW
  refine lv_astore (lv' := [(4, .ref (B 46 (4 * cc.toNat + a.toNat))), (0, .ref (B 0 0)), (1, .int (zI cc)), (2, .int (zI a)), (3, .int (zI b))]) hx hb dX7_lineAt_9 hl (by decide) rfl (fun ls hl => ?_)
  refine lv_aload hx hb dX7_lineAt_11 (lv_at hl 0 rfl) ?_
  refine lv_iload_n hx hb dX7_lineAt_13 rfl (lv_at hl 4 rfl) ?_
  refine g_cvx (g_runSx X (k_X7_checkLine hfl (t := T (9 + 4 * cc.toNat + a.toNat)) (a := b) (hc4 a.toNat (by omega)) (rb)) (va_cwS 2 hts gX7_lineAt_X7_checkLine rfl rfl rfl ds_X7_checkLine ⟨Nat.le_of_ble_eq_true rfl, Nat.le_of_ble_eq_true rfl⟩) hW hS rfl hl.1 rfl (Nat.le_of_ble_eq_true rfl) dX7_lineAt_14 ⟨Nat.le_of_ble_eq_true rfl, Nat.le_of_ble_eq_true rfl⟩) hS (fun E9 ce9 q9 C9 H9 locs9 hp9 hW9 hS9 e1 e2 e3 => ko E9 ce9 q9 C9 H9 locs9 _ _ _ _ _ (pubx (Or.inr (⟨hp9.1, by unfold cd_lineAt; rw [if_neg (fun z => z hkc), if_neg (fun z => z hkr), if_pos (hp9.2.1)]⟩)) hcs hcx gfo.rfl' hp9.2.2) hW9 hS9 e1 e2 e3 (Nat.le_of_ble_eq_true rfl) (Nat.le_of_ble_eq_true rfl)) (fun C9 H locs hp10 hW hS => ?_)
  obtain ⟨hkl, ehp10⟩ := hp10
  rw [ehp10] at hW
  refine lv_aload hx hb dX7_lineAt_17 (lv_at hl 0 rfl) ?_
  refine lv_iload_n hx hb dX7_lineAt_19 rfl (lv_at hl 4 rfl) ?_
  refine g_ci (g_runV X (k_X5_at (t := T (9 + 4 * cc.toNat + a.toNat)) (hc4 a.toNat (by omega)) (a := b) (rb)) (cwV 1 hts gX7_lineAt_X5_at rfl rfl rfl ⟨rfl, ds_X5_at⟩ ⟨Nat.le_of_ble_eq_true rfl, Nat.le_of_ble_eq_true rfl⟩) hW hS (hc4 a.toNat (by omega)).2.2.1 rfl rfl hl.1 rfl (Nat.le_of_ble_eq_true rfl) dX7_lineAt_20 ⟨Nat.le_of_ble_eq_true rfl, Nat.le_of_ble_eq_true rfl⟩) hS (fun r14 C12 H locs hp13 hW hS => ?_)
  obtain ⟨rfl, ehp13⟩ := hp13
  rw [ehp13] at hW
  exact kret _ _ _ _ _ _ _ _ (⟨⟨by unfold cd_lineAt; rw [if_neg (fun z => z hkc), if_neg (fun z => z hkr), if_neg (fun z => z hkl)], rfl⟩, hcs, hcx, gfo.rfl'⟩) hW hS (Nat.le_of_ble_eq_true rfl) (Nat.le_of_ble_eq_true rfl) dX7_lineAt_23

theorem ds_X7_edits : yX7_edits.cls ≠ "java/lang/invoke/MethodHandle" ∧ yX7_edits.cls ≠ "java/lang/invoke/VarHandle" ∧ (parseMethodDescriptor yX7_edits.desc).map (fun d => d.parameters.length) = some 3 := by decide +kernel
theorem in_X7_edits_7 : ∀ w ∈ wsX70, w ∈ wsX7_edits := by decide +kernel
def rX7_edits : Room := { frames := 8, cells := 3, slots := 18, locals := 124 }
set_option maxHeartbeats 4000000 in
set_option maxRecDepth 100000 in
theorem k_X7_edits {l : Launch} (hfl : l.stackTraces = false) {Z : gZ} {B : gB} {C0 : gC} {S : gS} {T : gTx} {cc a b : Int} (hcs : cs Z B C0 S T) (hcx : cx Z B C0) (hwf : wf S T) (rcc : zr cc) (ra : zr a) (rb : zr b) : vx_Met l yX7_edits wsX7_edits rX7_edits (gPc Z B C0 [.ref (B 0 0), .int (zI cc), .int (zI a), .int (zI b)]) (gQi Z B (fun r C1 => (cd_edits S cc a b = 0 ∧ r = zI (ed (rdt T cc.toNat a.toNat) (rdt T cc.toNat b.toNat) : Int)) ∧ cs Z B C1 S T ∧ cx Z B C1 ∧ gfo C0 C1)) (gXC Z B (fun E C1 => (E = "java/lang/IndexOutOfBoundsException" ∧ cd_edits S cc a b = 1 ∨ E = "java/util/NoSuchElementException" ∧ cd_edits S cc a b = 2) ∧ cs Z B C1 S T ∧ cx Z B C1 ∧ gfo C0 C1)) 3 18 (gA Z) := by
  refine g_ofIx (cc := cX7_edits) (maxL := 5) hfl (by decide) rfl rfl (Nat.le_of_ble_eq_true rfl) (Nat.le_of_ble_eq_true rfl) (Nat.le_of_ble_eq_true rfl) (Nat.le_of_ble_eq_true rfl) (Nat.le_of_ble_eq_true rfl) ?_
  intro p e s m args below meth c Q X kret ko kt hW hS ls hl
  have hx := X.1.1
  have hb := X.1.2.1
  have hts := X.1.2.2.2.2
  have hl : lv_has ls 5 [(0, .ref (B 0 0)), (1, .int (zI cc)), (2, .int (zI a)), (3, .int (zI b))] := hl
  obtain ⟨hb0, hb1, ⟨F3, hb3, hb3a⟩, ⟨f4, hb4, hb4a, hb4b⟩, ⟨f5, hb5, hb5a, hb5b⟩, ⟨F6, hb6, hb6a⟩, hb7, hb8, hb9, hb10, hb11⟩ := id hcs
  have hwn := hwf.n
  refine lv_aload_n hx hb dX7_edits_0 rfl (lv_at hl 0 rfl) ?_
  refine lv_iload_n hx hb dX7_edits_1 rfl (lv_at hl 1 rfl) ?_
  refine g_crx (g_runVx X (k_X7_changeOf hfl (a := cc) hcs hwf (rcc)) (cwV 1 hts gX7_edits_X7_changeOf rfl rfl rfl ⟨rfl, ds_X7_changeOf⟩ ⟨Nat.le_of_ble_eq_true rfl, Nat.le_of_ble_eq_true rfl⟩) hW hS hb0 rfl rfl hl.1 rfl (Nat.le_of_ble_eq_true rfl) dX7_edits_2 ⟨Nat.le_of_ble_eq_true rfl, Nat.le_of_ble_eq_true rfl⟩) hS (fun E9 ce9 q9 C9 H9 locs9 hp9 hW9 hS9 e1 e2 e3 => ko E9 ce9 q9 C9 H9 locs9 _ _ _ _ _ (pubx (Or.inl (⟨hp9.1, by unfold cd_edits; rw [if_pos (hp9.2.1)]⟩)) hcs hcx gfo.rfl' hp9.2.2) hW9 hS9 e1 e2 e3 (Nat.le_of_ble_eq_true rfl) (Nat.le_of_ble_eq_true rfl)) (fun r3 C1 H locs hp2 hW hS => ?_)
  obtain ⟨⟨hkc, rfl⟩, ehp2⟩ := hp2
  rw [ehp2] at hW
  have hicc : cc.toNat < S 0 0 := by omega
  obtain ⟨hc0, hc1, hc2, ⟨f45, hc3, hc3a, hc3b⟩, hc4, hc4n, hc5, F50, hc6, hc6a⟩ := id (cs.ch hcs hicc)
  have hwicc := hwf.ch hicc
  refine lv_astore (lv' := [(4, .ref (B 40 (cc.toNat))), (0, .ref (B 0 0)), (1, .int (zI cc)), (2, .int (zI a)), (3, .int (zI b))]) hx hb dX7_edits_5 hl (by decide) rfl (fun ls hl => ?_)
  refine lv_aload_n hx hb dX7_edits_7 rfl (lv_at hl 1 rfl) ?_
  refine g_get (ci := 7) X in_X7_edits_7 rfl hW hb0 9 (by decide) (hts _ (List.mem_of_getElem? (i := 1) rfl)) rfl dX7_edits_8 ?_
  refine lv_aload hx hb dX7_edits_11 (lv_at hl 0 rfl) ?_
  refine lv_iload_n hx hb dX7_edits_13 rfl (lv_at hl 3 rfl) ?_
  refine g_crx (g_runSx X (k_X7_roundOf hfl (i := cc.toNat) (a := a) hcs hwf hicc (ra)) (va_cwS 2 hts gX7_edits_X7_roundOf rfl rfl rfl ds_X7_roundOf ⟨Nat.le_of_ble_eq_true rfl, Nat.le_of_ble_eq_true rfl⟩) hW hS rfl hl.1 rfl (Nat.le_of_ble_eq_true rfl) dX7_edits_14 ⟨Nat.le_of_ble_eq_true rfl, Nat.le_of_ble_eq_true rfl⟩) hS (fun E9 ce9 q9 C9 H9 locs9 hp9 hW9 hS9 e1 e2 e3 => ko E9 ce9 q9 C9 H9 locs9 _ _ _ _ _ (pubx (Or.inr (⟨hp9.1, by unfold cd_edits; rw [if_neg (fun z => z hkc), if_pos (fun z => hp9.2.1 z.1)]⟩)) hcs hcx gfo.rfl' hp9.2.2) hW9 hS9 e1 e2 e3 (Nat.le_of_ble_eq_true rfl) (Nat.le_of_ble_eq_true rfl)) (fun r7 C5 H locs hp6 hW hS => ?_)
  obtain ⟨⟨hkr, rfl⟩, ehp6⟩ := hp6
  rw [ehp6] at hW
  refine lv_aload hx hb dX7_edits_17 (lv_at hl 0 rfl) ?_
  refine lv_iload_n hx hb dX7_edits_19 rfl (lv_at hl 4 rfl) ?_
  refine g_crx (g_runSx X (k_X7_roundOf hfl (i := cc.toNat) (a := b) hcs hwf hicc (rb)) (va_cwS 2 hts gX7_edits_X7_roundOf rfl rfl rfl ds_X7_roundOf ⟨Nat.le_of_ble_eq_true rfl, Nat.le_of_ble_eq_true rfl⟩) hW hS rfl hl.1 rfl (Nat.le_of_ble_eq_true rfl) dX7_edits_20 ⟨Nat.le_of_ble_eq_true rfl, Nat.le_of_ble_eq_true rfl⟩) hS (fun E9 ce9 q9 C9 H9 locs9 hp9 hW9 hS9 e1 e2 e3 => ko E9 ce9 q9 C9 H9 locs9 _ _ _ _ _ (pubx (Or.inr (⟨hp9.1, by unfold cd_edits; rw [if_neg (fun z => z hkc), if_pos (fun z => hp9.2.1 z.2)]⟩)) hcs hcx gfo.rfl' hp9.2.2) hW9 hS9 e1 e2 e3 (Nat.le_of_ble_eq_true rfl) (Nat.le_of_ble_eq_true rfl)) (fun r11 C9 H locs hp10 hW hS => ?_)
  obtain ⟨⟨hks, rfl⟩, ehp10⟩ := hp10
  rw [ehp10] at hW
  obtain ⟨n13, f14⟩ := hcx.1.ob
  refine g_cv (g_runV X (k_X4_find (hcx.1) (hc4 a.toNat (by omega)) (hc4 b.toNat (by omega)) (hwf.tx _) (hwf.tx _) (by omega) (by omega)) (cwV 2 hts gX7_edits_X4_find rfl rfl rfl ⟨rfl, ds_X4_find⟩ ⟨Nat.le_of_ble_eq_true rfl, Nat.le_of_ble_eq_true rfl⟩) hW hS f14 rfl rfl hl.1 rfl (Nat.le_of_ble_eq_true rfl) dX7_edits_23 ⟨Nat.le_of_ble_eq_true rfl, Nat.le_of_ble_eq_true rfl⟩) hS (fun C15 H locs hp16 hW hS => ?_)
  obtain ⟨hsc17, hf18⟩ := hp16
  refine lv_aload_n hx hb dX7_edits_26 rfl (lv_at hl 1 rfl) ?_
  have f19 : C15 0 0 = some (.inr (7, [.ref (B 1 0), .ref (B 3 0), .int (zI (S 0 1 : Int)), .ref (B 4 0), .int (zI (S 0 0 : Int)), .ref (B 5 0), .int (zI (S 0 2 : Int)), .ref (B 6 0), .int (zI (S 0 3 : Int)), .ref (B 10 0), .ref (B 14 0), .ref (B 16 0), .ref (B 18 0)])) := ((hf18 0 0 (by omega)).trans hb0)
  refine g_get (ci := 7) X in_X7_edits_7 rfl hW f19 9 (by decide) (hts _ (List.mem_of_getElem? (i := 1) rfl)) rfl dX7_edits_27 ?_
  refine g_ci (g_runV X (k_X4_size (a := (T (9 + 4 * cc.toNat + a.toNat))) (b := (T (9 + 4 * cc.toNat + b.toNat))) hsc17 ) (cwV 0 hts gX7_edits_X4_size rfl rfl rfl ⟨rfl, ds_X4_size⟩ ⟨Nat.le_of_ble_eq_true rfl, Nat.le_of_ble_eq_true rfl⟩) hW hS hsc17.ob rfl rfl hl.1 rfl (Nat.le_of_ble_eq_true rfl) dX7_edits_30 ⟨Nat.le_of_ble_eq_true rfl, Nat.le_of_ble_eq_true rfl⟩) hS (fun r22 C20 H locs hp21 hW hS => ?_)
  obtain ⟨rfl, ehp21⟩ := hp21
  rw [ehp21] at hW
  exact kret _ _ _ _ _ _ _ _ (⟨⟨by unfold cd_edits; rw [if_neg (fun z => z hkc), if_neg (fun z => z ⟨hkr, hks⟩)], rfl⟩, (cs.kept hcs (fun k' i' h' => hf18 (k') (i') (by omega))), (cx.script hcx hsc17.so (fun k' i' h => (hf18 k' i' (by omega)))), (fun k' i' h => (hf18 k' i' (by omega)))⟩) hW hS (Nat.le_of_ble_eq_true rfl) (Nat.le_of_ble_eq_true rfl) dX7_edits_33

theorem ds_X7_editsByWays : yX7_editsByWays.cls ≠ "java/lang/invoke/MethodHandle" ∧ yX7_editsByWays.cls ≠ "java/lang/invoke/VarHandle" ∧ (parseMethodDescriptor yX7_editsByWays.desc).map (fun d => d.parameters.length) = some 3 := by decide +kernel
theorem in_X7_editsByWays_7 : ∀ w ∈ wsX70, w ∈ wsX7_editsByWays := by decide +kernel
def rX7_editsByWays : Room := { frames := 8, cells := 3, slots := 18, locals := 124 }
set_option maxHeartbeats 4000000 in
set_option maxRecDepth 100000 in
theorem k_X7_editsByWays {l : Launch} (hfl : l.stackTraces = false) {Z : gZ} {B : gB} {C0 : gC} {S : gS} {T : gTx} {cc a b : Int} (hcs : cs Z B C0 S T) (hcx : cx Z B C0) (hwf : wf S T) (rcc : zr cc) (ra : zr a) (rb : zr b) : vx_Met l yX7_editsByWays wsX7_editsByWays rX7_editsByWays (gPc Z B C0 [.ref (B 0 0), .int (zI cc), .int (zI a), .int (zI b)]) (gQi Z B (fun r C1 => (cd_edits S cc a b = 0 ∧ r = zI (ed (rdt T cc.toNat a.toNat) (rdt T cc.toNat b.toNat) : Int)) ∧ cs Z B C1 S T ∧ cx Z B C1 ∧ gfo C0 C1)) (gXC Z B (fun E C1 => (E = "java/lang/IndexOutOfBoundsException" ∧ cd_edits S cc a b = 1 ∨ E = "java/util/NoSuchElementException" ∧ cd_edits S cc a b = 2) ∧ cs Z B C1 S T ∧ cx Z B C1 ∧ gfo C0 C1)) 3 18 (gA Z) := by
  refine g_ofIx (cc := cX7_editsByWays) (maxL := 5) hfl (by decide) rfl rfl (Nat.le_of_ble_eq_true rfl) (Nat.le_of_ble_eq_true rfl) (Nat.le_of_ble_eq_true rfl) (Nat.le_of_ble_eq_true rfl) (Nat.le_of_ble_eq_true rfl) ?_
  intro p e s m args below meth c Q X kret ko kt hW hS ls hl
  have hx := X.1.1
  have hb := X.1.2.1
  have hts := X.1.2.2.2.2
  have hl : lv_has ls 5 [(0, .ref (B 0 0)), (1, .int (zI cc)), (2, .int (zI a)), (3, .int (zI b))] := hl
  obtain ⟨hb0, hb1, ⟨F3, hb3, hb3a⟩, ⟨f4, hb4, hb4a, hb4b⟩, ⟨f5, hb5, hb5a, hb5b⟩, ⟨F6, hb6, hb6a⟩, hb7, hb8, hb9, hb10, hb11⟩ := id hcs
  have hwn := hwf.n
  refine lv_aload_n hx hb dX7_editsByWays_0 rfl (lv_at hl 0 rfl) ?_
  refine lv_iload_n hx hb dX7_editsByWays_1 rfl (lv_at hl 1 rfl) ?_
  refine g_crx (g_runVx X (k_X7_changeOf hfl (a := cc) hcs hwf (rcc)) (cwV 1 hts gX7_editsByWays_X7_changeOf rfl rfl rfl ⟨rfl, ds_X7_changeOf⟩ ⟨Nat.le_of_ble_eq_true rfl, Nat.le_of_ble_eq_true rfl⟩) hW hS hb0 rfl rfl hl.1 rfl (Nat.le_of_ble_eq_true rfl) dX7_editsByWays_2 ⟨Nat.le_of_ble_eq_true rfl, Nat.le_of_ble_eq_true rfl⟩) hS (fun E9 ce9 q9 C9 H9 locs9 hp9 hW9 hS9 e1 e2 e3 => ko E9 ce9 q9 C9 H9 locs9 _ _ _ _ _ (pubx (Or.inl (⟨hp9.1, by unfold cd_edits; rw [if_pos (hp9.2.1)]⟩)) hcs hcx gfo.rfl' hp9.2.2) hW9 hS9 e1 e2 e3 (Nat.le_of_ble_eq_true rfl) (Nat.le_of_ble_eq_true rfl)) (fun r3 C1 H locs hp2 hW hS => ?_)
  obtain ⟨⟨hkc, rfl⟩, ehp2⟩ := hp2
  rw [ehp2] at hW
  have hicc : cc.toNat < S 0 0 := by omega
  obtain ⟨hc0, hc1, hc2, ⟨f45, hc3, hc3a, hc3b⟩, hc4, hc4n, hc5, F50, hc6, hc6a⟩ := id (cs.ch hcs hicc)
  have hwicc := hwf.ch hicc
  refine lv_astore (lv' := [(4, .ref (B 40 (cc.toNat))), (0, .ref (B 0 0)), (1, .int (zI cc)), (2, .int (zI a)), (3, .int (zI b))]) hx hb dX7_editsByWays_5 hl (by decide) rfl (fun ls hl => ?_)
  refine lv_aload_n hx hb dX7_editsByWays_7 rfl (lv_at hl 1 rfl) ?_
  refine g_get (ci := 7) X in_X7_editsByWays_7 rfl hW hb0 10 (by decide) (hts _ (List.mem_of_getElem? (i := 1) rfl)) rfl dX7_editsByWays_8 ?_
  refine lv_aload hx hb dX7_editsByWays_11 (lv_at hl 0 rfl) ?_
  refine lv_iload_n hx hb dX7_editsByWays_13 rfl (lv_at hl 3 rfl) ?_
  refine g_crx (g_runSx X (k_X7_roundOf hfl (i := cc.toNat) (a := a) hcs hwf hicc (ra)) (va_cwS 2 hts gX7_editsByWays_X7_roundOf rfl rfl rfl ds_X7_roundOf ⟨Nat.le_of_ble_eq_true rfl, Nat.le_of_ble_eq_true rfl⟩) hW hS rfl hl.1 rfl (Nat.le_of_ble_eq_true rfl) dX7_editsByWays_14 ⟨Nat.le_of_ble_eq_true rfl, Nat.le_of_ble_eq_true rfl⟩) hS (fun E9 ce9 q9 C9 H9 locs9 hp9 hW9 hS9 e1 e2 e3 => ko E9 ce9 q9 C9 H9 locs9 _ _ _ _ _ (pubx (Or.inr (⟨hp9.1, by unfold cd_edits; rw [if_neg (fun z => z hkc), if_pos (fun z => hp9.2.1 z.1)]⟩)) hcs hcx gfo.rfl' hp9.2.2) hW9 hS9 e1 e2 e3 (Nat.le_of_ble_eq_true rfl) (Nat.le_of_ble_eq_true rfl)) (fun r7 C5 H locs hp6 hW hS => ?_)
  obtain ⟨⟨hkr, rfl⟩, ehp6⟩ := hp6
  rw [ehp6] at hW
  refine lv_aload hx hb dX7_editsByWays_17 (lv_at hl 0 rfl) ?_
  refine lv_iload_n hx hb dX7_editsByWays_19 rfl (lv_at hl 4 rfl) ?_
  refine g_crx (g_runSx X (k_X7_roundOf hfl (i := cc.toNat) (a := b) hcs hwf hicc (rb)) (va_cwS 2 hts gX7_editsByWays_X7_roundOf rfl rfl rfl ds_X7_roundOf ⟨Nat.le_of_ble_eq_true rfl, Nat.le_of_ble_eq_true rfl⟩) hW hS rfl hl.1 rfl (Nat.le_of_ble_eq_true rfl) dX7_editsByWays_20 ⟨Nat.le_of_ble_eq_true rfl, Nat.le_of_ble_eq_true rfl⟩) hS (fun E9 ce9 q9 C9 H9 locs9 hp9 hW9 hS9 e1 e2 e3 => ko E9 ce9 q9 C9 H9 locs9 _ _ _ _ _ (pubx (Or.inr (⟨hp9.1, by unfold cd_edits; rw [if_neg (fun z => z hkc), if_pos (fun z => hp9.2.1 z.2)]⟩)) hcs hcx gfo.rfl' hp9.2.2) hW9 hS9 e1 e2 e3 (Nat.le_of_ble_eq_true rfl) (Nat.le_of_ble_eq_true rfl)) (fun r11 C9 H locs hp10 hW hS => ?_)
  obtain ⟨⟨hks, rfl⟩, ehp10⟩ := hp10
  rw [ehp10] at hW
  refine g_ci (g_runV X (k_X6_fewestEdits hcx.2.1 (hc4 a.toNat (by omega)) (hc4 b.toNat (by omega)) (hwf.tx _) (hwf.tx _) (by omega) (by omega)) (cwV 2 hts gX7_editsByWays_X6_fewestEdits rfl rfl rfl ⟨rfl, ds_X6_fewestEdits⟩ ⟨Nat.le_of_ble_eq_true rfl, Nat.le_of_ble_eq_true rfl⟩) hW hS hcx.2.1.ob rfl rfl hl.1 rfl (Nat.le_of_ble_eq_true rfl) dX7_editsByWays_23 ⟨Nat.le_of_ble_eq_true rfl, Nat.le_of_ble_eq_true rfl⟩) hS (fun r15 C13 H locs hp14 hW hS => ?_)
  obtain ⟨e16, hx17, hf18⟩ := hp14
  rw [e16]
  exact kret _ _ _ _ _ _ _ _ (⟨⟨by unfold cd_edits; rw [if_neg (fun z => z hkc), if_neg (fun z => z ⟨hkr, hks⟩)], rfl⟩, (cs.kept hcs (fun k' i' h' => hf18 (k') (i') (by omega))), (cx.kind hcx (fun k9 i9 z9 => hf18 k9 i9 (by omega)) (wo.set hcx.2.1 hf18 hx17) (hcx.2.2.1.fr (fun q9 _ => hf18 _ _ (by omega)))), (fun k' i' h => (hf18 k' i' (by omega)))⟩) hW hS (Nat.le_of_ble_eq_true rfl) (Nat.le_of_ble_eq_true rfl) dX7_editsByWays_26

theorem ds_X7_ownerOf : yX7_ownerOf.cls ≠ "java/lang/invoke/MethodHandle" ∧ yX7_ownerOf.cls ≠ "java/lang/invoke/VarHandle" ∧ (parseMethodDescriptor yX7_ownerOf.desc).map (fun d => d.parameters.length) = some 1 := by decide +kernel
theorem in_X7_ownerOf_7 : ∀ w ∈ wsX70, w ∈ wsX7_ownerOf := by decide +kernel
def rX7_ownerOf : Room := { frames := 7, cells := 2, slots := 12, locals := 102 }
set_option maxHeartbeats 4000000 in
set_option maxRecDepth 100000 in
theorem k_X7_ownerOf {l : Launch} (hfl : l.stackTraces = false) {Z : gZ} {B : gB} {C0 : gC} {S : gS} {T : gTx} {a : Int} (hcs : cs Z B C0 S T) (hcx : cx Z B C0) (hwf : wf S T) (ra : zr a) : vx_Met l yX7_ownerOf wsX7_ownerOf rX7_ownerOf (gPc Z B C0 [.ref (B 0 0), .int (zI a)]) (gQi Z B (fun r C1 => (cd_ownerOf S a = 0 ∧ r = zI (ownf S a)) ∧ cs Z B C1 S T ∧ cx Z B C1 ∧ gfo C0 C1)) (gXC Z B (fun E C1 => (E = "java/lang/IllegalArgumentException" ∧ cd_ownerOf S a = 1 ∨ E = "java/util/NoSuchElementException" ∧ cd_ownerOf S a = 2) ∧ cs Z B C1 S T ∧ cx Z B C1 ∧ gfo C0 C1)) 2 12 (gA Z) := by
  refine g_ofIx (cc := cX7_ownerOf) (maxL := 3) hfl (by decide) rfl rfl (Nat.le_of_ble_eq_true rfl) (Nat.le_of_ble_eq_true rfl) (Nat.le_of_ble_eq_true rfl) (Nat.le_of_ble_eq_true rfl) (Nat.le_of_ble_eq_true rfl) ?_
  intro p e s m args below meth c Q X kret ko kt hW hS ls hl
  have hx := X.1.1
  have hb := X.1.2.1
  have hts := X.1.2.2.2.2
  have hl : lv_has ls 3 [(0, .ref (B 0 0)), (1, .int (zI a))] := hl
  obtain ⟨hb0, hb1, ⟨F3, hb3, hb3a⟩, ⟨f4, hb4, hb4a, hb4b⟩, ⟨f5, hb5, hb5a, hb5b⟩, ⟨F6, hb6, hb6a⟩, hb7, hb8, hb9, hb10, hb11⟩ := id hcs
  have hwn := hwf.n
  refine lv_iload_n hx hb dX7_ownerOf_0 rfl (lv_at hl 1 rfl) ?_
  refine g_cvx (g_runSx X (k_X7_checkContent hfl (B := B) (C0 := C0) (a := a) (ra)) (va_cwS 1 hts gX7_ownerOf_X7_checkContent rfl rfl rfl ds_X7_checkContent ⟨Nat.le_of_ble_eq_true rfl, Nat.le_of_ble_eq_true rfl⟩) hW hS rfl hl.1 rfl (Nat.le_of_ble_eq_true rfl) dX7_ownerOf_1 ⟨Nat.le_of_ble_eq_true rfl, Nat.le_of_ble_eq_true rfl⟩) hS (fun E9 ce9 q9 C9 H9 locs9 hp9 hW9 hS9 e1 e2 e3 => ko E9 ce9 q9 C9 H9 locs9 _ _ _ _ _ (pubx (Or.inl (⟨hp9.1, by unfold cd_ownerOf; rw [if_pos (hp9.2.1)]⟩)) hcs hcx gfo.rfl' hp9.2.2) hW9 hS9 e1 e2 e3 (Nat.le_of_ble_eq_true rfl) (Nat.le_of_ble_eq_true rfl)) (fun C1 H locs hp2 hW hS => ?_)
  obtain ⟨hkt, ehp2⟩ := hp2
  rw [ehp2] at hW
  refine lv_aload_n hx hb dX7_ownerOf_4 rfl (lv_at hl 0 rfl) ?_
  refine g_get (ci := 7) X in_X7_ownerOf_7 rfl hW hb0 1 (by decide) (hts _ (List.mem_of_getElem? (i := 3) rfl)) rfl dX7_ownerOf_5 ?_
  refine lv_iload_n hx hb dX7_ownerOf_8 rfl (lv_at hl 1 rfl) ?_
  refine g_ci (g_runS X (k_X7_cell (a := a) hb3 (by decide) (⟨by omega, by omega⟩)) (va_cwS 2 hts gX7_ownerOf_X7_cell rfl rfl rfl ds_X7_cell ⟨Nat.le_of_ble_eq_true rfl, Nat.le_of_ble_eq_true rfl⟩) hW hS rfl hl.1 rfl (Nat.le_of_ble_eq_true rfl) dX7_ownerOf_9 ⟨Nat.le_of_ble_eq_true rfl, Nat.le_of_ble_eq_true rfl⟩) hS (fun r6 C4 H locs hp5 hW hS => ?_)
  rw [if_pos (show (0 : Int) ≤ a ∧ a < ((100 : Nat) : Int) from ⟨by omega, by omega⟩)] at hp5
  obtain ⟨rfl, ehp5⟩ := hp5
  rw [ehp5] at hW
  have hor : -1 ≤ ownf S a ∧ ownf S a < 5 := ownr_rng (S := S) (S 0 1) hwf.rg a
  have hov : F3 a.toNat = ownf S a := by rw [hb3a _ (by omega)]; exact congrArg _ (by omega)
  rw [hov]
  refine lv_istore_n (lv' := [(2, .int (zI (ownf S a))), (0, .ref (B 0 0)), (1, .int (zI a))]) hx hb dX7_ownerOf_12 rfl hl (by decide) rfl (fun ls hl => ?_)
  refine lv_iload_n hx hb dX7_ownerOf_13 rfl (lv_at hl 0 rfl) ?_
  refine lv_iconst (v := zI (-1)) hx hb dX7_ownerOf_14 rfl ?_
  refine z_icmp_ne (tgt := 29) hx hb dX7_ownerOf_15 (by decide) (⟨by omega, by omega⟩) (⟨by omega, by omega⟩) (fun h_15 => ?_) (fun h_15 => ?_)
  · refine lv_iload_n hx hb dX7_ownerOf_29 rfl (lv_at hl 0 rfl) ?_
    exact kret _ _ _ _ _ _ _ _ (⟨⟨by unfold cd_ownerOf; rw [if_neg (fun z => z hkt), if_neg (h_15)], rfl⟩, hcs, hcx, gfo.rfl'⟩) hW hS (Nat.le_of_ble_eq_true rfl) (Nat.le_of_ble_eq_true rfl) dX7_ownerOf_30
  · exact kt "java/util/NoSuchElementException" "the line has no owner" 171 264 175 _ _ _ _ _ _ _ _ (pubx (Or.inr (⟨rfl, by unfold cd_ownerOf; rw [if_neg (fun z => z hkt), if_pos (h_15)]⟩)) hcs hcx gfo.rfl' rfl) hW hS hl ex_4 st_15 (by decide +kernel) (List.mem_of_getElem? (i := 1) rfl) (List.mem_of_getElem? (i := 2) rfl) (fun w hw => List.mem_cons_of_mem _ (List.mem_append_left _ (List.mem_append_right _ hw))) vxo_4_175 vxn_4_175 (Nat.le_of_ble_eq_true rfl) (Nat.le_of_ble_eq_true rfl) dX7_ownerOf_18 dX7_ownerOf_21 (Or.inr ⟨dX7_ownerOf_22, dX7_ownerOf_25, dX7_ownerOf_28⟩)

theorem ds_X7_needs : yX7_needs.cls ≠ "java/lang/invoke/MethodHandle" ∧ yX7_needs.cls ≠ "java/lang/invoke/VarHandle" ∧ (parseMethodDescriptor yX7_needs.desc).map (fun d => d.parameters.length) = some 2 := by decide +kernel
def rX7_needs : Room := { frames := 7, cells := 2, slots := 12, locals := 117 }
set_option maxHeartbeats 4000000 in
set_option maxRecDepth 100000 in
theorem k_X7_needs {l : Launch} (hfl : l.stackTraces = false) {Z : gZ} {B : gB} {C0 : gC} {S : gS} {T : gTx} {cc a : Int} (hcs : cs Z B C0 S T) (hcx : cx Z B C0) (hwf : wf S T) (rcc : zr cc) (ra : zr a) : vx_Met l yX7_needs wsX7_needs rX7_needs (gPc Z B C0 [.ref (B 0 0), .int (zI cc), .int (zI a)]) (gQi Z B (fun r C1 => (cd_CU S cc a = 0 ∧ r = zI (if (nee S T cc.toNat).testBit a.toNat = true then 1 else 0)) ∧ cs Z B C1 S T ∧ cx Z B C1 ∧ gfo C0 C1)) (gXC Z B (fun E C1 => (E = "java/lang/IndexOutOfBoundsException" ∧ cd_CU S cc a = 1) ∧ cs Z B C1 S T ∧ cx Z B C1 ∧ gfo C0 C1)) 2 12 (gA Z) := by
  refine g_ofZx (cc := cX7_needs) (maxL := 4) hfl (by decide) rfl rfl (Nat.le_of_ble_eq_true rfl) (fun r C1 h => by obtain ⟨⟨-, h⟩, -⟩ := h; rw [h]; split <;> rfl) (Nat.le_of_ble_eq_true rfl) (Nat.le_of_ble_eq_true rfl) (Nat.le_of_ble_eq_true rfl) (Nat.le_of_ble_eq_true rfl) ?_
  intro p e s m args below meth c Q X kret ko kt hW hS ls hl
  have hx := X.1.1
  have hb := X.1.2.1
  have hts := X.1.2.2.2.2
  have hl : lv_has ls 4 [(0, .ref (B 0 0)), (1, .int (zI cc)), (2, .int (zI a))] := hl
  obtain ⟨hb0, hb1, ⟨F3, hb3, hb3a⟩, ⟨f4, hb4, hb4a, hb4b⟩, ⟨f5, hb5, hb5a, hb5b⟩, ⟨F6, hb6, hb6a⟩, hb7, hb8, hb9, hb10, hb11⟩ := id hcs
  have hwn := hwf.n
  refine lv_aload_n hx hb dX7_needs_0 rfl (lv_at hl 0 rfl) ?_
  refine lv_iload_n hx hb dX7_needs_1 rfl (lv_at hl 1 rfl) ?_
  refine g_crx (g_runVx X (k_X7_changeOf hfl (a := cc) hcs hwf (rcc)) (cwV 1 hts gX7_needs_X7_changeOf rfl rfl rfl ⟨rfl, ds_X7_changeOf⟩ ⟨Nat.le_of_ble_eq_true rfl, Nat.le_of_ble_eq_true rfl⟩) hW hS hb0 rfl rfl hl.1 rfl (Nat.le_of_ble_eq_true rfl) dX7_needs_2 ⟨Nat.le_of_ble_eq_true rfl, Nat.le_of_ble_eq_true rfl⟩) hS (fun E9 ce9 q9 C9 H9 locs9 hp9 hW9 hS9 e1 e2 e3 => ko E9 ce9 q9 C9 H9 locs9 _ _ _ _ _ (pubx (⟨hp9.1, by unfold cd_CU; rw [if_pos (fun z => hp9.2.1 z.1)]⟩) hcs hcx gfo.rfl' hp9.2.2) hW9 hS9 e1 e2 e3 (Nat.le_of_ble_eq_true rfl) (Nat.le_of_ble_eq_true rfl)) (fun r3 C1 H locs hp2 hW hS => ?_)
  obtain ⟨⟨hkc, rfl⟩, ehp2⟩ := hp2
  rw [ehp2] at hW
  have hicc : cc.toNat < S 0 0 := by omega
  obtain ⟨hc0, hc1, hc2, ⟨f45, hc3, hc3a, hc3b⟩, hc4, hc4n, hc5, F50, hc6, hc6a⟩ := id (cs.ch hcs hicc)
  have hwicc := hwf.ch hicc
  refine lv_astore_n (lv' := [(3, .ref (B 40 (cc.toNat))), (0, .ref (B 0 0)), (1, .int (zI cc)), (2, .int (zI a))]) hx hb dX7_needs_5 rfl hl (by decide) rfl (fun ls hl => ?_)
  refine lv_iload_n hx hb dX7_needs_6 rfl (lv_at hl 3 rfl) ?_
  refine g_cvx (g_runSx X (k_X7_checkUser hfl (B := B) (C0 := C0) (a := a) (ra)) (va_cwS 1 hts gX7_needs_X7_checkUser rfl rfl rfl ds_X7_checkUser ⟨Nat.le_of_ble_eq_true rfl, Nat.le_of_ble_eq_true rfl⟩) hW hS rfl hl.1 rfl (Nat.le_of_ble_eq_true rfl) dX7_needs_7 ⟨Nat.le_of_ble_eq_true rfl, Nat.le_of_ble_eq_true rfl⟩) hS (fun E9 ce9 q9 C9 H9 locs9 hp9 hW9 hS9 e1 e2 e3 => ko E9 ce9 q9 C9 H9 locs9 _ _ _ _ _ (pubx (⟨hp9.1, by unfold cd_CU; rw [if_pos (fun z => hp9.2.1 z.2)]⟩) hcs hcx gfo.rfl' hp9.2.2) hW9 hS9 e1 e2 e3 (Nat.le_of_ble_eq_true rfl) (Nat.le_of_ble_eq_true rfl)) (fun C5 H locs hp6 hW hS => ?_)
  obtain ⟨hku, ehp6⟩ := hp6
  rw [ehp6] at hW
  refine lv_aload_n hx hb dX7_needs_10 rfl (lv_at hl 1 rfl) ?_
  refine lv_aload_n hx hb dX7_needs_11 rfl (lv_at hl 0 rfl) ?_
  refine g_ci (g_runV X (k_X7_neededUsers (i := (cc.toNat)) hcs hcx hwf hicc) (cwV 1 hts gX7_needs_X7_neededUsers rfl rfl rfl ⟨rfl, ds_X7_neededUsers⟩ ⟨Nat.le_of_ble_eq_true rfl, Nat.le_of_ble_eq_true rfl⟩) hW hS hb0 rfl rfl hl.1 rfl (Nat.le_of_ble_eq_true rfl) dX7_needs_12 ⟨Nat.le_of_ble_eq_true rfl, Nat.le_of_ble_eq_true rfl⟩) hS (fun r10 C8 H locs hp9 hW hS => ?_)
  obtain ⟨e11, hx12, hf13⟩ := hp9
  rw [e11]
  refine lv_iload_n hx hb dX7_needs_15 rfl (lv_at hl 3 rfl) ?_
  rw [show zI a = zI ((a.toNat : Nat) : Int) from congrArg zI (by omega)]
  refine g_ci (g_runS X (k_X7_hasBit (nb := (nee S T (cc.toNat))) (jb := a.toNat) (nee_lt hwf.rg hwicc.1) (by omega)) (va_cwS 2 hts gX7_needs_X7_hasBit rfl rfl rfl ds_X7_hasBit ⟨Nat.le_of_ble_eq_true rfl, Nat.le_of_ble_eq_true rfl⟩) hW hS rfl hl.1 rfl (Nat.le_of_ble_eq_true rfl) dX7_needs_16 ⟨Nat.le_of_ble_eq_true rfl, Nat.le_of_ble_eq_true rfl⟩) hS (fun r16 C14 H locs hp15 hW hS => ?_)
  obtain ⟨rfl, ehp15⟩ := hp15
  rw [ehp15] at hW
  exact kret _ _ _ _ _ _ _ _ (⟨⟨by unfold cd_CU; rw [if_neg (fun z => z ⟨hkc, hku⟩)], rfl⟩, (cs.kept hcs (fun k' i' h' => hf13 (k') (i') (by omega))), hx12, (fun k' i' h => (hf13 k' i' (by omega)))⟩) hW hS (Nat.le_of_ble_eq_true rfl) (Nat.le_of_ble_eq_true rfl) dX7_needs_19

theorem ds_X7_placeIn : yX7_placeIn.cls ≠ "java/lang/invoke/MethodHandle" ∧ yX7_placeIn.cls ≠ "java/lang/invoke/VarHandle" ∧ (parseMethodDescriptor yX7_placeIn.desc).map (fun d => d.parameters.length) = some 2 := by decide +kernel
def rX7_placeIn : Room := { frames := 8, cells := 4, slots := 24, locals := 124 }
set_option maxHeartbeats 4000000 in
set_option maxRecDepth 100000 in
theorem k_X7_placeIn {l : Launch} (hfl : l.stackTraces = false) {Z : gZ} {B : gB} {C0 : gC} {S : gS} {T : gTx} {qq a : Int} (hcs : cs Z B C0 S T) (hcx : cx Z B C0) (hwf : wf S T) (rqq : zr qq) (ra : zr a) : vx_Met l yX7_placeIn wsX7_placeIn rX7_placeIn (gPc Z B C0 [.ref (B 0 0), .int (zI qq), .int (zI a)]) (gQi Z B (fun r C1 => (cd_placeIn S T qq a = 0 ∧ r = zI (enc (plq S T qq.toNat a.toNat))) ∧ cs Z B C1 S T ∧ cx Z B C1 ∧ gfo C0 C1)) (gXC Z B (fun E C1 => (E = "java/lang/IndexOutOfBoundsException" ∧ cd_placeIn S T qq a = 1 ∨ E = "java/util/NoSuchElementException" ∧ cd_placeIn S T qq a = 2) ∧ cs Z B C1 S T ∧ cx Z B C1 ∧ gfo C0 C1)) 4 24 (gA Z) := by
  refine g_ofIx (cc := cX7_placeIn) (maxL := 4) hfl (by decide) rfl rfl (Nat.le_of_ble_eq_true rfl) (Nat.le_of_ble_eq_true rfl) (Nat.le_of_ble_eq_true rfl) (Nat.le_of_ble_eq_true rfl) (Nat.le_of_ble_eq_true rfl) ?_
  intro p e s m args below meth c Q X kret ko kt hW hS ls hl
  have hx := X.1.1
  have hb := X.1.2.1
  have hts := X.1.2.2.2.2
  have hl : lv_has ls 4 [(0, .ref (B 0 0)), (1, .int (zI qq)), (2, .int (zI a))] := hl
  obtain ⟨hb0, hb1, ⟨F3, hb3, hb3a⟩, ⟨f4, hb4, hb4a, hb4b⟩, ⟨f5, hb5, hb5a, hb5b⟩, ⟨F6, hb6, hb6a⟩, hb7, hb8, hb9, hb10, hb11⟩ := id hcs
  have hwn := hwf.n
  refine lv_aload_n hx hb dX7_placeIn_0 rfl (lv_at hl 0 rfl) ?_
  refine lv_iload_n hx hb dX7_placeIn_1 rfl (lv_at hl 1 rfl) ?_
  refine g_crx (g_runVx X (k_X7_remarkOf hfl (a := qq) hcs hwf (rqq)) (cwV 1 hts gX7_placeIn_X7_remarkOf rfl rfl rfl ⟨rfl, ds_X7_remarkOf⟩ ⟨Nat.le_of_ble_eq_true rfl, Nat.le_of_ble_eq_true rfl⟩) hW hS hb0 rfl rfl hl.1 rfl (Nat.le_of_ble_eq_true rfl) dX7_placeIn_2 ⟨Nat.le_of_ble_eq_true rfl, Nat.le_of_ble_eq_true rfl⟩) hS (fun E9 ce9 q9 C9 H9 locs9 hp9 hW9 hS9 e1 e2 e3 => ko E9 ce9 q9 C9 H9 locs9 _ _ _ _ _ (pubx (Or.inl (⟨hp9.1, by unfold cd_placeIn; rw [if_pos (hp9.2.1)]⟩)) hcs hcx gfo.rfl' hp9.2.2) hW9 hS9 e1 e2 e3 (Nat.le_of_ble_eq_true rfl) (Nat.le_of_ble_eq_true rfl)) (fun r3 C1 H locs hp2 hW hS => ?_)
  obtain ⟨⟨hkc, rfl⟩, ehp2⟩ := hp2
  rw [ehp2] at hW
  have hqqq : qq.toNat < S 0 2 := by omega
  have hr0 := hcs.2.2.2.2.2.2.2.1 (qq.toNat) hqqq
  have hwq := hwf.rm hqqq
  have hio := hwq.1
  have hwo := hwf.ch hio
  refine lv_astore_n (lv' := [(3, .ref (B 60 (qq.toNat))), (0, .ref (B 0 0)), (1, .int (zI qq)), (2, .int (zI a))]) hx hb dX7_placeIn_5 rfl hl (by decide) rfl (fun ls hl => ?_)
  refine lv_aload_n hx hb dX7_placeIn_6 rfl (lv_at hl 0 rfl) ?_
  refine lv_iload_n hx hb dX7_placeIn_7 rfl (lv_at hl 3 rfl) ?_
  refine g_cvx (g_runSx X (k_X7_checkPlaceAsked hfl (a := a) hcs hwf hqqq (ra)) (va_cwS 2 hts gX7_placeIn_X7_checkPlaceAsked rfl rfl rfl ds_X7_checkPlaceAsked ⟨Nat.le_of_ble_eq_true rfl, Nat.le_of_ble_eq_true rfl⟩) hW hS rfl hl.1 rfl (Nat.le_of_ble_eq_true rfl) dX7_placeIn_8 ⟨Nat.le_of_ble_eq_true rfl, Nat.le_of_ble_eq_true rfl⟩) hS (fun E9 ce9 q9 C9 H9 locs9 hp9 hW9 hS9 e1 e2 e3 => ko E9 ce9 q9 C9 H9 locs9 _ _ _ _ _ (pubx (Or.inr (⟨hp9.1, by unfold cd_placeIn; rw [if_neg (fun z => z hkc), if_pos (hp9.2.1)]⟩)) hcs hcx gfo.rfl' hp9.2.2) hW9 hS9 e1 e2 e3 (Nat.le_of_ble_eq_true rfl) (Nat.le_of_ble_eq_true rfl)) (fun C5 H locs hp6 hW hS => ?_)
  obtain ⟨hkp, ehp6⟩ := hp6
  rw [ehp6] at hW
  refine lv_aload_n hx hb dX7_placeIn_11 rfl (lv_at hl 1 rfl) ?_
  refine lv_aload_n hx hb dX7_placeIn_12 rfl (lv_at hl 0 rfl) ?_
  refine lv_iload_n hx hb dX7_placeIn_13 rfl (lv_at hl 3 rfl) ?_
  refine g_ci (g_runV X (k_X7_placeForwards (q := (qq.toNat)) (rd := a.toNat) (a := a) hcs hcx hwf hqqq (by omega) (⟨by omega, by omega⟩)) (cwV 2 hts gX7_placeIn_X7_placeForwards rfl rfl rfl ⟨rfl, ds_X7_placeForwards⟩ ⟨Nat.le_of_ble_eq_true rfl, Nat.le_of_ble_eq_true rfl⟩) hW hS hb0 rfl rfl hl.1 rfl (Nat.le_of_ble_eq_true rfl) dX7_placeIn_14 ⟨Nat.le_of_ble_eq_true rfl, Nat.le_of_ble_eq_true rfl⟩) hS (fun r10 C8 H locs hp9 hW hS => ?_)
  obtain ⟨e11, hx12, hf13⟩ := hp9
  rw [e11]
  have heg : -1 ≤ enc (plc T (S 11 qq.toNat) (a.toNat - S 12 qq.toNat) (S 12 qq.toNat) (some (S 13 qq.toNat))) := enc_rng _
  have heh : enc (plc T (S 11 qq.toNat) (a.toNat - S 12 qq.toNat) (S 12 qq.toNat) (some (S 13 qq.toNat))) ≤ 12 := plq_le hwf hqqq (by omega)
  refine g_cix (g_runSx X (k_X7_placeOrThrow hfl (B := B) (C0 := C8) (a := (enc (plc T (S 11 (qq.toNat)) (a.toNat - S 12 (qq.toNat)) (S 12 (qq.toNat)) (some (S 13 (qq.toNat)))))) (⟨by omega, by omega⟩)) (va_cwS 1 hts gX7_placeIn_X7_placeOrThrow rfl rfl rfl ds_X7_placeOrThrow ⟨Nat.le_of_ble_eq_true rfl, Nat.le_of_ble_eq_true rfl⟩) hW hS rfl hl.1 rfl (Nat.le_of_ble_eq_true rfl) dX7_placeIn_17 ⟨Nat.le_of_ble_eq_true rfl, Nat.le_of_ble_eq_true rfl⟩) hS (fun E9 ce9 q9 C9 H9 locs9 hp9 hW9 hS9 e1 e2 e3 => ko E9 ce9 q9 C9 H9 locs9 _ _ _ _ _ (pubx (Or.inr (⟨hp9.1, by unfold cd_placeIn; rw [if_neg (fun z => z hkc), if_neg (fun z => z hkp), if_pos (enc_n hp9.2.1)]⟩)) (cs.kept hcs (fun k' i' h' => hf13 (k') (i') (by omega))) hx12 (fun k' i' h => (hf13 k' i' (by omega))) hp9.2.2) hW9 hS9 e1 e2 e3 (Nat.le_of_ble_eq_true rfl) (Nat.le_of_ble_eq_true rfl)) (fun r16 C14 H locs hp15 hW hS => ?_)
  obtain ⟨⟨rfl, hkn⟩, ehp15⟩ := hp15
  rw [ehp15] at hW
  exact kret _ _ _ _ _ _ _ _ (⟨⟨by unfold cd_placeIn; rw [if_neg (fun z => z hkc), if_neg (fun z => z hkp), if_neg (fun z => hkn (congrArg enc z))], rfl⟩, (cs.kept hcs (fun k' i' h' => hf13 (k') (i') (by omega))), hx12, (fun k' i' h => (hf13 k' i' (by omega)))⟩) hW hS (Nat.le_of_ble_eq_true rfl) (Nat.le_of_ble_eq_true rfl) dX7_placeIn_20

theorem ds_X7_placeByComparing : yX7_placeByComparing.cls ≠ "java/lang/invoke/MethodHandle" ∧ yX7_placeByComparing.cls ≠ "java/lang/invoke/VarHandle" ∧ (parseMethodDescriptor yX7_placeByComparing.desc).map (fun d => d.parameters.length) = some 2 := by decide +kernel
def rX7_placeByComparing : Room := { frames := 8, cells := 4, slots := 24, locals := 124 }
set_option maxHeartbeats 4000000 in
set_option maxRecDepth 100000 in
theorem k_X7_placeByComparing {l : Launch} (hfl : l.stackTraces = false) {Z : gZ} {B : gB} {C0 : gC} {S : gS} {T : gTx} {qq a : Int} (hcs : cs Z B C0 S T) (hcx : cx Z B C0) (hwf : wf S T) (rqq : zr qq) (ra : zr a) : vx_Met l yX7_placeByComparing wsX7_placeByComparing rX7_placeByComparing (gPc Z B C0 [.ref (B 0 0), .int (zI qq), .int (zI a)]) (gQi Z B (fun r C1 => (cd_placeIn S T qq a = 0 ∧ r = zI (enc (plq S T qq.toNat a.toNat))) ∧ cs Z B C1 S T ∧ cx Z B C1 ∧ gfo C0 C1)) (gXC Z B (fun E C1 => (E = "java/lang/IndexOutOfBoundsException" ∧ cd_placeIn S T qq a = 1 ∨ E = "java/util/NoSuchElementException" ∧ cd_placeIn S T qq a = 2) ∧ cs Z B C1 S T ∧ cx Z B C1 ∧ gfo C0 C1)) 4 24 (gA Z) := by
  refine g_ofIx (cc := cX7_placeByComparing) (maxL := 4) hfl (by decide) rfl rfl (Nat.le_of_ble_eq_true rfl) (Nat.le_of_ble_eq_true rfl) (Nat.le_of_ble_eq_true rfl) (Nat.le_of_ble_eq_true rfl) (Nat.le_of_ble_eq_true rfl) ?_
  intro p e s m args below meth c Q X kret ko kt hW hS ls hl
  have hx := X.1.1
  have hb := X.1.2.1
  have hts := X.1.2.2.2.2
  have hl : lv_has ls 4 [(0, .ref (B 0 0)), (1, .int (zI qq)), (2, .int (zI a))] := hl
  obtain ⟨hb0, hb1, ⟨F3, hb3, hb3a⟩, ⟨f4, hb4, hb4a, hb4b⟩, ⟨f5, hb5, hb5a, hb5b⟩, ⟨F6, hb6, hb6a⟩, hb7, hb8, hb9, hb10, hb11⟩ := id hcs
  have hwn := hwf.n
  refine lv_aload_n hx hb dX7_placeByComparing_0 rfl (lv_at hl 0 rfl) ?_
  refine lv_iload_n hx hb dX7_placeByComparing_1 rfl (lv_at hl 1 rfl) ?_
  refine g_crx (g_runVx X (k_X7_remarkOf hfl (a := qq) hcs hwf (rqq)) (cwV 1 hts gX7_placeByComparing_X7_remarkOf rfl rfl rfl ⟨rfl, ds_X7_remarkOf⟩ ⟨Nat.le_of_ble_eq_true rfl, Nat.le_of_ble_eq_true rfl⟩) hW hS hb0 rfl rfl hl.1 rfl (Nat.le_of_ble_eq_true rfl) dX7_placeByComparing_2 ⟨Nat.le_of_ble_eq_true rfl, Nat.le_of_ble_eq_true rfl⟩) hS (fun E9 ce9 q9 C9 H9 locs9 hp9 hW9 hS9 e1 e2 e3 => ko E9 ce9 q9 C9 H9 locs9 _ _ _ _ _ (pubx (Or.inl (⟨hp9.1, by unfold cd_placeIn; rw [if_pos (hp9.2.1)]⟩)) hcs hcx gfo.rfl' hp9.2.2) hW9 hS9 e1 e2 e3 (Nat.le_of_ble_eq_true rfl) (Nat.le_of_ble_eq_true rfl)) (fun r3 C1 H locs hp2 hW hS => ?_)
  obtain ⟨⟨hkc, rfl⟩, ehp2⟩ := hp2
  rw [ehp2] at hW
  have hqqq : qq.toNat < S 0 2 := by omega
  have hr0 := hcs.2.2.2.2.2.2.2.1 (qq.toNat) hqqq
  have hwq := hwf.rm hqqq
  have hio := hwq.1
  have hwo := hwf.ch hio
  refine lv_astore_n (lv' := [(3, .ref (B 60 (qq.toNat))), (0, .ref (B 0 0)), (1, .int (zI qq)), (2, .int (zI a))]) hx hb dX7_placeByComparing_5 rfl hl (by decide) rfl (fun ls hl => ?_)
  refine lv_aload_n hx hb dX7_placeByComparing_6 rfl (lv_at hl 0 rfl) ?_
  refine lv_iload_n hx hb dX7_placeByComparing_7 rfl (lv_at hl 3 rfl) ?_
  refine g_cvx (g_runSx X (k_X7_checkPlaceAsked hfl (a := a) hcs hwf hqqq (ra)) (va_cwS 2 hts gX7_placeByComparing_X7_checkPlaceAsked rfl rfl rfl ds_X7_checkPlaceAsked ⟨Nat.le_of_ble_eq_true rfl, Nat.le_of_ble_eq_true rfl⟩) hW hS rfl hl.1 rfl (Nat.le_of_ble_eq_true rfl) dX7_placeByComparing_8 ⟨Nat.le_of_ble_eq_true rfl, Nat.le_of_ble_eq_true rfl⟩) hS (fun E9 ce9 q9 C9 H9 locs9 hp9 hW9 hS9 e1 e2 e3 => ko E9 ce9 q9 C9 H9 locs9 _ _ _ _ _ (pubx (Or.inr (⟨hp9.1, by unfold cd_placeIn; rw [if_neg (fun z => z hkc), if_pos (hp9.2.1)]⟩)) hcs hcx gfo.rfl' hp9.2.2) hW9 hS9 e1 e2 e3 (Nat.le_of_ble_eq_true rfl) (Nat.le_of_ble_eq_true rfl)) (fun C5 H locs hp6 hW hS => ?_)
  obtain ⟨hkp, ehp6⟩ := hp6
  rw [ehp6] at hW
  refine lv_aload_n hx hb dX7_placeByComparing_11 rfl (lv_at hl 1 rfl) ?_
  refine lv_aload_n hx hb dX7_placeByComparing_12 rfl (lv_at hl 0 rfl) ?_
  refine lv_iload_n hx hb dX7_placeByComparing_13 rfl (lv_at hl 3 rfl) ?_
  refine g_ci (g_runV X (k_X7_placeBackwards (q := (qq.toNat)) (rd := a.toNat) (a := a) hcs hcx hwf hqqq (by omega) (⟨by omega, by omega⟩)) (cwV 2 hts gX7_placeByComparing_X7_placeBackwards rfl rfl rfl ⟨rfl, ds_X7_placeBackwards⟩ ⟨Nat.le_of_ble_eq_true rfl, Nat.le_of_ble_eq_true rfl⟩) hW hS hb0 rfl rfl hl.1 rfl (Nat.le_of_ble_eq_true rfl) dX7_placeByComparing_14 ⟨Nat.le_of_ble_eq_true rfl, Nat.le_of_ble_eq_true rfl⟩) hS (fun r10 C8 H locs hp9 hW hS => ?_)
  obtain ⟨e11, hx12, hf13⟩ := hp9
  rw [e11]
  have heg : -1 ≤ enc (plc T (S 11 qq.toNat) (a.toNat - S 12 qq.toNat) (S 12 qq.toNat) (some (S 13 qq.toNat))) := enc_rng _
  have heh : enc (plc T (S 11 qq.toNat) (a.toNat - S 12 qq.toNat) (S 12 qq.toNat) (some (S 13 qq.toNat))) ≤ 12 := plq_le hwf hqqq (by omega)
  refine g_cix (g_runSx X (k_X7_placeOrThrow hfl (B := B) (C0 := C8) (a := (enc (plc T (S 11 (qq.toNat)) (a.toNat - S 12 (qq.toNat)) (S 12 (qq.toNat)) (some (S 13 (qq.toNat)))))) (⟨by omega, by omega⟩)) (va_cwS 1 hts gX7_placeByComparing_X7_placeOrThrow rfl rfl rfl ds_X7_placeOrThrow ⟨Nat.le_of_ble_eq_true rfl, Nat.le_of_ble_eq_true rfl⟩) hW hS rfl hl.1 rfl (Nat.le_of_ble_eq_true rfl) dX7_placeByComparing_17 ⟨Nat.le_of_ble_eq_true rfl, Nat.le_of_ble_eq_true rfl⟩) hS (fun E9 ce9 q9 C9 H9 locs9 hp9 hW9 hS9 e1 e2 e3 => ko E9 ce9 q9 C9 H9 locs9 _ _ _ _ _ (pubx (Or.inr (⟨hp9.1, by unfold cd_placeIn; rw [if_neg (fun z => z hkc), if_neg (fun z => z hkp), if_pos (enc_n hp9.2.1)]⟩)) (cs.kept hcs (fun k' i' h' => hf13 (k') (i') (by omega))) hx12 (fun k' i' h => (hf13 k' i' (by omega))) hp9.2.2) hW9 hS9 e1 e2 e3 (Nat.le_of_ble_eq_true rfl) (Nat.le_of_ble_eq_true rfl)) (fun r16 C14 H locs hp15 hW hS => ?_)
  obtain ⟨⟨rfl, hkn⟩, ehp15⟩ := hp15
  rw [ehp15] at hW
  exact kret _ _ _ _ _ _ _ _ (⟨⟨by unfold cd_placeIn; rw [if_neg (fun z => z hkc), if_neg (fun z => z hkp), if_neg (fun z => hkn (congrArg enc z))], rfl⟩, (cs.kept hcs (fun k' i' h' => hf13 (k') (i') (by omega))), hx12, (fun k' i' h => (hf13 k' i' (by omega)))⟩) hW hS (Nat.le_of_ble_eq_true rfl) (Nat.le_of_ble_eq_true rfl) dX7_placeByComparing_20

theorem ds_X7_isOpen : yX7_isOpen.cls ≠ "java/lang/invoke/MethodHandle" ∧ yX7_isOpen.cls ≠ "java/lang/invoke/VarHandle" ∧ (parseMethodDescriptor yX7_isOpen.desc).map (fun d => d.parameters.length) = some 1 := by decide +kernel
theorem in_X7_isOpen_3 : ∀ w ∈ wsX30, w ∈ wsX7_isOpen := by decide +kernel
def rX7_isOpen : Room := { frames := 7, cells := 1, slots := 6, locals := 104 }
set_option maxHeartbeats 4000000 in
set_option maxRecDepth 100000 in
theorem k_X7_isOpen {l : Launch} (hfl : l.stackTraces = false) {Z : gZ} {B : gB} {C0 : gC} {S : gS} {T : gTx} {qq : Int} (hcs : cs Z B C0 S T) (hcx : cx Z B C0) (hwf : wf S T) (rqq : zr qq) : vx_Met l yX7_isOpen wsX7_isOpen rX7_isOpen (gPc Z B C0 [.ref (B 0 0), .int (zI qq)]) (gQi Z B (fun r C1 => (cd_R S qq = 0 ∧ r = zI (if S 14 qq.toNat = 0 then 1 else 0)) ∧ cs Z B C1 S T ∧ cx Z B C1 ∧ gfo C0 C1)) (gXC Z B (fun E C1 => (E = "java/lang/IndexOutOfBoundsException" ∧ cd_R S qq = 1) ∧ cs Z B C1 S T ∧ cx Z B C1 ∧ gfo C0 C1)) 1 6 (gA Z) := by
  refine g_ofZx (cc := cX7_isOpen) (maxL := 2) hfl (by decide) rfl rfl (Nat.le_of_ble_eq_true rfl) (fun r C1 h => by obtain ⟨⟨-, h⟩, -⟩ := h; rw [h]; split <;> rfl) (Nat.le_of_ble_eq_true rfl) (Nat.le_of_ble_eq_true rfl) (Nat.le_of_ble_eq_true rfl) (Nat.le_of_ble_eq_true rfl) ?_
  intro p e s m args below meth c Q X kret ko kt hW hS ls hl
  have hx := X.1.1
  have hb := X.1.2.1
  have hts := X.1.2.2.2.2
  have hl : lv_has ls 2 [(0, .ref (B 0 0)), (1, .int (zI qq))] := hl
  obtain ⟨hb0, hb1, ⟨F3, hb3, hb3a⟩, ⟨f4, hb4, hb4a, hb4b⟩, ⟨f5, hb5, hb5a, hb5b⟩, ⟨F6, hb6, hb6a⟩, hb7, hb8, hb9, hb10, hb11⟩ := id hcs
  have hwn := hwf.n
  refine lv_aload_n hx hb dX7_isOpen_0 rfl (lv_at hl 0 rfl) ?_
  refine lv_iload_n hx hb dX7_isOpen_1 rfl (lv_at hl 1 rfl) ?_
  refine g_crx (g_runVx X (k_X7_remarkOf hfl (a := qq) hcs hwf (rqq)) (cwV 1 hts gX7_isOpen_X7_remarkOf rfl rfl rfl ⟨rfl, ds_X7_remarkOf⟩ ⟨Nat.le_of_ble_eq_true rfl, Nat.le_of_ble_eq_true rfl⟩) hW hS hb0 rfl rfl hl.1 rfl (Nat.le_of_ble_eq_true rfl) dX7_isOpen_2 ⟨Nat.le_of_ble_eq_true rfl, Nat.le_of_ble_eq_true rfl⟩) hS (fun E9 ce9 q9 C9 H9 locs9 hp9 hW9 hS9 e1 e2 e3 => ko E9 ce9 q9 C9 H9 locs9 _ _ _ _ _ (pubx (⟨hp9.1, by unfold cd_R; rw [if_pos (hp9.2.1)]⟩) hcs hcx gfo.rfl' hp9.2.2) hW9 hS9 e1 e2 e3 (Nat.le_of_ble_eq_true rfl) (Nat.le_of_ble_eq_true rfl)) (fun r3 C1 H locs hp2 hW hS => ?_)
  obtain ⟨⟨hkc, rfl⟩, ehp2⟩ := hp2
  rw [ehp2] at hW
  have hqqq : qq.toNat < S 0 2 := by omega
  have hr0 := hcs.2.2.2.2.2.2.2.1 (qq.toNat) hqqq
  have hwq := hwf.rm hqqq
  have hio := hwq.1
  have hwo := hwf.ch hio
  refine g_getN (ci := 3) X in_X7_isOpen_3 rfl hW hr0 3 (by decide) _ nf_4 rfl rfl dX7_isOpen_5 ?_
  refine z_if_ne (tgt := 15) hx hb dX7_isOpen_8 (by decide) (⟨by omega, by omega⟩) (fun h_8 => ?_) (fun h_8 => ?_)
  · refine lv_iconst (v := zI (0)) hx hb dX7_isOpen_15 rfl ?_
    exact kret _ _ _ _ _ _ _ _ (⟨⟨by unfold cd_R; rw [if_neg (fun z => z hkc)], by rw [if_neg (by omega)]⟩, hcs, hcx, gfo.rfl'⟩) hW hS (Nat.le_of_ble_eq_true rfl) (Nat.le_of_ble_eq_true rfl) dX7_isOpen_16
  · refine lv_iconst (v := zI (1)) hx hb dX7_isOpen_11 rfl ?_
    refine lv_goto (tgt := 16) hx hb dX7_isOpen_12 (by decide) ?_
    exact kret _ _ _ _ _ _ _ _ (⟨⟨by unfold cd_R; rw [if_neg (fun z => z hkc)], by rw [if_pos (by omega)]⟩, hcs, hcx, gfo.rfl'⟩) hW hS (Nat.le_of_ble_eq_true rfl) (Nat.le_of_ble_eq_true rfl) dX7_isOpen_16

theorem ds_X7_openComments : yX7_openComments.cls ≠ "java/lang/invoke/MethodHandle" ∧ yX7_openComments.cls ≠ "java/lang/invoke/VarHandle" ∧ (parseMethodDescriptor yX7_openComments.desc).map (fun d => d.parameters.length) = some 1 := by decide +kernel
def rX7_openComments : Room := { frames := 7, cells := 1, slots := 6, locals := 104 }
set_option maxHeartbeats 4000000 in
set_option maxRecDepth 100000 in
theorem k_X7_openComments {l : Launch} (hfl : l.stackTraces = false) {Z : gZ} {B : gB} {C0 : gC} {S : gS} {T : gTx} {cc : Int} (hcs : cs Z B C0 S T) (hcx : cx Z B C0) (hwf : wf S T) (rcc : zr cc) : vx_Met l yX7_openComments wsX7_openComments rX7_openComments (gPc Z B C0 [.ref (B 0 0), .int (zI cc)]) (gQi Z B (fun r C1 => (cd_C S cc = 0 ∧ r = zI (opn S cc.toNat : Int)) ∧ cs Z B C1 S T ∧ cx Z B C1 ∧ gfo C0 C1)) (gXC Z B (fun E C1 => (E = "java/lang/IndexOutOfBoundsException" ∧ cd_C S cc = 1) ∧ cs Z B C1 S T ∧ cx Z B C1 ∧ gfo C0 C1)) 1 6 (gA Z) := by
  refine g_ofIx (cc := cX7_openComments) (maxL := 2) hfl (by decide) rfl rfl (Nat.le_of_ble_eq_true rfl) (Nat.le_of_ble_eq_true rfl) (Nat.le_of_ble_eq_true rfl) (Nat.le_of_ble_eq_true rfl) (Nat.le_of_ble_eq_true rfl) ?_
  intro p e s m args below meth c Q X kret ko kt hW hS ls hl
  have hx := X.1.1
  have hb := X.1.2.1
  have hts := X.1.2.2.2.2
  have hl : lv_has ls 2 [(0, .ref (B 0 0)), (1, .int (zI cc))] := hl
  obtain ⟨hb0, hb1, ⟨F3, hb3, hb3a⟩, ⟨f4, hb4, hb4a, hb4b⟩, ⟨f5, hb5, hb5a, hb5b⟩, ⟨F6, hb6, hb6a⟩, hb7, hb8, hb9, hb10, hb11⟩ := id hcs
  have hwn := hwf.n
  refine lv_aload_n hx hb dX7_openComments_0 rfl (lv_at hl 0 rfl) ?_
  refine lv_aload_n hx hb dX7_openComments_1 rfl (lv_at hl 0 rfl) ?_
  refine lv_iload_n hx hb dX7_openComments_2 rfl (lv_at hl 1 rfl) ?_
  refine g_crx (g_runVx X (k_X7_changeOf hfl (a := cc) hcs hwf (rcc)) (cwV 1 hts gX7_openComments_X7_changeOf rfl rfl rfl ⟨rfl, ds_X7_changeOf⟩ ⟨Nat.le_of_ble_eq_true rfl, Nat.le_of_ble_eq_true rfl⟩) hW hS hb0 rfl rfl hl.1 rfl (Nat.le_of_ble_eq_true rfl) dX7_openComments_3 ⟨Nat.le_of_ble_eq_true rfl, Nat.le_of_ble_eq_true rfl⟩) hS (fun E9 ce9 q9 C9 H9 locs9 hp9 hW9 hS9 e1 e2 e3 => ko E9 ce9 q9 C9 H9 locs9 _ _ _ _ _ (pubx (⟨hp9.1, by unfold cd_C; rw [if_pos (hp9.2.1)]⟩) hcs hcx gfo.rfl' hp9.2.2) hW9 hS9 e1 e2 e3 (Nat.le_of_ble_eq_true rfl) (Nat.le_of_ble_eq_true rfl)) (fun r3 C1 H locs hp2 hW hS => ?_)
  obtain ⟨⟨hkc, rfl⟩, ehp2⟩ := hp2
  rw [ehp2] at hW
  have hicc : cc.toNat < S 0 0 := by omega
  obtain ⟨hc0, hc1, hc2, ⟨f45, hc3, hc3a, hc3b⟩, hc4, hc4n, hc5, F50, hc6, hc6a⟩ := id (cs.ch hcs hicc)
  have hwicc := hwf.ch hicc
  refine g_ci (g_runV X (k_X7_countOpen (i := (cc.toNat)) hcs hwf hicc) (cwV 1 hts gX7_openComments_X7_countOpen rfl rfl rfl ⟨rfl, ds_X7_countOpen⟩ ⟨Nat.le_of_ble_eq_true rfl, Nat.le_of_ble_eq_true rfl⟩) hW hS hb0 rfl rfl hl.1 rfl (Nat.le_of_ble_eq_true rfl) dX7_openComments_6 ⟨Nat.le_of_ble_eq_true rfl, Nat.le_of_ble_eq_true rfl⟩) hS (fun r7 C5 H locs hp6 hW hS => ?_)
  obtain ⟨rfl, ehp6⟩ := hp6
  rw [ehp6] at hW
  exact kret _ _ _ _ _ _ _ _ (⟨⟨by unfold cd_C; rw [if_neg (fun z => z hkc)], rfl⟩, hcs, hcx, gfo.rfl'⟩) hW hS (Nat.le_of_ble_eq_true rfl) (Nat.le_of_ble_eq_true rfl) dX7_openComments_9

theorem ds_X7_hasApproved : yX7_hasApproved.cls ≠ "java/lang/invoke/MethodHandle" ∧ yX7_hasApproved.cls ≠ "java/lang/invoke/VarHandle" ∧ (parseMethodDescriptor yX7_hasApproved.desc).map (fun d => d.parameters.length) = some 2 := by decide +kernel
def rX7_hasApproved : Room := { frames := 7, cells := 2, slots := 12, locals := 104 }
set_option maxHeartbeats 4000000 in
set_option maxRecDepth 100000 in
theorem k_X7_hasApproved {l : Launch} (hfl : l.stackTraces = false) {Z : gZ} {B : gB} {C0 : gC} {S : gS} {T : gTx} {cc a : Int} (hcs : cs Z B C0 S T) (hcx : cx Z B C0) (hwf : wf S T) (rcc : zr cc) (ra : zr a) : vx_Met l yX7_hasApproved wsX7_hasApproved rX7_hasApproved (gPc Z B C0 [.ref (B 0 0), .int (zI cc), .int (zI a)]) (gQi Z B (fun r C1 => (cd_CU S cc a = 0 ∧ r = zI (if 1 ≤ S 7 (5 * cc.toNat + a.toNat) then 1 else 0)) ∧ cs Z B C1 S T ∧ cx Z B C1 ∧ gfo C0 C1)) (gXC Z B (fun E C1 => (E = "java/lang/IndexOutOfBoundsException" ∧ cd_CU S cc a = 1) ∧ cs Z B C1 S T ∧ cx Z B C1 ∧ gfo C0 C1)) 2 12 (gA Z) := by
  refine g_ofZx (cc := cX7_hasApproved) (maxL := 4) hfl (by decide) rfl rfl (Nat.le_of_ble_eq_true rfl) (fun r C1 h => by obtain ⟨⟨-, h⟩, -⟩ := h; rw [h]; split <;> rfl) (Nat.le_of_ble_eq_true rfl) (Nat.le_of_ble_eq_true rfl) (Nat.le_of_ble_eq_true rfl) (Nat.le_of_ble_eq_true rfl) ?_
  intro p e s m args below meth c Q X kret ko kt hW hS ls hl
  have hx := X.1.1
  have hb := X.1.2.1
  have hts := X.1.2.2.2.2
  have hl : lv_has ls 4 [(0, .ref (B 0 0)), (1, .int (zI cc)), (2, .int (zI a))] := hl
  obtain ⟨hb0, hb1, ⟨F3, hb3, hb3a⟩, ⟨f4, hb4, hb4a, hb4b⟩, ⟨f5, hb5, hb5a, hb5b⟩, ⟨F6, hb6, hb6a⟩, hb7, hb8, hb9, hb10, hb11⟩ := id hcs
  have hwn := hwf.n
  refine lv_aload_n hx hb dX7_hasApproved_0 rfl (lv_at hl 0 rfl) ?_
  refine lv_iload_n hx hb dX7_hasApproved_1 rfl (lv_at hl 1 rfl) ?_
  refine g_crx (g_runVx X (k_X7_changeOf hfl (a := cc) hcs hwf (rcc)) (cwV 1 hts gX7_hasApproved_X7_changeOf rfl rfl rfl ⟨rfl, ds_X7_changeOf⟩ ⟨Nat.le_of_ble_eq_true rfl, Nat.le_of_ble_eq_true rfl⟩) hW hS hb0 rfl rfl hl.1 rfl (Nat.le_of_ble_eq_true rfl) dX7_hasApproved_2 ⟨Nat.le_of_ble_eq_true rfl, Nat.le_of_ble_eq_true rfl⟩) hS (fun E9 ce9 q9 C9 H9 locs9 hp9 hW9 hS9 e1 e2 e3 => ko E9 ce9 q9 C9 H9 locs9 _ _ _ _ _ (pubx (⟨hp9.1, by unfold cd_CU; rw [if_pos (fun z => hp9.2.1 z.1)]⟩) hcs hcx gfo.rfl' hp9.2.2) hW9 hS9 e1 e2 e3 (Nat.le_of_ble_eq_true rfl) (Nat.le_of_ble_eq_true rfl)) (fun r3 C1 H locs hp2 hW hS => ?_)
  obtain ⟨⟨hkc, rfl⟩, ehp2⟩ := hp2
  rw [ehp2] at hW
  have hicc : cc.toNat < S 0 0 := by omega
  obtain ⟨hc0, hc1, hc2, ⟨f45, hc3, hc3a, hc3b⟩, hc4, hc4n, hc5, F50, hc6, hc6a⟩ := id (cs.ch hcs hicc)
  have hwicc := hwf.ch hicc
  refine lv_astore_n (lv' := [(3, .ref (B 40 (cc.toNat))), (0, .ref (B 0 0)), (1, .int (zI cc)), (2, .int (zI a))]) hx hb dX7_hasApproved_5 rfl hl (by decide) rfl (fun ls hl => ?_)
  refine lv_iload_n hx hb dX7_hasApproved_6 rfl (lv_at hl 3 rfl) ?_
  refine g_cvx (g_runSx X (k_X7_checkUser hfl (B := B) (C0 := C0) (a := a) (ra)) (va_cwS 1 hts gX7_hasApproved_X7_checkUser rfl rfl rfl ds_X7_checkUser ⟨Nat.le_of_ble_eq_true rfl, Nat.le_of_ble_eq_true rfl⟩) hW hS rfl hl.1 rfl (Nat.le_of_ble_eq_true rfl) dX7_hasApproved_7 ⟨Nat.le_of_ble_eq_true rfl, Nat.le_of_ble_eq_true rfl⟩) hS (fun E9 ce9 q9 C9 H9 locs9 hp9 hW9 hS9 e1 e2 e3 => ko E9 ce9 q9 C9 H9 locs9 _ _ _ _ _ (pubx (⟨hp9.1, by unfold cd_CU; rw [if_pos (fun z => hp9.2.1 z.2)]⟩) hcs hcx gfo.rfl' hp9.2.2) hW9 hS9 e1 e2 e3 (Nat.le_of_ble_eq_true rfl) (Nat.le_of_ble_eq_true rfl)) (fun C5 H locs hp6 hW hS => ?_)
  obtain ⟨hku, ehp6⟩ := hp6
  rw [ehp6] at hW
  refine lv_aload_n hx hb dX7_hasApproved_10 rfl (lv_at hl 0 rfl) ?_
  refine lv_iload_n hx hb dX7_hasApproved_11 rfl (lv_at hl 3 rfl) ?_
  refine g_ci (g_runV X (k_X1_isApprovedBy (a := a) hcs hwf hicc (hku)) (cwV 1 hts gX7_hasApproved_X1_isApprovedBy rfl rfl rfl ⟨rfl, ds_X1_isApprovedBy⟩ ⟨Nat.le_of_ble_eq_true rfl, Nat.le_of_ble_eq_true rfl⟩) hW hS hc0 rfl rfl hl.1 rfl (Nat.le_of_ble_eq_true rfl) dX7_hasApproved_12 ⟨Nat.le_of_ble_eq_true rfl, Nat.le_of_ble_eq_true rfl⟩) hS (fun r10 C8 H locs hp9 hW hS => ?_)
  obtain ⟨rfl, ehp9⟩ := hp9
  rw [ehp9] at hW
  exact kret _ _ _ _ _ _ _ _ (⟨⟨by unfold cd_CU; rw [if_neg (fun z => z ⟨hkc, hku⟩)], rfl⟩, hcs, hcx, gfo.rfl'⟩) hW hS (Nat.le_of_ble_eq_true rfl) (Nat.le_of_ble_eq_true rfl) dX7_hasApproved_15

theorem ds_X7_isStale : yX7_isStale.cls ≠ "java/lang/invoke/MethodHandle" ∧ yX7_isStale.cls ≠ "java/lang/invoke/VarHandle" ∧ (parseMethodDescriptor yX7_isStale.desc).map (fun d => d.parameters.length) = some 2 := by decide +kernel
def rX7_isStale : Room := { frames := 7, cells := 3, slots := 18, locals := 120 }
set_option maxHeartbeats 4000000 in
set_option maxRecDepth 100000 in
theorem k_X7_isStale {l : Launch} (hfl : l.stackTraces = false) {Z : gZ} {B : gB} {C0 : gC} {S : gS} {T : gTx} {cc a : Int} (hcs : cs Z B C0 S T) (hcx : cx Z B C0) (hwf : wf S T) (rcc : zr cc) (ra : zr a) : vx_Met l yX7_isStale wsX7_isStale rX7_isStale (gPc Z B C0 [.ref (B 0 0), .int (zI cc), .int (zI a)]) (gQi Z B (fun r C1 => (cd_isStale S cc a = 0 ∧ r = zI (if (fre S T cc.toNat).testBit a.toNat = true then 0 else 1)) ∧ cs Z B C1 S T ∧ cx Z B C1 ∧ gfo C0 C1)) (gXC Z B (fun E C1 => (E = "java/lang/IndexOutOfBoundsException" ∧ cd_isStale S cc a = 1 ∨ E = "java/util/NoSuchElementException" ∧ cd_isStale S cc a = 2) ∧ cs Z B C1 S T ∧ cx Z B C1 ∧ gfo C0 C1)) 3 18 (gA Z) := by
  refine g_ofZx (cc := cX7_isStale) (maxL := 4) hfl (by decide) rfl rfl (Nat.le_of_ble_eq_true rfl) (fun r C1 h => by obtain ⟨⟨-, h⟩, -⟩ := h; rw [h]; split <;> rfl) (Nat.le_of_ble_eq_true rfl) (Nat.le_of_ble_eq_true rfl) (Nat.le_of_ble_eq_true rfl) (Nat.le_of_ble_eq_true rfl) ?_
  intro p e s m args below meth c Q X kret ko kt hW hS ls hl
  have hx := X.1.1
  have hb := X.1.2.1
  have hts := X.1.2.2.2.2
  have hl : lv_has ls 4 [(0, .ref (B 0 0)), (1, .int (zI cc)), (2, .int (zI a))] := hl
  obtain ⟨hb0, hb1, ⟨F3, hb3, hb3a⟩, ⟨f4, hb4, hb4a, hb4b⟩, ⟨f5, hb5, hb5a, hb5b⟩, ⟨F6, hb6, hb6a⟩, hb7, hb8, hb9, hb10, hb11⟩ := id hcs
  have hwn := hwf.n
  refine lv_aload_n hx hb dX7_isStale_0 rfl (lv_at hl 0 rfl) ?_
  refine lv_iload_n hx hb dX7_isStale_1 rfl (lv_at hl 1 rfl) ?_
  refine g_crx (g_runVx X (k_X7_changeOf hfl (a := cc) hcs hwf (rcc)) (cwV 1 hts gX7_isStale_X7_changeOf rfl rfl rfl ⟨rfl, ds_X7_changeOf⟩ ⟨Nat.le_of_ble_eq_true rfl, Nat.le_of_ble_eq_true rfl⟩) hW hS hb0 rfl rfl hl.1 rfl (Nat.le_of_ble_eq_true rfl) dX7_isStale_2 ⟨Nat.le_of_ble_eq_true rfl, Nat.le_of_ble_eq_true rfl⟩) hS (fun E9 ce9 q9 C9 H9 locs9 hp9 hW9 hS9 e1 e2 e3 => ko E9 ce9 q9 C9 H9 locs9 _ _ _ _ _ (pubx (Or.inl (⟨hp9.1, by unfold cd_isStale; rw [if_pos (fun z => hp9.2.1 z.1)]⟩)) hcs hcx gfo.rfl' hp9.2.2) hW9 hS9 e1 e2 e3 (Nat.le_of_ble_eq_true rfl) (Nat.le_of_ble_eq_true rfl)) (fun r3 C1 H locs hp2 hW hS => ?_)
  obtain ⟨⟨hkc, rfl⟩, ehp2⟩ := hp2
  rw [ehp2] at hW
  have hicc : cc.toNat < S 0 0 := by omega
  obtain ⟨hc0, hc1, hc2, ⟨f45, hc3, hc3a, hc3b⟩, hc4, hc4n, hc5, F50, hc6, hc6a⟩ := id (cs.ch hcs hicc)
  have hwicc := hwf.ch hicc
  refine lv_astore_n (lv' := [(3, .ref (B 40 (cc.toNat))), (0, .ref (B 0 0)), (1, .int (zI cc)), (2, .int (zI a))]) hx hb dX7_isStale_5 rfl hl (by decide) rfl (fun ls hl => ?_)
  refine lv_iload_n hx hb dX7_isStale_6 rfl (lv_at hl 3 rfl) ?_
  refine g_cvx (g_runSx X (k_X7_checkUser hfl (B := B) (C0 := C0) (a := a) (ra)) (va_cwS 1 hts gX7_isStale_X7_checkUser rfl rfl rfl ds_X7_checkUser ⟨Nat.le_of_ble_eq_true rfl, Nat.le_of_ble_eq_true rfl⟩) hW hS rfl hl.1 rfl (Nat.le_of_ble_eq_true rfl) dX7_isStale_7 ⟨Nat.le_of_ble_eq_true rfl, Nat.le_of_ble_eq_true rfl⟩) hS (fun E9 ce9 q9 C9 H9 locs9 hp9 hW9 hS9 e1 e2 e3 => ko E9 ce9 q9 C9 H9 locs9 _ _ _ _ _ (pubx (Or.inl (⟨hp9.1, by unfold cd_isStale; rw [if_pos (fun z => hp9.2.1 z.2)]⟩)) hcs hcx gfo.rfl' hp9.2.2) hW9 hS9 e1 e2 e3 (Nat.le_of_ble_eq_true rfl) (Nat.le_of_ble_eq_true rfl)) (fun C5 H locs hp6 hW hS => ?_)
  obtain ⟨hku, ehp6⟩ := hp6
  rw [ehp6] at hW
  refine lv_aload_n hx hb dX7_isStale_10 rfl (lv_at hl 0 rfl) ?_
  refine lv_iload_n hx hb dX7_isStale_11 rfl (lv_at hl 3 rfl) ?_
  refine g_cvx (g_runSx X (k_X7_checkApproved hfl (a := a) hcs hwf hicc (hku)) (va_cwS 2 hts gX7_isStale_X7_checkApproved rfl rfl rfl ds_X7_checkApproved ⟨Nat.le_of_ble_eq_true rfl, Nat.le_of_ble_eq_true rfl⟩) hW hS rfl hl.1 rfl (Nat.le_of_ble_eq_true rfl) dX7_isStale_12 ⟨Nat.le_of_ble_eq_true rfl, Nat.le_of_ble_eq_true rfl⟩) hS (fun E9 ce9 q9 C9 H9 locs9 hp9 hW9 hS9 e1 e2 e3 => ko E9 ce9 q9 C9 H9 locs9 _ _ _ _ _ (pubx (Or.inr (⟨hp9.1, by unfold cd_isStale; rw [if_neg (fun z => z ⟨hkc, hku⟩), if_pos (by have := hp9.2.1; omega)]⟩)) hcs hcx gfo.rfl' hp9.2.2) hW9 hS9 e1 e2 e3 (Nat.le_of_ble_eq_true rfl) (Nat.le_of_ble_eq_true rfl)) (fun C8 H locs hp9 hW hS => ?_)
  obtain ⟨hka, ehp9⟩ := hp9
  rw [ehp9] at hW
  refine lv_aload_n hx hb dX7_isStale_15 rfl (lv_at hl 1 rfl) ?_
  refine lv_aload_n hx hb dX7_isStale_16 rfl (lv_at hl 0 rfl) ?_
  refine g_ci (g_runV X (k_X7_freshUsers (i := (cc.toNat)) hcs hcx hwf hicc) (cwV 1 hts gX7_isStale_X7_freshUsers rfl rfl rfl ⟨rfl, ds_X7_freshUsers⟩ ⟨Nat.le_of_ble_eq_true rfl, Nat.le_of_ble_eq_true rfl⟩) hW hS hb0 rfl rfl hl.1 rfl (Nat.le_of_ble_eq_true rfl) dX7_isStale_17 ⟨Nat.le_of_ble_eq_true rfl, Nat.le_of_ble_eq_true rfl⟩) hS (fun r13 C11 H locs hp12 hW hS => ?_)
  obtain ⟨e14, hx15, hf16⟩ := hp12
  rw [e14]
  refine lv_iload_n hx hb dX7_isStale_20 rfl (lv_at hl 3 rfl) ?_
  rw [show zI a = zI ((a.toNat : Nat) : Int) from congrArg zI (by omega)]
  refine g_ci (g_runS X (k_X7_hasBit (nb := (fre S T (cc.toNat))) (jb := a.toNat) (fre_lt) (by omega)) (va_cwS 2 hts gX7_isStale_X7_hasBit rfl rfl rfl ds_X7_hasBit ⟨Nat.le_of_ble_eq_true rfl, Nat.le_of_ble_eq_true rfl⟩) hW hS rfl hl.1 rfl (Nat.le_of_ble_eq_true rfl) dX7_isStale_21 ⟨Nat.le_of_ble_eq_true rfl, Nat.le_of_ble_eq_true rfl⟩) hS (fun r19 C17 H locs hp18 hW hS => ?_)
  obtain ⟨rfl, ehp18⟩ := hp18
  rw [ehp18] at hW
  refine z_ifb_ne (tgt := 31) hx hb dX7_isStale_24 (by decide) (fun h_24 => ?_) (fun h_24 => ?_)
  · refine lv_iconst (v := zI (0)) hx hb dX7_isStale_31 rfl ?_
    exact kret _ _ _ _ _ _ _ _ (⟨⟨by unfold cd_isStale; rw [if_neg (fun z => z ⟨hkc, hku⟩), if_neg (by omega)], by rw [if_pos h_24]⟩, (cs.kept hcs (fun k' i' h' => hf16 (k') (i') (by omega))), hx15, (fun k' i' h => (hf16 k' i' (by omega)))⟩) hW hS (Nat.le_of_ble_eq_true rfl) (Nat.le_of_ble_eq_true rfl) dX7_isStale_32
  · refine lv_iconst (v := zI (1)) hx hb dX7_isStale_27 rfl ?_
    refine lv_goto (tgt := 32) hx hb dX7_isStale_28 (by decide) ?_
    exact kret _ _ _ _ _ _ _ _ (⟨⟨by unfold cd_isStale; rw [if_neg (fun z => z ⟨hkc, hku⟩), if_neg (by omega)], by rw [if_neg h_24]⟩, (cs.kept hcs (fun k' i' h' => hf16 (k') (i') (by omega))), hx15, (fun k' i' h => (hf16 k' i' (by omega)))⟩) hW hS (Nat.le_of_ble_eq_true rfl) (Nat.le_of_ble_eq_true rfl) dX7_isStale_32

theorem ds_X7_reasonAgainst : yX7_reasonAgainst.cls ≠ "java/lang/invoke/MethodHandle" ∧ yX7_reasonAgainst.cls ≠ "java/lang/invoke/VarHandle" ∧ (parseMethodDescriptor yX7_reasonAgainst.desc).map (fun d => d.parameters.length) = some 1 := by decide +kernel
def rX7_reasonAgainst : Room := { frames := 7, cells := 2, slots := 12, locals := 141 }
set_option maxHeartbeats 4000000 in
set_option maxRecDepth 100000 in
theorem k_X7_reasonAgainst {l : Launch} (hfl : l.stackTraces = false) {Z : gZ} {B : gB} {C0 : gC} {S : gS} {T : gTx} {cc : Int} (hcs : cs Z B C0 S T) (hcx : cx Z B C0) (hwf : wf S T) (rcc : zr cc) : vx_Met l yX7_reasonAgainst wsX7_reasonAgainst rX7_reasonAgainst (gPc Z B C0 [.ref (B 0 0), .int (zI cc)]) (gQi Z B (fun r C1 => (cd_reason S T cc = 0 ∧ r = zI (rsn S T cc.toNat : Int)) ∧ cs Z B C1 S T ∧ cx Z B C1 ∧ gfo C0 C1)) (gXC Z B (fun E C1 => (E = "java/lang/IndexOutOfBoundsException" ∧ cd_reason S T cc = 1 ∨ E = "java/util/NoSuchElementException" ∧ cd_reason S T cc = 2) ∧ cs Z B C1 S T ∧ cx Z B C1 ∧ gfo C0 C1)) 2 12 (gA Z) := by
  refine g_ofZx (cc := cX7_reasonAgainst) (maxL := 3) hfl (by decide) rfl rfl (Nat.le_of_ble_eq_true rfl) (fun r C1 h => by obtain ⟨⟨-, h⟩, -⟩ := h; rw [h]; exact rsn_nar S T _) (Nat.le_of_ble_eq_true rfl) (Nat.le_of_ble_eq_true rfl) (Nat.le_of_ble_eq_true rfl) (Nat.le_of_ble_eq_true rfl) ?_
  intro p e s m args below meth c Q X kret ko kt hW hS ls hl
  have hx := X.1.1
  have hb := X.1.2.1
  have hts := X.1.2.2.2.2
  have hl : lv_has ls 3 [(0, .ref (B 0 0)), (1, .int (zI cc))] := hl
  obtain ⟨hb0, hb1, ⟨F3, hb3, hb3a⟩, ⟨f4, hb4, hb4a, hb4b⟩, ⟨f5, hb5, hb5a, hb5b⟩, ⟨F6, hb6, hb6a⟩, hb7, hb8, hb9, hb10, hb11⟩ := id hcs
  have hwn := hwf.n
  refine lv_aload_n hx hb dX7_reasonAgainst_0 rfl (lv_at hl 0 rfl) ?_
  refine lv_aload_n hx hb dX7_reasonAgainst_1 rfl (lv_at hl 0 rfl) ?_
  refine lv_iload_n hx hb dX7_reasonAgainst_2 rfl (lv_at hl 1 rfl) ?_
  refine g_crx (g_runVx X (k_X7_changeOf hfl (a := cc) hcs hwf (rcc)) (cwV 1 hts gX7_reasonAgainst_X7_changeOf rfl rfl rfl ⟨rfl, ds_X7_changeOf⟩ ⟨Nat.le_of_ble_eq_true rfl, Nat.le_of_ble_eq_true rfl⟩) hW hS hb0 rfl rfl hl.1 rfl (Nat.le_of_ble_eq_true rfl) dX7_reasonAgainst_3 ⟨Nat.le_of_ble_eq_true rfl, Nat.le_of_ble_eq_true rfl⟩) hS (fun E9 ce9 q9 C9 H9 locs9 hp9 hW9 hS9 e1 e2 e3 => ko E9 ce9 q9 C9 H9 locs9 _ _ _ _ _ (pubx (Or.inl (⟨hp9.1, by unfold cd_reason; rw [if_pos (hp9.2.1)]⟩)) hcs hcx gfo.rfl' hp9.2.2) hW9 hS9 e1 e2 e3 (Nat.le_of_ble_eq_true rfl) (Nat.le_of_ble_eq_true rfl)) (fun r3 C1 H locs hp2 hW hS => ?_)
  obtain ⟨⟨hkc, rfl⟩, ehp2⟩ := hp2
  rw [ehp2] at hW
  have hicc : cc.toNat < S 0 0 := by omega
  obtain ⟨hc0, hc1, hc2, ⟨f45, hc3, hc3a, hc3b⟩, hc4, hc4n, hc5, F50, hc6, hc6a⟩ := id (cs.ch hcs hicc)
  have hwicc := hwf.ch hicc
  refine g_ci (g_runV X (k_X7_reasonFor (i := (cc.toNat)) hcs hcx hwf hicc) (cwV 1 hts gX7_reasonAgainst_X7_reasonFor rfl rfl rfl ⟨rfl, ds_X7_reasonFor⟩ ⟨Nat.le_of_ble_eq_true rfl, Nat.le_of_ble_eq_true rfl⟩) hW hS hb0 rfl rfl hl.1 rfl (Nat.le_of_ble_eq_true rfl) dX7_reasonAgainst_6 ⟨Nat.le_of_ble_eq_true rfl, Nat.le_of_ble_eq_true rfl⟩) hS (fun r7 C5 H locs hp6 hW hS => ?_)
  obtain ⟨e8, hx9, hf10⟩ := hp6
  rw [e8]
  have hrc := rsn_cases S T (cc.toNat)
  refine lv_istore_n (lv' := [(2, .int (zI (rsn S T (cc.toNat) : Int))), (0, .ref (B 0 0)), (1, .int (zI cc))]) hx hb dX7_reasonAgainst_9 rfl hl (by decide) rfl (fun ls hl => ?_)
  refine lv_iload_n hx hb dX7_reasonAgainst_10 rfl (lv_at hl 0 rfl) ?_
  refine lv_bipush (v := zI (32)) hx hb dX7_reasonAgainst_11 (by decide) ?_
  refine z_icmp_ne (tgt := 26) hx hb dX7_reasonAgainst_13 (by decide) (⟨by omega, by omega⟩) (⟨by omega, by omega⟩) (fun h_13 => ?_) (fun h_13 => ?_)
  · refine lv_iload_n hx hb dX7_reasonAgainst_26 rfl (lv_at hl 0 rfl) ?_
    exact kret _ _ _ _ _ _ _ _ (⟨⟨by unfold cd_reason; rw [if_neg (fun z => z hkc), if_neg (by omega)], rfl⟩, (cs.kept hcs (fun k' i' h' => hf10 (k') (i') (by omega))), hx9, (fun k' i' h => (hf10 k' i' (by omega)))⟩) hW hS (Nat.le_of_ble_eq_true rfl) (Nat.le_of_ble_eq_true rfl) dX7_reasonAgainst_27
  · exact kt "java/util/NoSuchElementException" "there is no reason against landing" 171 231 175 _ _ _ _ _ _ _ _ (pubx (Or.inr (⟨rfl, by unfold cd_reason; rw [if_neg (fun z => z hkc), if_pos (by omega)]⟩)) (cs.kept hcs (fun k' i' h' => hf10 (k') (i') (by omega))) hx9 (fun k' i' h => (hf10 k' i' (by omega))) rfl) hW hS hl ex_4 st_12 (by decide +kernel) (List.mem_of_getElem? (i := 1) rfl) (List.mem_of_getElem? (i := 2) rfl) (fun w hw => List.mem_cons_of_mem _ (List.mem_append_left _ (List.mem_append_right _ hw))) vxo_4_175 vxn_4_175 (Nat.le_of_ble_eq_true rfl) (Nat.le_of_ble_eq_true rfl) dX7_reasonAgainst_16 dX7_reasonAgainst_19 (Or.inl ⟨dX7_reasonAgainst_20, dX7_reasonAgainst_22, dX7_reasonAgainst_25⟩)
