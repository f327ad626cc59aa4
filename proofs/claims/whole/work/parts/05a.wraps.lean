theorem ds_L_giveRange : yL_giveRange.cls ≠ "java/lang/invoke/MethodHandle" ∧ yL_giveRange.cls ≠ "java/lang/invoke/VarHandle" ∧ (parseMethodDescriptor yL_giveRange.desc).map (fun d => d.parameters.length) = some 5 := by decide +kernel
def rL_giveRange : Room := { frames := 8, cells := 4, slots := 24, locals := 126 }
set_option maxHeartbeats 4000000 in
set_option maxRecDepth 100000 in
theorem k_L_giveRange {l : Launch} (hfl : l.stackTraces = false) {Z : gZ} {B : gB} {C0 : gC} {S : gS} {T : gTx} {a b u : Int} {FO : Nat → Int64} (hcs : cs Z B C0 S T) (hcx : cx Z B C0) (hwf : wf S T) (ra : zr a) (rb : zr b) (ru : zr u) (h95 : C0 95 0 = some (gL Z 1 FO)) : Met l yL_giveRange wsL_giveRange rL_giveRange (gPcN Z B C0 [.ref (B 0 0), .int (zI a), .int (zI b), .int (zI u), .ref (B 95 0)]) (gQiB Z (lpost Z B C0 S T (cd_giveRange S a b u) ((S 0 1 : Int) + 1) (nS_giveRange S a b u) T)) 4 24 (gA Z) := by
  refine g_ofIH (cc := cL_giveRange) (maxL := 6) (hh := [(0, 12, 15, 13), (0, 12, 19, 15), (0, 12, 23, 17)]) (by decide) rfl rfl (Nat.le_of_ble_eq_true rfl) ?_
  intro p e s m args below meth c Q X hNc htab kret hW hS ls hl
  have hx := X.1.1
  have hb := X.1.2.1
  have hts := X.1.2.2.2.2
  have hl : lv_has ls 6 [(0, .ref (B 0 0)), (1, .int (zI a)), (2, .int (zI b)), (3, .int (zI u)), (4, .ref (B 95 0))] := hl
  refine lv_aload hx hb dL_giveRange_0 (lv_at hl 4 rfl) ?_
  refine lv_iconst (v := zI (0)) hx hb dL_giveRange_2 rfl ?_
  refine lv_aload_n hx hb dL_giveRange_3 rfl (lv_at hl 0 rfl) ?_
  refine lv_iload_n hx hb dL_giveRange_4 rfl (lv_at hl 1 rfl) ?_
  refine lv_iload_n hx hb dL_giveRange_5 rfl (lv_at hl 2 rfl) ?_
  refine lv_iload_n hx hb dL_giveRange_6 rfl (lv_at hl 3 rfl) ?_
  refine g_cix (g_runVx X (k_X7_giveRange hfl hcs hcx hwf ra rb ru) (cwV 3 hts gL_giveRange_X7_giveRange rfl rfl rfl ⟨rfl, ds_X7_giveRange⟩ ⟨Nat.le_of_ble_eq_true rfl, Nat.le_of_ble_eq_true rfl⟩) hW hS hcs.1 rfl rfl hl.1 rfl (Nat.le_of_ble_eq_true rfl) dL_giveRange_7 ⟨Nat.le_of_ble_eq_true rfl, Nat.le_of_ble_eq_true rfl⟩) hS (fun E9 ce9 q9 C9 H9 locs9 hp9 hW9 hS9 e1 e2 e3 => ?_) (fun r C1 H locs hp hW hS => ?_)
  · obtain ⟨hE, hcs9, hcx9, hfo9⟩ := hp9
    rcases hE with ⟨rfl, hcd⟩ | ⟨rfl, hcd⟩ | ⟨rfl, hcd⟩
    · refine g_catch [] ⟨0, 12, 15, 13⟩ [⟨0, 12, 19, 15⟩, ⟨0, 12, 23, 17⟩] X hNc htab (by decide) rfl (by decide) (List.mem_of_getElem? (i := 1) rfl) (fun _ hz => nomatch hz) e1 e2 e3 ?_
      refine lv_astore (lv' := [(5, .ref q9), (0, .ref (B 0 0)), (1, .int (zI a)), (2, .int (zI b)), (3, .int (zI u)), (4, .ref (B 95 0))]) hx hb dL_giveRange_15 hl (by decide) rfl (fun ls hl => ?_)
      refine lv_iconst (v := zI (1)) hx hb dL_giveRange_17 rfl ?_
      exact kret _ B _ _ _ _ _ _ _ (lpost_x 1 hcd (by decide) hcs9 hcx9 hfo9 h95) hW9 hS9 (Nat.le_of_ble_eq_true rfl) (Nat.le_of_ble_eq_true rfl) dL_giveRange_18
    · refine g_catch [⟨0, 12, 15, 13⟩] ⟨0, 12, 19, 15⟩ [⟨0, 12, 23, 17⟩] X hNc htab (by decide) rfl (by decide) (List.mem_of_getElem? (i := 2) rfl) (fun z hz => by rcases List.mem_cons.mp hz with rfl | hz; exact ⟨by decide, "java/lang/IndexOutOfBoundsException", by decide, by decide, (List.mem_of_getElem? (i := 1) rfl)⟩; cases hz) e1 e2 e3 ?_
      refine lv_astore (lv' := [(5, .ref q9), (0, .ref (B 0 0)), (1, .int (zI a)), (2, .int (zI b)), (3, .int (zI u)), (4, .ref (B 95 0))]) hx hb dL_giveRange_19 hl (by decide) rfl (fun ls hl => ?_)
      refine lv_iconst (v := zI (2)) hx hb dL_giveRange_21 rfl ?_
      exact kret _ B _ _ _ _ _ _ _ (lpost_x 2 hcd (by decide) hcs9 hcx9 hfo9 h95) hW9 hS9 (Nat.le_of_ble_eq_true rfl) (Nat.le_of_ble_eq_true rfl) dL_giveRange_22
    · refine g_catch [⟨0, 12, 15, 13⟩, ⟨0, 12, 19, 15⟩] ⟨0, 12, 23, 17⟩ [] X hNc htab (by decide) rfl (by decide) (List.mem_of_getElem? (i := 3) rfl) (fun z hz => by rcases List.mem_cons.mp hz with rfl | hz; exact ⟨by decide, "java/lang/IndexOutOfBoundsException", by decide, by decide, (List.mem_of_getElem? (i := 1) rfl)⟩; rcases List.mem_cons.mp hz with rfl | hz; exact ⟨by decide, "java/lang/IllegalArgumentException", by decide, by decide, (List.mem_of_getElem? (i := 2) rfl)⟩; cases hz) e1 e2 e3 ?_
      refine lv_astore (lv' := [(5, .ref q9), (0, .ref (B 0 0)), (1, .int (zI a)), (2, .int (zI b)), (3, .int (zI u)), (4, .ref (B 95 0))]) hx hb dL_giveRange_23 hl (by decide) rfl (fun ls hl => ?_)
      refine lv_iconst (v := zI (3)) hx hb dL_giveRange_25 rfl ?_
      exact kret _ B _ _ _ _ _ _ _ (lpost_x 3 hcd (by decide) hcs9 hcx9 hfo9 h95) hW9 hS9 (Nat.le_of_ble_eq_true rfl) (Nat.le_of_ble_eq_true rfl) dL_giveRange_26
  obtain ⟨⟨hcd, rfl⟩, hcs1, hcx1, hfo1⟩ := hp
  have h951 : C1 95 0 = some (gL Z 1 FO) := (hfo1 95 0 (by omega)).trans h95
  refine lv_i2l hx hb dL_giveRange_10 rfl ?_
  refine g_last X hW hS h951 (zI_in (by decide) (by decide) (by decide)) dL_giveRange_11 (fun C2 H locs hs hn hW hS => ?_)
  refine lv_goto (tgt := 27) hx hb dL_giveRange_12 (by decide) ?_
  refine lv_iconst (v := zI (0)) hx hb dL_giveRange_27 rfl ?_
  exact kret _ B _ _ _ _ _ _ _ (lpost_ok hcd hcs1 hcx1 hfo1 gfB.rfl' hs (updL0) hn) hW hS (Nat.le_of_ble_eq_true rfl) (Nat.le_of_ble_eq_true rfl) dL_giveRange_28

theorem ds_L_open : yL_open.cls ≠ "java/lang/invoke/MethodHandle" ∧ yL_open.cls ≠ "java/lang/invoke/VarHandle" ∧ (parseMethodDescriptor yL_open.desc).map (fun d => d.parameters.length) = some 3 := by decide +kernel
def rL_open : Room := { frames := 8, cells := 10, slots := 104, locals := 156 }
set_option maxHeartbeats 4000000 in
set_option maxRecDepth 100000 in
theorem k_L_open {l : Launch} (hfl : l.stackTraces = false) {Z : gZ} {B : gB} {C0 : gC} {S : gS} {T : gTx} {a : Int} {FO : Nat → Int64} (hcs : cs Z B C0 S T) (hcx : cx Z B C0) (hwf : wf S T) (ra : zr a) (hz : wz S T) (h95 : C0 95 0 = some (gL Z 1 FO)) : Met l yL_open wsL_open rL_open (gPcN Z B C0 [.ref (B 0 0), .int (zI a), .ref (B 95 0)]) (gQiB Z (lpost Z B C0 S T (cd_open S a) (S 0 0 : Int) (nS_open S a) (nT_open S T))) 10 104 (gA Z) := by
  refine g_ofIH (cc := cL_open) (maxL := 4) (hh := [(0, 9, 12, 13), (0, 9, 15, 17)]) (by decide) rfl rfl (Nat.le_of_ble_eq_true rfl) ?_
  intro p e s m args below meth c Q X hNc htab kret hW hS ls hl
  have hx := X.1.1
  have hb := X.1.2.1
  have hts := X.1.2.2.2.2
  have hl : lv_has ls 4 [(0, .ref (B 0 0)), (1, .int (zI a)), (2, .ref (B 95 0))] := hl
  refine lv_aload_n hx hb dL_open_0 rfl (lv_at hl 2 rfl) ?_
  refine lv_iconst (v := zI (0)) hx hb dL_open_1 rfl ?_
  refine lv_aload_n hx hb dL_open_2 rfl (lv_at hl 0 rfl) ?_
  refine lv_iload_n hx hb dL_open_3 rfl (lv_at hl 1 rfl) ?_
  refine g_ciBx (g_runVx X (k_X7_open hfl hcs hcx hwf ra hz) (cwV 1 hts gL_open_X7_open rfl rfl rfl ⟨rfl, ds_X7_open⟩ ⟨Nat.le_of_ble_eq_true rfl, Nat.le_of_ble_eq_true rfl⟩) hW hS hcs.1 rfl rfl hl.1 rfl (Nat.le_of_ble_eq_true rfl) dL_open_4 ⟨Nat.le_of_ble_eq_true rfl, Nat.le_of_ble_eq_true rfl⟩) hS (fun E9 ce9 q9 C9 H9 locs9 hp9 hW9 hS9 e1 e2 e3 => ?_) (fun r B1 C1 H locs hp hW hS => ?_)
  · obtain ⟨hE, hcs9, hcx9, hfo9⟩ := hp9
    rcases hE with ⟨rfl, hcd⟩ | ⟨rfl, hcd⟩
    · refine g_catch [] ⟨0, 9, 12, 13⟩ [⟨0, 9, 15, 17⟩] X hNc htab (by decide) rfl (by decide) (List.mem_of_getElem? (i := 1) rfl) (fun _ hz => nomatch hz) e1 e2 e3 ?_
      refine lv_astore_n (lv' := [(3, .ref q9), (0, .ref (B 0 0)), (1, .int (zI a)), (2, .ref (B 95 0))]) hx hb dL_open_12 rfl hl (by decide) rfl (fun ls hl => ?_)
      refine lv_iconst (v := zI (1)) hx hb dL_open_13 rfl ?_
      exact kret _ B _ _ _ _ _ _ _ (lpost_x 1 hcd (by decide) hcs9 hcx9 hfo9 h95) hW9 hS9 (Nat.le_of_ble_eq_true rfl) (Nat.le_of_ble_eq_true rfl) dL_open_14
    · refine g_catch [⟨0, 9, 12, 13⟩] ⟨0, 9, 15, 17⟩ [] X hNc htab (by decide) rfl (by decide) (List.mem_of_getElem? (i := 2) rfl) (fun z hz => by rcases List.mem_cons.mp hz with rfl | hz; exact ⟨by decide, "java/lang/IndexOutOfBoundsException", by decide, by decide, (List.mem_of_getElem? (i := 1) rfl)⟩; cases hz) e1 e2 e3 ?_
      refine lv_astore_n (lv' := [(3, .ref q9), (0, .ref (B 0 0)), (1, .int (zI a)), (2, .ref (B 95 0))]) hx hb dL_open_15 rfl hl (by decide) rfl (fun ls hl => ?_)
      refine lv_iconst (v := zI (2)) hx hb dL_open_16 rfl ?_
      exact kret _ B _ _ _ _ _ _ _ (lpost_x 2 hcd (by decide) hcs9 hcx9 hfo9 h95) hW9 hS9 (Nat.le_of_ble_eq_true rfl) (Nat.le_of_ble_eq_true rfl) dL_open_17
  obtain ⟨⟨hcd, rfl⟩, hcs1, hcx1, hfo1, hB1⟩ := hp
  have h951 : C1 95 0 = some (gL Z 1 FO) := (hfo1 95 0 (by omega)).trans h95
  have h0B : B1 95 0 = B 95 0 := hB1 95 0 (by omega)
  rw [← h0B]
  refine lv_i2l hx hb dL_open_7 rfl ?_
  refine g_last X hW hS h951 (zI_in (by decide) (by decide) (by decide)) dL_open_8 (fun C2 H locs hs hn hW hS => ?_)
  refine lv_goto (tgt := 18) hx hb dL_open_9 (by decide) ?_
  refine lv_iconst (v := zI (0)) hx hb dL_open_18 rfl ?_
  exact kret _ B1 _ _ _ _ _ _ _ (lpost_ok hcd hcs1 hcx1 hfo1 hB1 hs (updL0) hn) hW hS (Nat.le_of_ble_eq_true rfl) (Nat.le_of_ble_eq_true rfl) dL_open_19

theorem ds_L_addLine : yL_addLine.cls ≠ "java/lang/invoke/MethodHandle" ∧ yL_addLine.cls ≠ "java/lang/invoke/VarHandle" ∧ (parseMethodDescriptor yL_addLine.desc).map (fun d => d.parameters.length) = some 4 := by decide +kernel
def rL_addLine : Room := { frames := 8, cells := 4, slots := 24, locals := 127 }
set_option maxHeartbeats 4000000 in
set_option maxRecDepth 100000 in
theorem k_L_addLine {l : Launch} (hfl : l.stackTraces = false) {Z : gZ} {B : gB} {C0 : gC} {S : gS} {T : gTx} {cc a : Int} {FO : Nat → Int64} (hcs : cs Z B C0 S T) (hcx : cx Z B C0) (hwf : wf S T) (rcc : zr cc) (ra : zr a) (h95 : C0 95 0 = some (gL Z 1 FO)) : Met l yL_addLine wsL_addLine rL_addLine (gPcN Z B C0 [.ref (B 0 0), .int (zI cc), .int (zI a), .ref (B 95 0)]) (gQiB Z (lpost Z B C0 S T (cd_addLine S T cc a) (((T (5 + cc.toNat)).length : Int) + 1) S (nT_addLine T cc a))) 4 24 (gA Z) := by
  refine g_ofIH (cc := cL_addLine) (maxL := 5) (hh := [(0, 10, 13, 13), (0, 10, 17, 15), (0, 10, 21, 17)]) (by decide) rfl rfl (Nat.le_of_ble_eq_true rfl) ?_
  intro p e s m args below meth c Q X hNc htab kret hW hS ls hl
  have hx := X.1.1
  have hb := X.1.2.1
  have hts := X.1.2.2.2.2
  have hl : lv_has ls 5 [(0, .ref (B 0 0)), (1, .int (zI cc)), (2, .int (zI a)), (3, .ref (B 95 0))] := hl
  refine lv_aload_n hx hb dL_addLine_0 rfl (lv_at hl 3 rfl) ?_
  refine lv_iconst (v := zI (0)) hx hb dL_addLine_1 rfl ?_
  refine lv_aload_n hx hb dL_addLine_2 rfl (lv_at hl 0 rfl) ?_
  refine lv_iload_n hx hb dL_addLine_3 rfl (lv_at hl 1 rfl) ?_
  refine lv_iload_n hx hb dL_addLine_4 rfl (lv_at hl 2 rfl) ?_
  refine g_cix (g_runVx X (k_X7_addLine hfl hcs hcx hwf rcc ra) (cwV 2 hts gL_addLine_X7_addLine rfl rfl rfl ⟨rfl, ds_X7_addLine⟩ ⟨Nat.le_of_ble_eq_true rfl, Nat.le_of_ble_eq_true rfl⟩) hW hS hcs.1 rfl rfl hl.1 rfl (Nat.le_of_ble_eq_true rfl) dL_addLine_5 ⟨Nat.le_of_ble_eq_true rfl, Nat.le_of_ble_eq_true rfl⟩) hS (fun E9 ce9 q9 C9 H9 locs9 hp9 hW9 hS9 e1 e2 e3 => ?_) (fun r C1 H locs hp hW hS => ?_)
  · obtain ⟨hE, hcs9, hcx9, hfo9⟩ := hp9
    rcases hE with ⟨rfl, hcd⟩ | ⟨rfl, hcd⟩ | ⟨rfl, hcd⟩
    · refine g_catch [] ⟨0, 10, 13, 13⟩ [⟨0, 10, 17, 15⟩, ⟨0, 10, 21, 17⟩] X hNc htab (by decide) rfl (by decide) (List.mem_of_getElem? (i := 1) rfl) (fun _ hz => nomatch hz) e1 e2 e3 ?_
      refine lv_astore (lv' := [(4, .ref q9), (0, .ref (B 0 0)), (1, .int (zI cc)), (2, .int (zI a)), (3, .ref (B 95 0))]) hx hb dL_addLine_13 hl (by decide) rfl (fun ls hl => ?_)
      refine lv_iconst (v := zI (1)) hx hb dL_addLine_15 rfl ?_
      exact kret _ B _ _ _ _ _ _ _ (lpost_x 1 hcd (by decide) hcs9 hcx9 hfo9 h95) hW9 hS9 (Nat.le_of_ble_eq_true rfl) (Nat.le_of_ble_eq_true rfl) dL_addLine_16
    · refine g_catch [⟨0, 10, 13, 13⟩] ⟨0, 10, 17, 15⟩ [⟨0, 10, 21, 17⟩] X hNc htab (by decide) rfl (by decide) (List.mem_of_getElem? (i := 2) rfl) (fun z hz => by rcases List.mem_cons.mp hz with rfl | hz; exact ⟨by decide, "java/lang/IndexOutOfBoundsException", by decide, by decide, (List.mem_of_getElem? (i := 1) rfl)⟩; cases hz) e1 e2 e3 ?_
      refine lv_astore (lv' := [(4, .ref q9), (0, .ref (B 0 0)), (1, .int (zI cc)), (2, .int (zI a)), (3, .ref (B 95 0))]) hx hb dL_addLine_17 hl (by decide) rfl (fun ls hl => ?_)
      refine lv_iconst (v := zI (2)) hx hb dL_addLine_19 rfl ?_
      exact kret _ B _ _ _ _ _ _ _ (lpost_x 2 hcd (by decide) hcs9 hcx9 hfo9 h95) hW9 hS9 (Nat.le_of_ble_eq_true rfl) (Nat.le_of_ble_eq_true rfl) dL_addLine_20
    · refine g_catch [⟨0, 10, 13, 13⟩, ⟨0, 10, 17, 15⟩] ⟨0, 10, 21, 17⟩ [] X hNc htab (by decide) rfl (by decide) (List.mem_of_getElem? (i := 3) rfl) (fun z hz => by rcases List.mem_cons.mp hz with rfl | hz; exact ⟨by decide, "java/lang/IndexOutOfBoundsException", by decide, by decide, (List.mem_of_getElem? (i := 1) rfl)⟩; rcases List.mem_cons.mp hz with rfl | hz; exact ⟨by decide, "java/lang/IllegalArgumentException", by decide, by decide, (List.mem_of_getElem? (i := 2) rfl)⟩; cases hz) e1 e2 e3 ?_
      refine lv_astore (lv' := [(4, .ref q9), (0, .ref (B 0 0)), (1, .int (zI cc)), (2, .int (zI a)), (3, .ref (B 95 0))]) hx hb dL_addLine_21 hl (by decide) rfl (fun ls hl => ?_)
      refine lv_iconst (v := zI (3)) hx hb dL_addLine_23 rfl ?_
      exact kret _ B _ _ _ _ _ _ _ (lpost_x 3 hcd (by decide) hcs9 hcx9 hfo9 h95) hW9 hS9 (Nat.le_of_ble_eq_true rfl) (Nat.le_of_ble_eq_true rfl) dL_addLine_24
  obtain ⟨⟨hcd, rfl⟩, hcs1, hcx1, hfo1⟩ := hp
  have h951 : C1 95 0 = some (gL Z 1 FO) := (hfo1 95 0 (by omega)).trans h95
  refine lv_i2l hx hb dL_addLine_8 rfl ?_
  refine g_last X hW hS h951 (zI_in (by decide) (by decide) (by decide)) dL_addLine_9 (fun C2 H locs hs hn hW hS => ?_)
  refine lv_goto (tgt := 25) hx hb dL_addLine_10 (by decide) ?_
  refine lv_iconst (v := zI (0)) hx hb dL_addLine_25 rfl ?_
  exact kret _ B _ _ _ _ _ _ _ (lpost_ok hcd hcs1 hcx1 hfo1 gfB.rfl' hs (updL0) hn) hW hS (Nat.le_of_ble_eq_true rfl) (Nat.le_of_ble_eq_true rfl) dL_addLine_26

theorem ds_L_lay : yL_lay.cls ≠ "java/lang/invoke/MethodHandle" ∧ yL_lay.cls ≠ "java/lang/invoke/VarHandle" ∧ (parseMethodDescriptor yL_lay.desc).map (fun d => d.parameters.length) = some 3 := by decide +kernel
def rL_lay : Room := { frames := 8, cells := 4, slots := 38, locals := 154 }
set_option maxHeartbeats 4000000 in
set_option maxRecDepth 100000 in
theorem k_L_lay {l : Launch} (hfl : l.stackTraces = false) {Z : gZ} {B : gB} {C0 : gC} {S : gS} {T : gTx} {cc : Int} {FO : Nat → Int64} (hcs : cs Z B C0 S T) (hcx : cx Z B C0) (hwf : wf S T) (rcc : zr cc) (h95 : C0 95 0 = some (gL Z 1 FO)) : Met l yL_lay wsL_lay rL_lay (gPcN Z B C0 [.ref (B 0 0), .int (zI cc), .ref (B 95 0)]) (gQiB Z (lpost Z B C0 S T (cd_lay S cc) (S 2 cc.toNat : Int) (nS_lay S cc.toNat) (nT_lay S T cc.toNat))) 4 38 (gA Z) := by
  refine g_ofIH (cc := cL_lay) (maxL := 4) (hh := [(0, 9, 12, 13), (0, 9, 15, 17)]) (by decide) rfl rfl (Nat.le_of_ble_eq_true rfl) ?_
  intro p e s m args below meth c Q X hNc htab kret hW hS ls hl
  have hx := X.1.1
  have hb := X.1.2.1
  have hts := X.1.2.2.2.2
  have hl : lv_has ls 4 [(0, .ref (B 0 0)), (1, .int (zI cc)), (2, .ref (B 95 0))] := hl
  refine lv_aload_n hx hb dL_lay_0 rfl (lv_at hl 2 rfl) ?_
  refine lv_iconst (v := zI (0)) hx hb dL_lay_1 rfl ?_
  refine lv_aload_n hx hb dL_lay_2 rfl (lv_at hl 0 rfl) ?_
  refine lv_iload_n hx hb dL_lay_3 rfl (lv_at hl 1 rfl) ?_
  refine g_ciBx (g_runVx X (k_X7_lay hfl hcs hcx hwf rcc) (cwV 1 hts gL_lay_X7_lay rfl rfl rfl ⟨rfl, ds_X7_lay⟩ ⟨Nat.le_of_ble_eq_true rfl, Nat.le_of_ble_eq_true rfl⟩) hW hS hcs.1 rfl rfl hl.1 rfl (Nat.le_of_ble_eq_true rfl) dL_lay_4 ⟨Nat.le_of_ble_eq_true rfl, Nat.le_of_ble_eq_true rfl⟩) hS (fun E9 ce9 q9 C9 H9 locs9 hp9 hW9 hS9 e1 e2 e3 => ?_) (fun r B1 C1 H locs hp hW hS => ?_)
  · obtain ⟨hE, hcs9, hcx9, hfo9⟩ := hp9
    rcases hE with ⟨rfl, hcd⟩ | ⟨rfl, hcd⟩
    · refine g_catch [] ⟨0, 9, 12, 13⟩ [⟨0, 9, 15, 17⟩] X hNc htab (by decide) rfl (by decide) (List.mem_of_getElem? (i := 1) rfl) (fun _ hz => nomatch hz) e1 e2 e3 ?_
      refine lv_astore_n (lv' := [(3, .ref q9), (0, .ref (B 0 0)), (1, .int (zI cc)), (2, .ref (B 95 0))]) hx hb dL_lay_12 rfl hl (by decide) rfl (fun ls hl => ?_)
      refine lv_iconst (v := zI (1)) hx hb dL_lay_13 rfl ?_
      exact kret _ B _ _ _ _ _ _ _ (lpost_x 1 hcd (by decide) hcs9 hcx9 hfo9 h95) hW9 hS9 (Nat.le_of_ble_eq_true rfl) (Nat.le_of_ble_eq_true rfl) dL_lay_14
    · refine g_catch [⟨0, 9, 12, 13⟩] ⟨0, 9, 15, 17⟩ [] X hNc htab (by decide) rfl (by decide) (List.mem_of_getElem? (i := 2) rfl) (fun z hz => by rcases List.mem_cons.mp hz with rfl | hz; exact ⟨by decide, "java/lang/IndexOutOfBoundsException", by decide, by decide, (List.mem_of_getElem? (i := 1) rfl)⟩; cases hz) e1 e2 e3 ?_
      refine lv_astore_n (lv' := [(3, .ref q9), (0, .ref (B 0 0)), (1, .int (zI cc)), (2, .ref (B 95 0))]) hx hb dL_lay_15 rfl hl (by decide) rfl (fun ls hl => ?_)
      refine lv_iconst (v := zI (2)) hx hb dL_lay_16 rfl ?_
      exact kret _ B _ _ _ _ _ _ _ (lpost_x 2 hcd (by decide) hcs9 hcx9 hfo9 h95) hW9 hS9 (Nat.le_of_ble_eq_true rfl) (Nat.le_of_ble_eq_true rfl) dL_lay_17
  obtain ⟨⟨hcd, rfl⟩, hcs1, hcx1, hfo1, hB1⟩ := hp
  have h951 : C1 95 0 = some (gL Z 1 FO) := (hfo1 95 0 (by omega)).trans h95
  have h0B : B1 95 0 = B 95 0 := hB1 95 0 (by omega)
  rw [← h0B]
  refine lv_i2l hx hb dL_lay_7 rfl ?_
  refine g_last X hW hS h951 (zI_in (by decide) (by decide) (by decide)) dL_lay_8 (fun C2 H locs hs hn hW hS => ?_)
  refine lv_goto (tgt := 18) hx hb dL_lay_9 (by decide) ?_
  refine lv_iconst (v := zI (0)) hx hb dL_lay_18 rfl ?_
  exact kret _ B1 _ _ _ _ _ _ _ (lpost_ok hcd hcs1 hcx1 hfo1 hB1 hs (updL0) hn) hW hS (Nat.le_of_ble_eq_true rfl) (Nat.le_of_ble_eq_true rfl) dL_lay_19

theorem ds_L_landAfter : yL_landAfter.cls ≠ "java/lang/invoke/MethodHandle" ∧ yL_landAfter.cls ≠ "java/lang/invoke/VarHandle" ∧ (parseMethodDescriptor yL_landAfter.desc).map (fun d => d.parameters.length) = some 4 := by decide +kernel
def rL_landAfter : Room := { frames := 8, cells := 4, slots := 24, locals := 128 }
set_option maxHeartbeats 4000000 in
set_option maxRecDepth 100000 in
theorem k_L_landAfter {l : Launch} (hfl : l.stackTraces = false) {Z : gZ} {B : gB} {C0 : gC} {S : gS} {T : gTx} {cc dd : Int} {FO : Nat → Int64} (hcs : cs Z B C0 S T) (hcx : cx Z B C0) (hwf : wf S T) (rcc : zr cc) (rdd : zr dd) (h95 : C0 95 0 = some (gL Z 1 FO)) : Met l yL_landAfter wsL_landAfter rL_landAfter (gPcN Z B C0 [.ref (B 0 0), .int (zI cc), .int (zI dd), .ref (B 95 0)]) (gQiB Z (lpost Z B C0 S T (cd_landAfter S cc dd) (bcnt (bset (S 3 cc.toNat) dd.toNat) : Int) (nS_landAfter S cc dd) T)) 4 24 (gA Z) := by
  refine g_ofIH (cc := cL_landAfter) (maxL := 5) (hh := [(0, 10, 13, 13), (0, 10, 17, 17), (0, 10, 21, 33)]) (by decide) rfl rfl (Nat.le_of_ble_eq_true rfl) ?_
  intro p e s m args below meth c Q X hNc htab kret hW hS ls hl
  have hx := X.1.1
  have hb := X.1.2.1
  have hts := X.1.2.2.2.2
  have hl : lv_has ls 5 [(0, .ref (B 0 0)), (1, .int (zI cc)), (2, .int (zI dd)), (3, .ref (B 95 0))] := hl
  refine lv_aload_n hx hb dL_landAfter_0 rfl (lv_at hl 3 rfl) ?_
  refine lv_iconst (v := zI (0)) hx hb dL_landAfter_1 rfl ?_
  refine lv_aload_n hx hb dL_landAfter_2 rfl (lv_at hl 0 rfl) ?_
  refine lv_iload_n hx hb dL_landAfter_3 rfl (lv_at hl 1 rfl) ?_
  refine lv_iload_n hx hb dL_landAfter_4 rfl (lv_at hl 2 rfl) ?_
  refine g_cix (g_runVx X (k_X7_landAfter hfl hcs hcx hwf rcc rdd) (cwV 2 hts gL_landAfter_X7_landAfter rfl rfl rfl ⟨rfl, ds_X7_landAfter⟩ ⟨Nat.le_of_ble_eq_true rfl, Nat.le_of_ble_eq_true rfl⟩) hW hS hcs.1 rfl rfl hl.1 rfl (Nat.le_of_ble_eq_true rfl) dL_landAfter_5 ⟨Nat.le_of_ble_eq_true rfl, Nat.le_of_ble_eq_true rfl⟩) hS (fun E9 ce9 q9 C9 H9 locs9 hp9 hW9 hS9 e1 e2 e3 => ?_) (fun r C1 H locs hp hW hS => ?_)
  · obtain ⟨hE, hcs9, hcx9, hfo9⟩ := hp9
    rcases hE with ⟨rfl, hcd⟩ | ⟨rfl, hcd⟩ | ⟨rfl, hcd⟩
    · refine g_catch [] ⟨0, 10, 13, 13⟩ [⟨0, 10, 17, 17⟩, ⟨0, 10, 21, 33⟩] X hNc htab (by decide) rfl (by decide) (List.mem_of_getElem? (i := 1) rfl) (fun _ hz => nomatch hz) e1 e2 e3 ?_
      refine lv_astore (lv' := [(4, .ref q9), (0, .ref (B 0 0)), (1, .int (zI cc)), (2, .int (zI dd)), (3, .ref (B 95 0))]) hx hb dL_landAfter_13 hl (by decide) rfl (fun ls hl => ?_)
      refine lv_iconst (v := zI (1)) hx hb dL_landAfter_15 rfl ?_
      exact kret _ B _ _ _ _ _ _ _ (lpost_x 1 hcd (by decide) hcs9 hcx9 hfo9 h95) hW9 hS9 (Nat.le_of_ble_eq_true rfl) (Nat.le_of_ble_eq_true rfl) dL_landAfter_16
    · refine g_catch [⟨0, 10, 13, 13⟩] ⟨0, 10, 17, 17⟩ [⟨0, 10, 21, 33⟩] X hNc htab (by decide) rfl (by decide) (List.mem_of_getElem? (i := 2) rfl) (fun z hz => by rcases List.mem_cons.mp hz with rfl | hz; exact ⟨by decide, "java/lang/IndexOutOfBoundsException", by decide, by decide, (List.mem_of_getElem? (i := 1) rfl)⟩; cases hz) e1 e2 e3 ?_
      refine lv_astore (lv' := [(4, .ref q9), (0, .ref (B 0 0)), (1, .int (zI cc)), (2, .int (zI dd)), (3, .ref (B 95 0))]) hx hb dL_landAfter_17 hl (by decide) rfl (fun ls hl => ?_)
      refine lv_iconst (v := zI (2)) hx hb dL_landAfter_19 rfl ?_
      exact kret _ B _ _ _ _ _ _ _ (lpost_x 2 hcd (by decide) hcs9 hcx9 hfo9 h95) hW9 hS9 (Nat.le_of_ble_eq_true rfl) (Nat.le_of_ble_eq_true rfl) dL_landAfter_20
    · refine g_catch [⟨0, 10, 13, 13⟩, ⟨0, 10, 17, 17⟩] ⟨0, 10, 21, 33⟩ [] X hNc htab (by decide) rfl (by decide) (List.mem_of_getElem? (i := 3) rfl) (fun z hz => by rcases List.mem_cons.mp hz with rfl | hz; exact ⟨by decide, "java/lang/IndexOutOfBoundsException", by decide, by decide, (List.mem_of_getElem? (i := 1) rfl)⟩; rcases List.mem_cons.mp hz with rfl | hz; exact ⟨by decide, "java/lang/IllegalStateException", by decide, by decide, (List.mem_of_getElem? (i := 2) rfl)⟩; cases hz) e1 e2 e3 ?_
      refine lv_astore (lv' := [(4, .ref q9), (0, .ref (B 0 0)), (1, .int (zI cc)), (2, .int (zI dd)), (3, .ref (B 95 0))]) hx hb dL_landAfter_21 hl (by decide) rfl (fun ls hl => ?_)
      refine lv_iconst (v := zI (3)) hx hb dL_landAfter_23 rfl ?_
      exact kret _ B _ _ _ _ _ _ _ (lpost_x 3 hcd (by decide) hcs9 hcx9 hfo9 h95) hW9 hS9 (Nat.le_of_ble_eq_true rfl) (Nat.le_of_ble_eq_true rfl) dL_landAfter_24
  obtain ⟨⟨hcd, rfl⟩, hcs1, hcx1, hfo1⟩ := hp
  have h951 : C1 95 0 = some (gL Z 1 FO) := (hfo1 95 0 (by omega)).trans h95
  refine lv_i2l hx hb dL_landAfter_8 rfl ?_
  refine g_last X hW hS h951 (zI_in (by decide) (by decide) (by decide)) dL_landAfter_9 (fun C2 H locs hs hn hW hS => ?_)
  refine lv_goto (tgt := 25) hx hb dL_landAfter_10 (by decide) ?_
  refine lv_iconst (v := zI (0)) hx hb dL_landAfter_25 rfl ?_
  exact kret _ B _ _ _ _ _ _ _ (lpost_ok hcd hcs1 hcx1 hfo1 gfB.rfl' hs (updL0) hn) hW hS (Nat.le_of_ble_eq_true rfl) (Nat.le_of_ble_eq_true rfl) dL_landAfter_26

theorem ds_L_setPriority : yL_setPriority.cls ≠ "java/lang/invoke/MethodHandle" ∧ yL_setPriority.cls ≠ "java/lang/invoke/VarHandle" ∧ (parseMethodDescriptor yL_setPriority.desc).map (fun d => d.parameters.length) = some 4 := by decide +kernel
def rL_setPriority : Room := { frames := 8, cells := 2, slots := 12, locals := 128 }
set_option maxHeartbeats 4000000 in
set_option maxRecDepth 100000 in
theorem k_L_setPriority {l : Launch} (hfl : l.stackTraces = false) {Z : gZ} {B : gB} {C0 : gC} {S : gS} {T : gTx} {cc a : Int} {FO : Nat → Int64} (hcs : cs Z B C0 S T) (hcx : cx Z B C0) (hwf : wf S T) (rcc : zr cc) (ra : zr a) (h95 : C0 95 0 = some (gL Z 1 FO)) : Met l yL_setPriority wsL_setPriority rL_setPriority (gPcN Z B C0 [.ref (B 0 0), .int (zI cc), .int (zI a), .ref (B 95 0)]) (gQiB Z (lpost Z B C0 S T (cd_setPriority S cc a) (S 4 cc.toNat : Int) (nS_setPriority S cc a) T)) 2 12 (gA Z) := by
  refine g_ofIH (cc := cL_setPriority) (maxL := 5) (hh := [(0, 10, 13, 13), (0, 10, 17, 15)]) (by decide) rfl rfl (Nat.le_of_ble_eq_true rfl) ?_
  intro p e s m args below meth c Q X hNc htab kret hW hS ls hl
  have hx := X.1.1
  have hb := X.1.2.1
  have hts := X.1.2.2.2.2
  have hl : lv_has ls 5 [(0, .ref (B 0 0)), (1, .int (zI cc)), (2, .int (zI a)), (3, .ref (B 95 0))] := hl
  refine lv_aload_n hx hb dL_setPriority_0 rfl (lv_at hl 3 rfl) ?_
  refine lv_iconst (v := zI (0)) hx hb dL_setPriority_1 rfl ?_
  refine lv_aload_n hx hb dL_setPriority_2 rfl (lv_at hl 0 rfl) ?_
  refine lv_iload_n hx hb dL_setPriority_3 rfl (lv_at hl 1 rfl) ?_
  refine lv_iload_n hx hb dL_setPriority_4 rfl (lv_at hl 2 rfl) ?_
  refine g_cix (g_runVx X (k_X7_setPriority hfl hcs hcx hwf rcc ra) (cwV 2 hts gL_setPriority_X7_setPriority rfl rfl rfl ⟨rfl, ds_X7_setPriority⟩ ⟨Nat.le_of_ble_eq_true rfl, Nat.le_of_ble_eq_true rfl⟩) hW hS hcs.1 rfl rfl hl.1 rfl (Nat.le_of_ble_eq_true rfl) dL_setPriority_5 ⟨Nat.le_of_ble_eq_true rfl, Nat.le_of_ble_eq_true rfl⟩) hS (fun E9 ce9 q9 C9 H9 locs9 hp9 hW9 hS9 e1 e2 e3 => ?_) (fun r C1 H locs hp hW hS => ?_)
  · obtain ⟨hE, hcs9, hcx9, hfo9⟩ := hp9
    rcases hE with ⟨rfl, hcd⟩ | ⟨rfl, hcd⟩
    · refine g_catch [] ⟨0, 10, 13, 13⟩ [⟨0, 10, 17, 15⟩] X hNc htab (by decide) rfl (by decide) (List.mem_of_getElem? (i := 1) rfl) (fun _ hz => nomatch hz) e1 e2 e3 ?_
      refine lv_astore (lv' := [(4, .ref q9), (0, .ref (B 0 0)), (1, .int (zI cc)), (2, .int (zI a)), (3, .ref (B 95 0))]) hx hb dL_setPriority_13 hl (by decide) rfl (fun ls hl => ?_)
      refine lv_iconst (v := zI (1)) hx hb dL_setPriority_15 rfl ?_
      exact kret _ B _ _ _ _ _ _ _ (lpost_x 1 hcd (by decide) hcs9 hcx9 hfo9 h95) hW9 hS9 (Nat.le_of_ble_eq_true rfl) (Nat.le_of_ble_eq_true rfl) dL_setPriority_16
    · refine g_catch [⟨0, 10, 13, 13⟩] ⟨0, 10, 17, 15⟩ [] X hNc htab (by decide) rfl (by decide) (List.mem_of_getElem? (i := 2) rfl) (fun z hz => by rcases List.mem_cons.mp hz with rfl | hz; exact ⟨by decide, "java/lang/IndexOutOfBoundsException", by decide, by decide, (List.mem_of_getElem? (i := 1) rfl)⟩; cases hz) e1 e2 e3 ?_
      refine lv_astore (lv' := [(4, .ref q9), (0, .ref (B 0 0)), (1, .int (zI cc)), (2, .int (zI a)), (3, .ref (B 95 0))]) hx hb dL_setPriority_17 hl (by decide) rfl (fun ls hl => ?_)
      refine lv_iconst (v := zI (2)) hx hb dL_setPriority_19 rfl ?_
      exact kret _ B _ _ _ _ _ _ _ (lpost_x 2 hcd (by decide) hcs9 hcx9 hfo9 h95) hW9 hS9 (Nat.le_of_ble_eq_true rfl) (Nat.le_of_ble_eq_true rfl) dL_setPriority_20
  obtain ⟨⟨hcd, rfl⟩, hcs1, hcx1, hfo1⟩ := hp
  have h951 : C1 95 0 = some (gL Z 1 FO) := (hfo1 95 0 (by omega)).trans h95
  refine lv_i2l hx hb dL_setPriority_8 rfl ?_
  refine g_last X hW hS h951 (zI_in (by decide) (by decide) (by decide)) dL_setPriority_9 (fun C2 H locs hs hn hW hS => ?_)
  refine lv_goto (tgt := 21) hx hb dL_setPriority_10 (by decide) ?_
  refine lv_iconst (v := zI (0)) hx hb dL_setPriority_21 rfl ?_
  exact kret _ B _ _ _ _ _ _ _ (lpost_ok hcd hcs1 hcx1 hfo1 gfB.rfl' hs (updL0) hn) hW hS (Nat.le_of_ble_eq_true rfl) (Nat.le_of_ble_eq_true rfl) dL_setPriority_22

theorem ds_L_comment : yL_comment.cls ≠ "java/lang/invoke/MethodHandle" ∧ yL_comment.cls ≠ "java/lang/invoke/VarHandle" ∧ (parseMethodDescriptor yL_comment.desc).map (fun d => d.parameters.length) = some 4 := by decide +kernel
def rL_comment : Room := { frames := 8, cells := 3, slots := 18, locals := 128 }
set_option maxHeartbeats 4000000 in
set_option maxRecDepth 100000 in
theorem k_L_comment {l : Launch} (hfl : l.stackTraces = false) {Z : gZ} {B : gB} {C0 : gC} {S : gS} {T : gTx} {cc a : Int} {FO : Nat → Int64} (hcs : cs Z B C0 S T) (hcx : cx Z B C0) (hwf : wf S T) (rcc : zr cc) (ra : zr a) (hz : wz S T) (h95 : C0 95 0 = some (gL Z 1 FO)) : Met l yL_comment wsL_comment rL_comment (gPcN Z B C0 [.ref (B 0 0), .int (zI cc), .int (zI a), .ref (B 95 0)]) (gQiB Z (lpost Z B C0 S T (cd_comment S T cc a) (S 0 2 : Int) (nS_comment S cc a) T)) 3 18 (gA Z) := by
  refine g_ofIH (cc := cL_comment) (maxL := 5) (hh := [(0, 10, 13, 13), (0, 10, 17, 41), (0, 10, 21, 17)]) (by decide) rfl rfl (Nat.le_of_ble_eq_true rfl) ?_
  intro p e s m args below meth c Q X hNc htab kret hW hS ls hl
  have hx := X.1.1
  have hb := X.1.2.1
  have hts := X.1.2.2.2.2
  have hl : lv_has ls 5 [(0, .ref (B 0 0)), (1, .int (zI cc)), (2, .int (zI a)), (3, .ref (B 95 0))] := hl
  refine lv_aload_n hx hb dL_comment_0 rfl (lv_at hl 3 rfl) ?_
  refine lv_iconst (v := zI (0)) hx hb dL_comment_1 rfl ?_
  refine lv_aload_n hx hb dL_comment_2 rfl (lv_at hl 0 rfl) ?_
  refine lv_iload_n hx hb dL_comment_3 rfl (lv_at hl 1 rfl) ?_
  refine lv_iload_n hx hb dL_comment_4 rfl (lv_at hl 2 rfl) ?_
  refine g_ciBx (g_runVx X (k_X7_comment hfl hcs hcx hwf rcc ra hz) (cwV 2 hts gL_comment_X7_comment rfl rfl rfl ⟨rfl, ds_X7_comment⟩ ⟨Nat.le_of_ble_eq_true rfl, Nat.le_of_ble_eq_true rfl⟩) hW hS hcs.1 rfl rfl hl.1 rfl (Nat.le_of_ble_eq_true rfl) dL_comment_5 ⟨Nat.le_of_ble_eq_true rfl, Nat.le_of_ble_eq_true rfl⟩) hS (fun E9 ce9 q9 C9 H9 locs9 hp9 hW9 hS9 e1 e2 e3 => ?_) (fun r B1 C1 H locs hp hW hS => ?_)
  · obtain ⟨hE, hcs9, hcx9, hfo9⟩ := hp9
    rcases hE with ⟨rfl, hcd⟩ | ⟨rfl, hcd⟩ | ⟨rfl, hcd⟩
    · refine g_catch [] ⟨0, 10, 13, 13⟩ [⟨0, 10, 17, 41⟩, ⟨0, 10, 21, 17⟩] X hNc htab (by decide) rfl (by decide) (List.mem_of_getElem? (i := 1) rfl) (fun _ hz => nomatch hz) e1 e2 e3 ?_
      refine lv_astore (lv' := [(4, .ref q9), (0, .ref (B 0 0)), (1, .int (zI cc)), (2, .int (zI a)), (3, .ref (B 95 0))]) hx hb dL_comment_13 hl (by decide) rfl (fun ls hl => ?_)
      refine lv_iconst (v := zI (1)) hx hb dL_comment_15 rfl ?_
      exact kret _ B _ _ _ _ _ _ _ (lpost_x 1 hcd (by decide) hcs9 hcx9 hfo9 h95) hW9 hS9 (Nat.le_of_ble_eq_true rfl) (Nat.le_of_ble_eq_true rfl) dL_comment_16
    · refine g_catch [⟨0, 10, 13, 13⟩] ⟨0, 10, 17, 41⟩ [⟨0, 10, 21, 17⟩] X hNc htab (by decide) rfl (by decide) (List.mem_of_getElem? (i := 2) rfl) (fun z hz => by rcases List.mem_cons.mp hz with rfl | hz; exact ⟨by decide, "java/lang/IndexOutOfBoundsException", by decide, by decide, (List.mem_of_getElem? (i := 1) rfl)⟩; cases hz) e1 e2 e3 ?_
      refine lv_astore (lv' := [(4, .ref q9), (0, .ref (B 0 0)), (1, .int (zI cc)), (2, .int (zI a)), (3, .ref (B 95 0))]) hx hb dL_comment_17 hl (by decide) rfl (fun ls hl => ?_)
      refine lv_iconst (v := zI (2)) hx hb dL_comment_19 rfl ?_
      exact kret _ B _ _ _ _ _ _ _ (lpost_x 2 hcd (by decide) hcs9 hcx9 hfo9 h95) hW9 hS9 (Nat.le_of_ble_eq_true rfl) (Nat.le_of_ble_eq_true rfl) dL_comment_20
    · refine g_catch [⟨0, 10, 13, 13⟩, ⟨0, 10, 17, 41⟩] ⟨0, 10, 21, 17⟩ [] X hNc htab (by decide) rfl (by decide) (List.mem_of_getElem? (i := 3) rfl) (fun z hz => by rcases List.mem_cons.mp hz with rfl | hz; exact ⟨by decide, "java/lang/IndexOutOfBoundsException", by decide, by decide, (List.mem_of_getElem? (i := 1) rfl)⟩; rcases List.mem_cons.mp hz with rfl | hz; exact ⟨by decide, "java/util/NoSuchElementException", by decide, by decide, (List.mem_of_getElem? (i := 2) rfl)⟩; cases hz) e1 e2 e3 ?_
      refine lv_astore (lv' := [(4, .ref q9), (0, .ref (B 0 0)), (1, .int (zI cc)), (2, .int (zI a)), (3, .ref (B 95 0))]) hx hb dL_comment_21 hl (by decide) rfl (fun ls hl => ?_)
      refine lv_iconst (v := zI (3)) hx hb dL_comment_23 rfl ?_
      exact kret _ B _ _ _ _ _ _ _ (lpost_x 3 hcd (by decide) hcs9 hcx9 hfo9 h95) hW9 hS9 (Nat.le_of_ble_eq_true rfl) (Nat.le_of_ble_eq_true rfl) dL_comment_24
  obtain ⟨⟨hcd, rfl⟩, hcs1, hcx1, hfo1, hB1⟩ := hp
  have h951 : C1 95 0 = some (gL Z 1 FO) := (hfo1 95 0 (by omega)).trans h95
  have h0B : B1 95 0 = B 95 0 := hB1 95 0 (by omega)
  rw [← h0B]
  refine lv_i2l hx hb dL_comment_8 rfl ?_
  refine g_last X hW hS h951 (zI_in (by decide) (by decide) (by decide)) dL_comment_9 (fun C2 H locs hs hn hW hS => ?_)
  refine lv_goto (tgt := 25) hx hb dL_comment_10 (by decide) ?_
  refine lv_iconst (v := zI (0)) hx hb dL_comment_25 rfl ?_
  exact kret _ B1 _ _ _ _ _ _ _ (lpost_ok hcd hcs1 hcx1 hfo1 hB1 hs (updL0) hn) hW hS (Nat.le_of_ble_eq_true rfl) (Nat.le_of_ble_eq_true rfl) dL_comment_26

theorem ds_L_resolve : yL_resolve.cls ≠ "java/lang/invoke/MethodHandle" ∧ yL_resolve.cls ≠ "java/lang/invoke/VarHandle" ∧ (parseMethodDescriptor yL_resolve.desc).map (fun d => d.parameters.length) = some 3 := by decide +kernel
def rL_resolve : Room := { frames := 8, cells := 2, slots := 12, locals := 126 }
set_option maxHeartbeats 4000000 in
set_option maxRecDepth 100000 in
theorem k_L_resolve {l : Launch} (hfl : l.stackTraces = false) {Z : gZ} {B : gB} {C0 : gC} {S : gS} {T : gTx} {qq : Int} {FO : Nat → Int64} (hcs : cs Z B C0 S T) (hcx : cx Z B C0) (hwf : wf S T) (rqq : zr qq) (h95 : C0 95 0 = some (gL Z 1 FO)) : Met l yL_resolve wsL_resolve rL_resolve (gPcN Z B C0 [.ref (B 0 0), .int (zI qq), .ref (B 95 0)]) (gQiB Z (lpost Z B C0 S T (cd_resolve S qq) (opn (nS_resolve S qq) (S 11 qq.toNat) : Int) (nS_resolve S qq) T)) 2 12 (gA Z) := by
  refine g_ofIH (cc := cL_resolve) (maxL := 4) (hh := [(0, 9, 12, 13), (0, 9, 15, 17)]) (by decide) rfl rfl (Nat.le_of_ble_eq_true rfl) ?_
  intro p e s m args below meth c Q X hNc htab kret hW hS ls hl
  have hx := X.1.1
  have hb := X.1.2.1
  have hts := X.1.2.2.2.2
  have hl : lv_has ls 4 [(0, .ref (B 0 0)), (1, .int (zI qq)), (2, .ref (B 95 0))] := hl
  refine lv_aload_n hx hb dL_resolve_0 rfl (lv_at hl 2 rfl) ?_
  refine lv_iconst (v := zI (0)) hx hb dL_resolve_1 rfl ?_
  refine lv_aload_n hx hb dL_resolve_2 rfl (lv_at hl 0 rfl) ?_
  refine lv_iload_n hx hb dL_resolve_3 rfl (lv_at hl 1 rfl) ?_
  refine g_cix (g_runVx X (k_X7_resolve hfl hcs hcx hwf rqq) (cwV 1 hts gL_resolve_X7_resolve rfl rfl rfl ⟨rfl, ds_X7_resolve⟩ ⟨Nat.le_of_ble_eq_true rfl, Nat.le_of_ble_eq_true rfl⟩) hW hS hcs.1 rfl rfl hl.1 rfl (Nat.le_of_ble_eq_true rfl) dL_resolve_4 ⟨Nat.le_of_ble_eq_true rfl, Nat.le_of_ble_eq_true rfl⟩) hS (fun E9 ce9 q9 C9 H9 locs9 hp9 hW9 hS9 e1 e2 e3 => ?_) (fun r C1 H locs hp hW hS => ?_)
  · obtain ⟨hE, hcs9, hcx9, hfo9⟩ := hp9
    rcases hE with ⟨rfl, hcd⟩ | ⟨rfl, hcd⟩
    · refine g_catch [] ⟨0, 9, 12, 13⟩ [⟨0, 9, 15, 17⟩] X hNc htab (by decide) rfl (by decide) (List.mem_of_getElem? (i := 1) rfl) (fun _ hz => nomatch hz) e1 e2 e3 ?_
      refine lv_astore_n (lv' := [(3, .ref q9), (0, .ref (B 0 0)), (1, .int (zI qq)), (2, .ref (B 95 0))]) hx hb dL_resolve_12 rfl hl (by decide) rfl (fun ls hl => ?_)
      refine lv_iconst (v := zI (1)) hx hb dL_resolve_13 rfl ?_
      exact kret _ B _ _ _ _ _ _ _ (lpost_x 1 hcd (by decide) hcs9 hcx9 hfo9 h95) hW9 hS9 (Nat.le_of_ble_eq_true rfl) (Nat.le_of_ble_eq_true rfl) dL_resolve_14
    · refine g_catch [⟨0, 9, 12, 13⟩] ⟨0, 9, 15, 17⟩ [] X hNc htab (by decide) rfl (by decide) (List.mem_of_getElem? (i := 2) rfl) (fun z hz => by rcases List.mem_cons.mp hz with rfl | hz; exact ⟨by decide, "java/lang/IndexOutOfBoundsException", by decide, by decide, (List.mem_of_getElem? (i := 1) rfl)⟩; cases hz) e1 e2 e3 ?_
      refine lv_astore_n (lv' := [(3, .ref q9), (0, .ref (B 0 0)), (1, .int (zI qq)), (2, .ref (B 95 0))]) hx hb dL_resolve_15 rfl hl (by decide) rfl (fun ls hl => ?_)
      refine lv_iconst (v := zI (2)) hx hb dL_resolve_16 rfl ?_
      exact kret _ B _ _ _ _ _ _ _ (lpost_x 2 hcd (by decide) hcs9 hcx9 hfo9 h95) hW9 hS9 (Nat.le_of_ble_eq_true rfl) (Nat.le_of_ble_eq_true rfl) dL_resolve_17
  obtain ⟨⟨hcd, rfl⟩, hcs1, hcx1, hfo1⟩ := hp
  have h951 : C1 95 0 = some (gL Z 1 FO) := (hfo1 95 0 (by omega)).trans h95
  refine lv_i2l hx hb dL_resolve_7 rfl ?_
  refine g_last X hW hS h951 (zI_in (by decide) (by decide) (by decide)) dL_resolve_8 (fun C2 H locs hs hn hW hS => ?_)
  refine lv_goto (tgt := 18) hx hb dL_resolve_9 (by decide) ?_
  refine lv_iconst (v := zI (0)) hx hb dL_resolve_18 rfl ?_
  exact kret _ B _ _ _ _ _ _ _ (lpost_ok hcd hcs1 hcx1 hfo1 gfB.rfl' hs (updL0) hn) hW hS (Nat.le_of_ble_eq_true rfl) (Nat.le_of_ble_eq_true rfl) dL_resolve_19

theorem ds_L_approve : yL_approve.cls ≠ "java/lang/invoke/MethodHandle" ∧ yL_approve.cls ≠ "java/lang/invoke/VarHandle" ∧ (parseMethodDescriptor yL_approve.desc).map (fun d => d.parameters.length) = some 4 := by decide +kernel
def rL_approve : Room := { frames := 8, cells := 5, slots := 30, locals := 143 }
set_option maxHeartbeats 4000000 in
set_option maxRecDepth 100000 in
theorem k_L_approve {l : Launch} (hfl : l.stackTraces = false) {Z : gZ} {B : gB} {C0 : gC} {S : gS} {T : gTx} {cc a : Int} {FO : Nat → Int64} (hcs : cs Z B C0 S T) (hcx : cx Z B C0) (hwf : wf S T) (rcc : zr cc) (ra : zr a) (h95 : C0 95 0 = some (gL Z 1 FO)) : Met l yL_approve wsL_approve rL_approve (gPcN Z B C0 [.ref (B 0 0), .int (zI cc), .int (zI a), .ref (B 95 0)]) (gQiB Z (lpost Z B C0 S T (cd_approve S cc a) (bcnt (fre (nS_approve S cc a) T cc.toNat) : Int) (nS_approve S cc a) T)) 5 30 (gA Z) := by
  refine g_ofIH (cc := cL_approve) (maxL := 5) (hh := [(0, 10, 13, 13), (0, 10, 17, 41), (0, 10, 21, 17)]) (by decide) rfl rfl (Nat.le_of_ble_eq_true rfl) ?_
  intro p e s m args below meth c Q X hNc htab kret hW hS ls hl
  have hx := X.1.1
  have hb := X.1.2.1
  have hts := X.1.2.2.2.2
  have hl : lv_has ls 5 [(0, .ref (B 0 0)), (1, .int (zI cc)), (2, .int (zI a)), (3, .ref (B 95 0))] := hl
  refine lv_aload_n hx hb dL_approve_0 rfl (lv_at hl 3 rfl) ?_
  refine lv_iconst (v := zI (0)) hx hb dL_approve_1 rfl ?_
  refine lv_aload_n hx hb dL_approve_2 rfl (lv_at hl 0 rfl) ?_
  refine lv_iload_n hx hb dL_approve_3 rfl (lv_at hl 1 rfl) ?_
  refine lv_iload_n hx hb dL_approve_4 rfl (lv_at hl 2 rfl) ?_
  refine g_cix (g_runVx X (k_X7_approve hfl hcs hcx hwf rcc ra) (cwV 2 hts gL_approve_X7_approve rfl rfl rfl ⟨rfl, ds_X7_approve⟩ ⟨Nat.le_of_ble_eq_true rfl, Nat.le_of_ble_eq_true rfl⟩) hW hS hcs.1 rfl rfl hl.1 rfl (Nat.le_of_ble_eq_true rfl) dL_approve_5 ⟨Nat.le_of_ble_eq_true rfl, Nat.le_of_ble_eq_true rfl⟩) hS (fun E9 ce9 q9 C9 H9 locs9 hp9 hW9 hS9 e1 e2 e3 => ?_) (fun r C1 H locs hp hW hS => ?_)
  · obtain ⟨hE, hcs9, hcx9, hfo9⟩ := hp9
    rcases hE with ⟨rfl, hcd⟩ | ⟨rfl, hcd⟩ | ⟨rfl, hcd⟩
    · refine g_catch [] ⟨0, 10, 13, 13⟩ [⟨0, 10, 17, 41⟩, ⟨0, 10, 21, 17⟩] X hNc htab (by decide) rfl (by decide) (List.mem_of_getElem? (i := 1) rfl) (fun _ hz => nomatch hz) e1 e2 e3 ?_
      refine lv_astore (lv' := [(4, .ref q9), (0, .ref (B 0 0)), (1, .int (zI cc)), (2, .int (zI a)), (3, .ref (B 95 0))]) hx hb dL_approve_13 hl (by decide) rfl (fun ls hl => ?_)
      refine lv_iconst (v := zI (1)) hx hb dL_approve_15 rfl ?_
      exact kret _ B _ _ _ _ _ _ _ (lpost_x 1 hcd (by decide) hcs9 hcx9 hfo9 h95) hW9 hS9 (Nat.le_of_ble_eq_true rfl) (Nat.le_of_ble_eq_true rfl) dL_approve_16
    · refine g_catch [⟨0, 10, 13, 13⟩] ⟨0, 10, 17, 41⟩ [⟨0, 10, 21, 17⟩] X hNc htab (by decide) rfl (by decide) (List.mem_of_getElem? (i := 2) rfl) (fun z hz => by rcases List.mem_cons.mp hz with rfl | hz; exact ⟨by decide, "java/lang/IndexOutOfBoundsException", by decide, by decide, (List.mem_of_getElem? (i := 1) rfl)⟩; cases hz) e1 e2 e3 ?_
      refine lv_astore (lv' := [(4, .ref q9), (0, .ref (B 0 0)), (1, .int (zI cc)), (2, .int (zI a)), (3, .ref (B 95 0))]) hx hb dL_approve_17 hl (by decide) rfl (fun ls hl => ?_)
      refine lv_iconst (v := zI (2)) hx hb dL_approve_19 rfl ?_
      exact kret _ B _ _ _ _ _ _ _ (lpost_x 2 hcd (by decide) hcs9 hcx9 hfo9 h95) hW9 hS9 (Nat.le_of_ble_eq_true rfl) (Nat.le_of_ble_eq_true rfl) dL_approve_20
    · refine g_catch [⟨0, 10, 13, 13⟩, ⟨0, 10, 17, 41⟩] ⟨0, 10, 21, 17⟩ [] X hNc htab (by decide) rfl (by decide) (List.mem_of_getElem? (i := 3) rfl) (fun z hz => by rcases List.mem_cons.mp hz with rfl | hz; exact ⟨by decide, "java/lang/IndexOutOfBoundsException", by decide, by decide, (List.mem_of_getElem? (i := 1) rfl)⟩; rcases List.mem_cons.mp hz with rfl | hz; exact ⟨by decide, "java/util/NoSuchElementException", by decide, by decide, (List.mem_of_getElem? (i := 2) rfl)⟩; cases hz) e1 e2 e3 ?_
      refine lv_astore (lv' := [(4, .ref q9), (0, .ref (B 0 0)), (1, .int (zI cc)), (2, .int (zI a)), (3, .ref (B 95 0))]) hx hb dL_approve_21 hl (by decide) rfl (fun ls hl => ?_)
      refine lv_iconst (v := zI (3)) hx hb dL_approve_23 rfl ?_
      exact kret _ B _ _ _ _ _ _ _ (lpost_x 3 hcd (by decide) hcs9 hcx9 hfo9 h95) hW9 hS9 (Nat.le_of_ble_eq_true rfl) (Nat.le_of_ble_eq_true rfl) dL_approve_24
  obtain ⟨⟨hcd, rfl⟩, hcs1, hcx1, hfo1⟩ := hp
  have h951 : C1 95 0 = some (gL Z 1 FO) := (hfo1 95 0 (by omega)).trans h95
  refine lv_i2l hx hb dL_approve_8 rfl ?_
  refine g_last X hW hS h951 (zI_in (by decide) (by decide) (by decide)) dL_approve_9 (fun C2 H locs hs hn hW hS => ?_)
  refine lv_goto (tgt := 25) hx hb dL_approve_10 (by decide) ?_
  refine lv_iconst (v := zI (0)) hx hb dL_approve_25 rfl ?_
  exact kret _ B _ _ _ _ _ _ _ (lpost_ok hcd hcs1 hcx1 hfo1 gfB.rfl' hs (updL0) hn) hW hS (Nat.le_of_ble_eq_true rfl) (Nat.le_of_ble_eq_true rfl) dL_approve_26

theorem ds_L_withdraw : yL_withdraw.cls ≠ "java/lang/invoke/MethodHandle" ∧ yL_withdraw.cls ≠ "java/lang/invoke/VarHandle" ∧ (parseMethodDescriptor yL_withdraw.desc).map (fun d => d.parameters.length) = some 4 := by decide +kernel
def rL_withdraw : Room := { frames := 8, cells := 4, slots := 24, locals := 143 }
set_option maxHeartbeats 4000000 in
set_option maxRecDepth 100000 in
theorem k_L_withdraw {l : Launch} (hfl : l.stackTraces = false) {Z : gZ} {B : gB} {C0 : gC} {S : gS} {T : gTx} {cc a : Int} {FO : Nat → Int64} (hcs : cs Z B C0 S T) (hcx : cx Z B C0) (hwf : wf S T) (rcc : zr cc) (ra : zr a) (h95 : C0 95 0 = some (gL Z 1 FO)) : Met l yL_withdraw wsL_withdraw rL_withdraw (gPcN Z B C0 [.ref (B 0 0), .int (zI cc), .int (zI a), .ref (B 95 0)]) (gQiB Z (lpost Z B C0 S T (cd_withdraw S cc a) (bcnt (fre (nS_withdraw S cc a) T cc.toNat) : Int) (nS_withdraw S cc a) T)) 4 24 (gA Z) := by
  refine g_ofIH (cc := cL_withdraw) (maxL := 5) (hh := [(0, 10, 13, 13), (0, 10, 17, 41), (0, 10, 21, 17)]) (by decide) rfl rfl (Nat.le_of_ble_eq_true rfl) ?_
  intro p e s m args below meth c Q X hNc htab kret hW hS ls hl
  have hx := X.1.1
  have hb := X.1.2.1
  have hts := X.1.2.2.2.2
  have hl : lv_has ls 5 [(0, .ref (B 0 0)), (1, .int (zI cc)), (2, .int (zI a)), (3, .ref (B 95 0))] := hl
  refine lv_aload_n hx hb dL_withdraw_0 rfl (lv_at hl 3 rfl) ?_
  refine lv_iconst (v := zI (0)) hx hb dL_withdraw_1 rfl ?_
  refine lv_aload_n hx hb dL_withdraw_2 rfl (lv_at hl 0 rfl) ?_
  refine lv_iload_n hx hb dL_withdraw_3 rfl (lv_at hl 1 rfl) ?_
  refine lv_iload_n hx hb dL_withdraw_4 rfl (lv_at hl 2 rfl) ?_
  refine g_cix (g_runVx X (k_X7_withdraw hfl hcs hcx hwf rcc ra) (cwV 2 hts gL_withdraw_X7_withdraw rfl rfl rfl ⟨rfl, ds_X7_withdraw⟩ ⟨Nat.le_of_ble_eq_true rfl, Nat.le_of_ble_eq_true rfl⟩) hW hS hcs.1 rfl rfl hl.1 rfl (Nat.le_of_ble_eq_true rfl) dL_withdraw_5 ⟨Nat.le_of_ble_eq_true rfl, Nat.le_of_ble_eq_true rfl⟩) hS (fun E9 ce9 q9 C9 H9 locs9 hp9 hW9 hS9 e1 e2 e3 => ?_) (fun r C1 H locs hp hW hS => ?_)
  · obtain ⟨hE, hcs9, hcx9, hfo9⟩ := hp9
    rcases hE with ⟨rfl, hcd⟩ | ⟨rfl, hcd⟩ | ⟨rfl, hcd⟩
    · refine g_catch [] ⟨0, 10, 13, 13⟩ [⟨0, 10, 17, 41⟩, ⟨0, 10, 21, 17⟩] X hNc htab (by decide) rfl (by decide) (List.mem_of_getElem? (i := 1) rfl) (fun _ hz => nomatch hz) e1 e2 e3 ?_
      refine lv_astore (lv' := [(4, .ref q9), (0, .ref (B 0 0)), (1, .int (zI cc)), (2, .int (zI a)), (3, .ref (B 95 0))]) hx hb dL_withdraw_13 hl (by decide) rfl (fun ls hl => ?_)
      refine lv_iconst (v := zI (1)) hx hb dL_withdraw_15 rfl ?_
      exact kret _ B _ _ _ _ _ _ _ (lpost_x 1 hcd (by decide) hcs9 hcx9 hfo9 h95) hW9 hS9 (Nat.le_of_ble_eq_true rfl) (Nat.le_of_ble_eq_true rfl) dL_withdraw_16
    · refine g_catch [⟨0, 10, 13, 13⟩] ⟨0, 10, 17, 41⟩ [⟨0, 10, 21, 17⟩] X hNc htab (by decide) rfl (by decide) (List.mem_of_getElem? (i := 2) rfl) (fun z hz => by rcases List.mem_cons.mp hz with rfl | hz; exact ⟨by decide, "java/lang/IndexOutOfBoundsException", by decide, by decide, (List.mem_of_getElem? (i := 1) rfl)⟩; cases hz) e1 e2 e3 ?_
      refine lv_astore (lv' := [(4, .ref q9), (0, .ref (B 0 0)), (1, .int (zI cc)), (2, .int (zI a)), (3, .ref (B 95 0))]) hx hb dL_withdraw_17 hl (by decide) rfl (fun ls hl => ?_)
      refine lv_iconst (v := zI (2)) hx hb dL_withdraw_19 rfl ?_
      exact kret _ B _ _ _ _ _ _ _ (lpost_x 2 hcd (by decide) hcs9 hcx9 hfo9 h95) hW9 hS9 (Nat.le_of_ble_eq_true rfl) (Nat.le_of_ble_eq_true rfl) dL_withdraw_20
    · refine g_catch [⟨0, 10, 13, 13⟩, ⟨0, 10, 17, 41⟩] ⟨0, 10, 21, 17⟩ [] X hNc htab (by decide) rfl (by decide) (List.mem_of_getElem? (i := 3) rfl) (fun z hz => by rcases List.mem_cons.mp hz with rfl | hz; exact ⟨by decide, "java/lang/IndexOutOfBoundsException", by decide, by decide, (List.mem_of_getElem? (i := 1) rfl)⟩; rcases List.mem_cons.mp hz with rfl | hz; exact ⟨by decide, "java/util/NoSuchElementException", by decide, by decide, (List.mem_of_getElem? (i := 2) rfl)⟩; cases hz) e1 e2 e3 ?_
      refine lv_astore (lv' := [(4, .ref q9), (0, .ref (B 0 0)), (1, .int (zI cc)), (2, .int (zI a)), (3, .ref (B 95 0))]) hx hb dL_withdraw_21 hl (by decide) rfl (fun ls hl => ?_)
      refine lv_iconst (v := zI (3)) hx hb dL_withdraw_23 rfl ?_
      exact kret _ B _ _ _ _ _ _ _ (lpost_x 3 hcd (by decide) hcs9 hcx9 hfo9 h95) hW9 hS9 (Nat.le_of_ble_eq_true rfl) (Nat.le_of_ble_eq_true rfl) dL_withdraw_24
  obtain ⟨⟨hcd, rfl⟩, hcs1, hcx1, hfo1⟩ := hp
  have h951 : C1 95 0 = some (gL Z 1 FO) := (hfo1 95 0 (by omega)).trans h95
  refine lv_i2l hx hb dL_withdraw_8 rfl ?_
  refine g_last X hW hS h951 (zI_in (by decide) (by decide) (by decide)) dL_withdraw_9 (fun C2 H locs hs hn hW hS => ?_)
  refine lv_goto (tgt := 25) hx hb dL_withdraw_10 (by decide) ?_
  refine lv_iconst (v := zI (0)) hx hb dL_withdraw_25 rfl ?_
  exact kret _ B _ _ _ _ _ _ _ (lpost_ok hcd hcs1 hcx1 hfo1 gfB.rfl' hs (updL0) hn) hW hS (Nat.le_of_ble_eq_true rfl) (Nat.le_of_ble_eq_true rfl) dL_withdraw_26

theorem ds_L_land : yL_land.cls ≠ "java/lang/invoke/MethodHandle" ∧ yL_land.cls ≠ "java/lang/invoke/VarHandle" ∧ (parseMethodDescriptor yL_land.desc).map (fun d => d.parameters.length) = some 3 := by decide +kernel
def rL_land : Room := { frames := 8, cells := 2, slots := 12, locals := 163 }
set_option maxHeartbeats 4000000 in
set_option maxRecDepth 100000 in
theorem k_L_land {l : Launch} (hfl : l.stackTraces = false) {Z : gZ} {B : gB} {C0 : gC} {S : gS} {T : gTx} {cc : Int} {FO : Nat → Int64} (hcs : cs Z B C0 S T) (hcx : cx Z B C0) (hwf : wf S T) (rcc : zr cc) (h95 : C0 95 0 = some (gL Z 1 FO)) : Met l yL_land wsL_land rL_land (gPcN Z B C0 [.ref (B 0 0), .int (zI cc), .ref (B 95 0)]) (gQiB Z (lpost Z B C0 S T (cd_land S T cc) ((ldT S T cc.toNat 0).length : Int) (ldS S cc.toNat) (ldT S T cc.toNat))) 2 12 (gA Z) := by
  refine g_ofIH (cc := cL_land) (maxL := 4) (hh := [(0, 9, 12, 13), (0, 9, 15, 33)]) (by decide) rfl rfl (Nat.le_of_ble_eq_true rfl) ?_
  intro p e s m args below meth c Q X hNc htab kret hW hS ls hl
  have hx := X.1.1
  have hb := X.1.2.1
  have hts := X.1.2.2.2.2
  have hl : lv_has ls 4 [(0, .ref (B 0 0)), (1, .int (zI cc)), (2, .ref (B 95 0))] := hl
  refine lv_aload_n hx hb dL_land_0 rfl (lv_at hl 2 rfl) ?_
  refine lv_iconst (v := zI (0)) hx hb dL_land_1 rfl ?_
  refine lv_aload_n hx hb dL_land_2 rfl (lv_at hl 0 rfl) ?_
  refine lv_iload_n hx hb dL_land_3 rfl (lv_at hl 1 rfl) ?_
  refine g_cix (g_runVx X (k_X7_land hfl hcs hcx hwf rcc) (cwV 1 hts gL_land_X7_land rfl rfl rfl ⟨rfl, ds_X7_land⟩ ⟨Nat.le_of_ble_eq_true rfl, Nat.le_of_ble_eq_true rfl⟩) hW hS hcs.1 rfl rfl hl.1 rfl (Nat.le_of_ble_eq_true rfl) dL_land_4 ⟨Nat.le_of_ble_eq_true rfl, Nat.le_of_ble_eq_true rfl⟩) hS (fun E9 ce9 q9 C9 H9 locs9 hp9 hW9 hS9 e1 e2 e3 => ?_) (fun r C1 H locs hp hW hS => ?_)
  · obtain ⟨hE, hcs9, hcx9, hfo9⟩ := hp9
    rcases hE with ⟨rfl, hcd⟩ | ⟨rfl, hcd⟩
    · refine g_catch [] ⟨0, 9, 12, 13⟩ [⟨0, 9, 15, 33⟩] X hNc htab (by decide) rfl (by decide) (List.mem_of_getElem? (i := 1) rfl) (fun _ hz => nomatch hz) e1 e2 e3 ?_
      refine lv_astore_n (lv' := [(3, .ref q9), (0, .ref (B 0 0)), (1, .int (zI cc)), (2, .ref (B 95 0))]) hx hb dL_land_12 rfl hl (by decide) rfl (fun ls hl => ?_)
      refine lv_iconst (v := zI (1)) hx hb dL_land_13 rfl ?_
      exact kret _ B _ _ _ _ _ _ _ (lpost_x 1 hcd (by decide) hcs9 hcx9 hfo9 h95) hW9 hS9 (Nat.le_of_ble_eq_true rfl) (Nat.le_of_ble_eq_true rfl) dL_land_14
    · refine g_catch [⟨0, 9, 12, 13⟩] ⟨0, 9, 15, 33⟩ [] X hNc htab (by decide) rfl (by decide) (List.mem_of_getElem? (i := 2) rfl) (fun z hz => by rcases List.mem_cons.mp hz with rfl | hz; exact ⟨by decide, "java/lang/IndexOutOfBoundsException", by decide, by decide, (List.mem_of_getElem? (i := 1) rfl)⟩; cases hz) e1 e2 e3 ?_
      refine lv_astore_n (lv' := [(3, .ref q9), (0, .ref (B 0 0)), (1, .int (zI cc)), (2, .ref (B 95 0))]) hx hb dL_land_15 rfl hl (by decide) rfl (fun ls hl => ?_)
      refine lv_iconst (v := zI (2)) hx hb dL_land_16 rfl ?_
      exact kret _ B _ _ _ _ _ _ _ (lpost_x 2 hcd (by decide) hcs9 hcx9 hfo9 h95) hW9 hS9 (Nat.le_of_ble_eq_true rfl) (Nat.le_of_ble_eq_true rfl) dL_land_17
  obtain ⟨⟨hcd, rfl⟩, hcs1, hcx1, hfo1⟩ := hp
  have h951 : C1 95 0 = some (gL Z 1 FO) := (hfo1 95 0 (by omega)).trans h95
  refine lv_i2l hx hb dL_land_7 rfl ?_
  refine g_last X hW hS h951 (zI_in (by decide) (by decide) (by decide)) dL_land_8 (fun C2 H locs hs hn hW hS => ?_)
  refine lv_goto (tgt := 18) hx hb dL_land_9 (by decide) ?_
  refine lv_iconst (v := zI (0)) hx hb dL_land_18 rfl ?_
  exact kret _ B _ _ _ _ _ _ _ (lpost_ok hcd hcs1 hcx1 hfo1 gfB.rfl' hs (updL0) hn) hW hS (Nat.le_of_ble_eq_true rfl) (Nat.le_of_ble_eq_true rfl) dL_land_19

theorem ds_L_reasonAgainst : yL_reasonAgainst.cls ≠ "java/lang/invoke/MethodHandle" ∧ yL_reasonAgainst.cls ≠ "java/lang/invoke/VarHandle" ∧ (parseMethodDescriptor yL_reasonAgainst.desc).map (fun d => d.parameters.length) = some 3 := by decide +kernel
def rL_reasonAgainst : Room := { frames := 8, cells := 2, slots := 12, locals := 163 }
set_option maxHeartbeats 4000000 in
set_option maxRecDepth 100000 in
theorem k_L_reasonAgainst {l : Launch} (hfl : l.stackTraces = false) {Z : gZ} {B : gB} {C0 : gC} {S : gS} {T : gTx} {cc : Int} {FO : Nat → Int64} (hcs : cs Z B C0 S T) (hcx : cx Z B C0) (hwf : wf S T) (rcc : zr cc) (h95 : C0 95 0 = some (gL Z 1 FO)) : Met l yL_reasonAgainst wsL_reasonAgainst rL_reasonAgainst (gPcN Z B C0 [.ref (B 0 0), .int (zI cc), .ref (B 95 0)]) (gQiB Z (lpost Z B C0 S T (cd_reason S T cc) (rsn S T cc.toNat : Int) S T)) 2 12 (gA Z) := by
  refine g_ofIH (cc := cL_reasonAgainst) (maxL := 4) (hh := [(0, 9, 12, 13), (0, 9, 15, 41)]) (by decide) rfl rfl (Nat.le_of_ble_eq_true rfl) ?_
  intro p e s m args below meth c Q X hNc htab kret hW hS ls hl
  have hx := X.1.1
  have hb := X.1.2.1
  have hts := X.1.2.2.2.2
  have hl : lv_has ls 4 [(0, .ref (B 0 0)), (1, .int (zI cc)), (2, .ref (B 95 0))] := hl
  refine lv_aload_n hx hb dL_reasonAgainst_0 rfl (lv_at hl 2 rfl) ?_
  refine lv_iconst (v := zI (0)) hx hb dL_reasonAgainst_1 rfl ?_
  refine lv_aload_n hx hb dL_reasonAgainst_2 rfl (lv_at hl 0 rfl) ?_
  refine lv_iload_n hx hb dL_reasonAgainst_3 rfl (lv_at hl 1 rfl) ?_
  refine g_cix (g_runVx X (k_X7_reasonAgainst hfl hcs hcx hwf rcc) (cwV 1 hts gL_reasonAgainst_X7_reasonAgainst rfl rfl rfl ⟨rfl, ds_X7_reasonAgainst⟩ ⟨Nat.le_of_ble_eq_true rfl, Nat.le_of_ble_eq_true rfl⟩) hW hS hcs.1 rfl rfl hl.1 rfl (Nat.le_of_ble_eq_true rfl) dL_reasonAgainst_4 ⟨Nat.le_of_ble_eq_true rfl, Nat.le_of_ble_eq_true rfl⟩) hS (fun E9 ce9 q9 C9 H9 locs9 hp9 hW9 hS9 e1 e2 e3 => ?_) (fun r C1 H locs hp hW hS => ?_)
  · obtain ⟨hE, hcs9, hcx9, hfo9⟩ := hp9
    rcases hE with ⟨rfl, hcd⟩ | ⟨rfl, hcd⟩
    · refine g_catch [] ⟨0, 9, 12, 13⟩ [⟨0, 9, 15, 41⟩] X hNc htab (by decide) rfl (by decide) (List.mem_of_getElem? (i := 1) rfl) (fun _ hz => nomatch hz) e1 e2 e3 ?_
      refine lv_astore_n (lv' := [(3, .ref q9), (0, .ref (B 0 0)), (1, .int (zI cc)), (2, .ref (B 95 0))]) hx hb dL_reasonAgainst_12 rfl hl (by decide) rfl (fun ls hl => ?_)
      refine lv_iconst (v := zI (1)) hx hb dL_reasonAgainst_13 rfl ?_
      exact kret _ B _ _ _ _ _ _ _ (lpost_x 1 hcd (by decide) hcs9 hcx9 hfo9 h95) hW9 hS9 (Nat.le_of_ble_eq_true rfl) (Nat.le_of_ble_eq_true rfl) dL_reasonAgainst_14
    · refine g_catch [⟨0, 9, 12, 13⟩] ⟨0, 9, 15, 41⟩ [] X hNc htab (by decide) rfl (by decide) (List.mem_of_getElem? (i := 2) rfl) (fun z hz => by rcases List.mem_cons.mp hz with rfl | hz; exact ⟨by decide, "java/lang/IndexOutOfBoundsException", by decide, by decide, (List.mem_of_getElem? (i := 1) rfl)⟩; cases hz) e1 e2 e3 ?_
      refine lv_astore_n (lv' := [(3, .ref q9), (0, .ref (B 0 0)), (1, .int (zI cc)), (2, .ref (B 95 0))]) hx hb dL_reasonAgainst_15 rfl hl (by decide) rfl (fun ls hl => ?_)
      refine lv_iconst (v := zI (2)) hx hb dL_reasonAgainst_16 rfl ?_
      exact kret _ B _ _ _ _ _ _ _ (lpost_x 2 hcd (by decide) hcs9 hcx9 hfo9 h95) hW9 hS9 (Nat.le_of_ble_eq_true rfl) (Nat.le_of_ble_eq_true rfl) dL_reasonAgainst_17
  obtain ⟨⟨hcd, rfl⟩, hcs1, hcx1, hfo1⟩ := hp
  have h951 : C1 95 0 = some (gL Z 1 FO) := (hfo1 95 0 (by omega)).trans h95
  refine lv_i2l hx hb dL_reasonAgainst_7 rfl ?_
  refine g_last X hW hS h951 (zI_in (by decide) (by decide) (by decide)) dL_reasonAgainst_8 (fun C2 H locs hs hn hW hS => ?_)
  refine lv_goto (tgt := 18) hx hb dL_reasonAgainst_9 (by decide) ?_
  refine lv_iconst (v := zI (0)) hx hb dL_reasonAgainst_18 rfl ?_
  exact kret _ B _ _ _ _ _ _ _ (lpost_ok hcd hcs1 hcx1 hfo1 gfB.rfl' hs (updL0) hn) hW hS (Nat.le_of_ble_eq_true rfl) (Nat.le_of_ble_eq_true rfl) dL_reasonAgainst_19

theorem ds_L_missingUser : yL_missingUser.cls ≠ "java/lang/invoke/MethodHandle" ∧ yL_missingUser.cls ≠ "java/lang/invoke/VarHandle" ∧ (parseMethodDescriptor yL_missingUser.desc).map (fun d => d.parameters.length) = some 3 := by decide +kernel
def rL_missingUser : Room := { frames := 8, cells := 3, slots := 18, locals := 144 }
set_option maxHeartbeats 4000000 in
set_option maxRecDepth 100000 in
theorem k_L_missingUser {l : Launch} (hfl : l.stackTraces = false) {Z : gZ} {B : gB} {C0 : gC} {S : gS} {T : gTx} {cc : Int} {FO : Nat → Int64} (hcs : cs Z B C0 S T) (hcx : cx Z B C0) (hwf : wf S T) (rcc : zr cc) (h95 : C0 95 0 = some (gL Z 1 FO)) : Met l yL_missingUser wsL_missingUser rL_missingUser (gPcN Z B C0 [.ref (B 0 0), .int (zI cc), .ref (B 95 0)]) (gQiB Z (lpost Z B C0 S T (cd_missing S T cc) (((mis S T cc.toNat).getD 0 : Nat) : Int) S T)) 3 18 (gA Z) := by
  refine g_ofIH (cc := cL_missingUser) (maxL := 4) (hh := [(0, 9, 12, 13), (0, 9, 15, 41)]) (by decide) rfl rfl (Nat.le_of_ble_eq_true rfl) ?_
  intro p e s m args below meth c Q X hNc htab kret hW hS ls hl
  have hx := X.1.1
  have hb := X.1.2.1
  have hts := X.1.2.2.2.2
  have hl : lv_has ls 4 [(0, .ref (B 0 0)), (1, .int (zI cc)), (2, .ref (B 95 0))] := hl
  refine lv_aload_n hx hb dL_missingUser_0 rfl (lv_at hl 2 rfl) ?_
  refine lv_iconst (v := zI (0)) hx hb dL_missingUser_1 rfl ?_
  refine lv_aload_n hx hb dL_missingUser_2 rfl (lv_at hl 0 rfl) ?_
  refine lv_iload_n hx hb dL_missingUser_3 rfl (lv_at hl 1 rfl) ?_
  refine g_cix (g_runVx X (k_X7_missingUser hfl hcs hcx hwf rcc) (cwV 1 hts gL_missingUser_X7_missingUser rfl rfl rfl ⟨rfl, ds_X7_missingUser⟩ ⟨Nat.le_of_ble_eq_true rfl, Nat.le_of_ble_eq_true rfl⟩) hW hS hcs.1 rfl rfl hl.1 rfl (Nat.le_of_ble_eq_true rfl) dL_missingUser_4 ⟨Nat.le_of_ble_eq_true rfl, Nat.le_of_ble_eq_true rfl⟩) hS (fun E9 ce9 q9 C9 H9 locs9 hp9 hW9 hS9 e1 e2 e3 => ?_) (fun r C1 H locs hp hW hS => ?_)
  · obtain ⟨hE, hcs9, hcx9, hfo9⟩ := hp9
    rcases hE with ⟨rfl, hcd⟩ | ⟨rfl, hcd⟩
    · refine g_catch [] ⟨0, 9, 12, 13⟩ [⟨0, 9, 15, 41⟩] X hNc htab (by decide) rfl (by decide) (List.mem_of_getElem? (i := 1) rfl) (fun _ hz => nomatch hz) e1 e2 e3 ?_
      refine lv_astore_n (lv' := [(3, .ref q9), (0, .ref (B 0 0)), (1, .int (zI cc)), (2, .ref (B 95 0))]) hx hb dL_missingUser_12 rfl hl (by decide) rfl (fun ls hl => ?_)
      refine lv_iconst (v := zI (1)) hx hb dL_missingUser_13 rfl ?_
      exact kret _ B _ _ _ _ _ _ _ (lpost_x 1 hcd (by decide) hcs9 hcx9 hfo9 h95) hW9 hS9 (Nat.le_of_ble_eq_true rfl) (Nat.le_of_ble_eq_true rfl) dL_missingUser_14
    · refine g_catch [⟨0, 9, 12, 13⟩] ⟨0, 9, 15, 41⟩ [] X hNc htab (by decide) rfl (by decide) (List.mem_of_getElem? (i := 2) rfl) (fun z hz => by rcases List.mem_cons.mp hz with rfl | hz; exact ⟨by decide, "java/lang/IndexOutOfBoundsException", by decide, by decide, (List.mem_of_getElem? (i := 1) rfl)⟩; cases hz) e1 e2 e3 ?_
      refine lv_astore_n (lv' := [(3, .ref q9), (0, .ref (B 0 0)), (1, .int (zI cc)), (2, .ref (B 95 0))]) hx hb dL_missingUser_15 rfl hl (by decide) rfl (fun ls hl => ?_)
      refine lv_iconst (v := zI (2)) hx hb dL_missingUser_16 rfl ?_
      exact kret _ B _ _ _ _ _ _ _ (lpost_x 2 hcd (by decide) hcs9 hcx9 hfo9 h95) hW9 hS9 (Nat.le_of_ble_eq_true rfl) (Nat.le_of_ble_eq_true rfl) dL_missingUser_17
  obtain ⟨⟨hcd, rfl⟩, hcs1, hcx1, hfo1⟩ := hp
  have h951 : C1 95 0 = some (gL Z 1 FO) := (hfo1 95 0 (by omega)).trans h95
  refine lv_i2l hx hb dL_missingUser_7 rfl ?_
  refine g_last X hW hS h951 (zI_in (by decide) (by decide) (by decide)) dL_missingUser_8 (fun C2 H locs hs hn hW hS => ?_)
  refine lv_goto (tgt := 18) hx hb dL_missingUser_9 (by decide) ?_
  refine lv_iconst (v := zI (0)) hx hb dL_missingUser_18 rfl ?_
  exact kret _ B _ _ _ _ _ _ _ (lpost_ok hcd hcs1 hcx1 hfo1 gfB.rfl' hs (updL0) hn) hW hS (Nat.le_of_ble_eq_true rfl) (Nat.le_of_ble_eq_true rfl) dL_missingUser_19

theorem ds_L_landedAt : yL_landedAt.cls ≠ "java/lang/invoke/MethodHandle" ∧ yL_landedAt.cls ≠ "java/lang/invoke/VarHandle" ∧ (parseMethodDescriptor yL_landedAt.desc).map (fun d => d.parameters.length) = some 3 := by decide +kernel
def rL_landedAt : Room := { frames := 7, cells := 1, slots := 6, locals := 103 }
set_option maxHeartbeats 4000000 in
set_option maxRecDepth 100000 in
theorem k_L_landedAt {l : Launch} (hfl : l.stackTraces = false) {Z : gZ} {B : gB} {C0 : gC} {S : gS} {T : gTx} {a : Int} {FO : Nat → Int64} (hcs : cs Z B C0 S T) (hcx : cx Z B C0) (hwf : wf S T) (ra : zr a) (h95 : C0 95 0 = some (gL Z 1 FO)) : Met l yL_landedAt wsL_landedAt rL_landedAt (gPcN Z B C0 [.ref (B 0 0), .int (zI a), .ref (B 95 0)]) (gQiB Z (lpost Z B C0 S T (cd_landedAt S a) (S 6 a.toNat : Int) S T)) 1 6 (gA Z) := by
  refine g_ofIH (cc := cL_landedAt) (maxL := 4) (hh := [(0, 9, 12, 41)]) (by decide) rfl rfl (Nat.le_of_ble_eq_true rfl) ?_
  intro p e s m args below meth c Q X hNc htab kret hW hS ls hl
  have hx := X.1.1
  have hb := X.1.2.1
  have hts := X.1.2.2.2.2
  have hl : lv_has ls 4 [(0, .ref (B 0 0)), (1, .int (zI a)), (2, .ref (B 95 0))] := hl
  refine lv_aload_n hx hb dL_landedAt_0 rfl (lv_at hl 2 rfl) ?_
  refine lv_iconst (v := zI (0)) hx hb dL_landedAt_1 rfl ?_
  refine lv_aload_n hx hb dL_landedAt_2 rfl (lv_at hl 0 rfl) ?_
  refine lv_iload_n hx hb dL_landedAt_3 rfl (lv_at hl 1 rfl) ?_
  refine g_cix (g_runVx X (k_X7_landedAt hfl hcs hcx hwf ra) (cwV 1 hts gL_landedAt_X7_landedAt rfl rfl rfl ⟨rfl, ds_X7_landedAt⟩ ⟨Nat.le_of_ble_eq_true rfl, Nat.le_of_ble_eq_true rfl⟩) hW hS hcs.1 rfl rfl hl.1 rfl (Nat.le_of_ble_eq_true rfl) dL_landedAt_4 ⟨Nat.le_of_ble_eq_true rfl, Nat.le_of_ble_eq_true rfl⟩) hS (fun E9 ce9 q9 C9 H9 locs9 hp9 hW9 hS9 e1 e2 e3 => ?_) (fun r C1 H locs hp hW hS => ?_)
  · obtain ⟨hE, hcs9, hcx9, hfo9⟩ := hp9
    obtain ⟨rfl, hcd⟩ := hE
    refine g_catch [] ⟨0, 9, 12, 41⟩ [] X hNc htab (by decide) rfl (by decide) (List.mem_of_getElem? (i := 1) rfl) (fun _ hz => nomatch hz) e1 e2 e3 ?_
    refine lv_astore_n (lv' := [(3, .ref q9), (0, .ref (B 0 0)), (1, .int (zI a)), (2, .ref (B 95 0))]) hx hb dL_landedAt_12 rfl hl (by decide) rfl (fun ls hl => ?_)
    refine lv_iconst (v := zI (1)) hx hb dL_landedAt_13 rfl ?_
    exact kret _ B _ _ _ _ _ _ _ (lpost_x 1 hcd (by decide) hcs9 hcx9 hfo9 h95) hW9 hS9 (Nat.le_of_ble_eq_true rfl) (Nat.le_of_ble_eq_true rfl) dL_landedAt_14
  obtain ⟨⟨hcd, rfl⟩, hcs1, hcx1, hfo1⟩ := hp
  have h951 : C1 95 0 = some (gL Z 1 FO) := (hfo1 95 0 (by omega)).trans h95
  refine lv_i2l hx hb dL_landedAt_7 rfl ?_
  refine g_last X hW hS h951 (zI_in (by decide) (by decide) (by decide)) dL_landedAt_8 (fun C2 H locs hs hn hW hS => ?_)
  refine lv_goto (tgt := 15) hx hb dL_landedAt_9 (by decide) ?_
  refine lv_iconst (v := zI (0)) hx hb dL_landedAt_15 rfl ?_
  exact kret _ B _ _ _ _ _ _ _ (lpost_ok hcd hcs1 hcx1 hfo1 gfB.rfl' hs (updL0) hn) hW hS (Nat.le_of_ble_eq_true rfl) (Nat.le_of_ble_eq_true rfl) dL_landedAt_16

theorem ds_L_mainLine : yL_mainLine.cls ≠ "java/lang/invoke/MethodHandle" ∧ yL_mainLine.cls ≠ "java/lang/invoke/VarHandle" ∧ (parseMethodDescriptor yL_mainLine.desc).map (fun d => d.parameters.length) = some 3 := by decide +kernel
def rL_mainLine : Room := { frames := 8, cells := 1, slots := 6, locals := 124 }
set_option maxHeartbeats 4000000 in
set_option maxRecDepth 100000 in
theorem k_L_mainLine {l : Launch} (hfl : l.stackTraces = false) {Z : gZ} {B : gB} {C0 : gC} {S : gS} {T : gTx} {a : Int} {FO : Nat → Int64} (hcs : cs Z B C0 S T) (hcx : cx Z B C0) (hwf : wf S T) (ra : zr a) (h95 : C0 95 0 = some (gL Z 1 FO)) : Met l yL_mainLine wsL_mainLine rL_mainLine (gPcN Z B C0 [.ref (B 0 0), .int (zI a), .ref (B 95 0)]) (gQiB Z (lpost Z B C0 S T (cd_mainLine T a) (ta (T 0) a) S T)) 1 6 (gA Z) := by
  refine g_ofIH (cc := cL_mainLine) (maxL := 4) (hh := [(0, 9, 12, 41)]) (by decide) rfl rfl (Nat.le_of_ble_eq_true rfl) ?_
  intro p e s m args below meth c Q X hNc htab kret hW hS ls hl
  have hx := X.1.1
  have hb := X.1.2.1
  have hts := X.1.2.2.2.2
  have hl : lv_has ls 4 [(0, .ref (B 0 0)), (1, .int (zI a)), (2, .ref (B 95 0))] := hl
  refine lv_aload_n hx hb dL_mainLine_0 rfl (lv_at hl 2 rfl) ?_
  refine lv_iconst (v := zI (0)) hx hb dL_mainLine_1 rfl ?_
  refine lv_aload_n hx hb dL_mainLine_2 rfl (lv_at hl 0 rfl) ?_
  refine lv_iload_n hx hb dL_mainLine_3 rfl (lv_at hl 1 rfl) ?_
  refine g_cix (g_runVx X (k_X7_mainLine hfl hcs hcx hwf ra) (cwV 1 hts gL_mainLine_X7_mainLine rfl rfl rfl ⟨rfl, ds_X7_mainLine⟩ ⟨Nat.le_of_ble_eq_true rfl, Nat.le_of_ble_eq_true rfl⟩) hW hS hcs.1 rfl rfl hl.1 rfl (Nat.le_of_ble_eq_true rfl) dL_mainLine_4 ⟨Nat.le_of_ble_eq_true rfl, Nat.le_of_ble_eq_true rfl⟩) hS (fun E9 ce9 q9 C9 H9 locs9 hp9 hW9 hS9 e1 e2 e3 => ?_) (fun r C1 H locs hp hW hS => ?_)
  · obtain ⟨hE, hcs9, hcx9, hfo9⟩ := hp9
    obtain ⟨rfl, hcd⟩ := hE
    refine g_catch [] ⟨0, 9, 12, 41⟩ [] X hNc htab (by decide) rfl (by decide) (List.mem_of_getElem? (i := 1) rfl) (fun _ hz => nomatch hz) e1 e2 e3 ?_
    refine lv_astore_n (lv' := [(3, .ref q9), (0, .ref (B 0 0)), (1, .int (zI a)), (2, .ref (B 95 0))]) hx hb dL_mainLine_12 rfl hl (by decide) rfl (fun ls hl => ?_)
    refine lv_iconst (v := zI (1)) hx hb dL_mainLine_13 rfl ?_
    exact kret _ B _ _ _ _ _ _ _ (lpost_x 1 hcd (by decide) hcs9 hcx9 hfo9 h95) hW9 hS9 (Nat.le_of_ble_eq_true rfl) (Nat.le_of_ble_eq_true rfl) dL_mainLine_14
  obtain ⟨⟨hcd, rfl⟩, hcs1, hcx1, hfo1⟩ := hp
  have h951 : C1 95 0 = some (gL Z 1 FO) := (hfo1 95 0 (by omega)).trans h95
  refine lv_i2l hx hb dL_mainLine_7 rfl ?_
  refine g_last X hW hS h951 (zI_in (by decide) (by decide) (by decide)) dL_mainLine_8 (fun C2 H locs hs hn hW hS => ?_)
  refine lv_goto (tgt := 15) hx hb dL_mainLine_9 (by decide) ?_
  refine lv_iconst (v := zI (0)) hx hb dL_mainLine_15 rfl ?_
  exact kret _ B _ _ _ _ _ _ _ (lpost_ok hcd hcs1 hcx1 hfo1 gfB.rfl' hs (updL0) hn) hW hS (Nat.le_of_ble_eq_true rfl) (Nat.le_of_ble_eq_true rfl) dL_mainLine_16

theorem ds_L_rounds : yL_rounds.cls ≠ "java/lang/invoke/MethodHandle" ∧ yL_rounds.cls ≠ "java/lang/invoke/VarHandle" ∧ (parseMethodDescriptor yL_rounds.desc).map (fun d => d.parameters.length) = some 3 := by decide +kernel
def rL_rounds : Room := { frames := 8, cells := 1, slots := 6, locals := 125 }
set_option maxHeartbeats 4000000 in
set_option maxRecDepth 100000 in
theorem k_L_rounds {l : Launch} (hfl : l.stackTraces = false) {Z : gZ} {B : gB} {C0 : gC} {S : gS} {T : gTx} {cc : Int} {FO : Nat → Int64} (hcs : cs Z B C0 S T) (hcx : cx Z B C0) (hwf : wf S T) (rcc : zr cc) (h95 : C0 95 0 = some (gL Z 1 FO)) : Met l yL_rounds wsL_rounds rL_rounds (gPcN Z B C0 [.ref (B 0 0), .int (zI cc), .ref (B 95 0)]) (gQiB Z (lpost Z B C0 S T (cd_C S cc) (S 2 cc.toNat : Int) S T)) 1 6 (gA Z) := by
  refine g_ofIH (cc := cL_rounds) (maxL := 4) (hh := [(0, 9, 12, 13)]) (by decide) rfl rfl (Nat.le_of_ble_eq_true rfl) ?_
  intro p e s m args below meth c Q X hNc htab kret hW hS ls hl
  have hx := X.1.1
  have hb := X.1.2.1
  have hts := X.1.2.2.2.2
  have hl : lv_has ls 4 [(0, .ref (B 0 0)), (1, .int (zI cc)), (2, .ref (B 95 0))] := hl
  refine lv_aload_n hx hb dL_rounds_0 rfl (lv_at hl 2 rfl) ?_
  refine lv_iconst (v := zI (0)) hx hb dL_rounds_1 rfl ?_
  refine lv_aload_n hx hb dL_rounds_2 rfl (lv_at hl 0 rfl) ?_
  refine lv_iload_n hx hb dL_rounds_3 rfl (lv_at hl 1 rfl) ?_
  refine g_cix (g_runVx X (k_X7_rounds hfl hcs hcx hwf rcc) (cwV 1 hts gL_rounds_X7_rounds rfl rfl rfl ⟨rfl, ds_X7_rounds⟩ ⟨Nat.le_of_ble_eq_true rfl, Nat.le_of_ble_eq_true rfl⟩) hW hS hcs.1 rfl rfl hl.1 rfl (Nat.le_of_ble_eq_true rfl) dL_rounds_4 ⟨Nat.le_of_ble_eq_true rfl, Nat.le_of_ble_eq_true rfl⟩) hS (fun E9 ce9 q9 C9 H9 locs9 hp9 hW9 hS9 e1 e2 e3 => ?_) (fun r C1 H locs hp hW hS => ?_)
  · obtain ⟨hE, hcs9, hcx9, hfo9⟩ := hp9
    obtain ⟨rfl, hcd⟩ := hE
    refine g_catch [] ⟨0, 9, 12, 13⟩ [] X hNc htab (by decide) rfl (by decide) (List.mem_of_getElem? (i := 1) rfl) (fun _ hz => nomatch hz) e1 e2 e3 ?_
    refine lv_astore_n (lv' := [(3, .ref q9), (0, .ref (B 0 0)), (1, .int (zI cc)), (2, .ref (B 95 0))]) hx hb dL_rounds_12 rfl hl (by decide) rfl (fun ls hl => ?_)
    refine lv_iconst (v := zI (1)) hx hb dL_rounds_13 rfl ?_
    exact kret _ B _ _ _ _ _ _ _ (lpost_x 1 hcd (by decide) hcs9 hcx9 hfo9 h95) hW9 hS9 (Nat.le_of_ble_eq_true rfl) (Nat.le_of_ble_eq_true rfl) dL_rounds_14
  obtain ⟨⟨hcd, rfl⟩, hcs1, hcx1, hfo1⟩ := hp
  have h951 : C1 95 0 = some (gL Z 1 FO) := (hfo1 95 0 (by omega)).trans h95
  refine lv_i2l hx hb dL_rounds_7 rfl ?_
  refine g_last X hW hS h951 (zI_in (by decide) (by decide) (by decide)) dL_rounds_8 (fun C2 H locs hs hn hW hS => ?_)
  refine lv_goto (tgt := 15) hx hb dL_rounds_9 (by decide) ?_
  refine lv_iconst (v := zI (0)) hx hb dL_rounds_15 rfl ?_
  exact kret _ B _ _ _ _ _ _ _ (lpost_ok hcd hcs1 hcx1 hfo1 gfB.rfl' hs (updL0) hn) hW hS (Nat.le_of_ble_eq_true rfl) (Nat.le_of_ble_eq_true rfl) dL_rounds_16

theorem ds_L_lines : yL_lines.cls ≠ "java/lang/invoke/MethodHandle" ∧ yL_lines.cls ≠ "java/lang/invoke/VarHandle" ∧ (parseMethodDescriptor yL_lines.desc).map (fun d => d.parameters.length) = some 4 := by decide +kernel
def rL_lines : Room := { frames := 9, cells := 2, slots := 12, locals := 146 }
set_option maxHeartbeats 4000000 in
set_option maxRecDepth 100000 in
theorem k_L_lines {l : Launch} (hfl : l.stackTraces = false) {Z : gZ} {B : gB} {C0 : gC} {S : gS} {T : gTx} {cc a : Int} {FO : Nat → Int64} (hcs : cs Z B C0 S T) (hcx : cx Z B C0) (hwf : wf S T) (rcc : zr cc) (ra : zr a) (h95 : C0 95 0 = some (gL Z 1 FO)) : Met l yL_lines wsL_lines rL_lines (gPcN Z B C0 [.ref (B 0 0), .int (zI cc), .int (zI a), .ref (B 95 0)]) (gQiB Z (lpost Z B C0 S T (cd_lines S cc a) ((rdt T cc.toNat a.toNat).length : Int) S T)) 2 12 (gA Z) := by
  refine g_ofIH (cc := cL_lines) (maxL := 5) (hh := [(0, 10, 13, 13), (0, 10, 17, 41)]) (by decide) rfl rfl (Nat.le_of_ble_eq_true rfl) ?_
  intro p e s m args below meth c Q X hNc htab kret hW hS ls hl
  have hx := X.1.1
  have hb := X.1.2.1
  have hts := X.1.2.2.2.2
  have hl : lv_has ls 5 [(0, .ref (B 0 0)), (1, .int (zI cc)), (2, .int (zI a)), (3, .ref (B 95 0))] := hl
  refine lv_aload_n hx hb dL_lines_0 rfl (lv_at hl 3 rfl) ?_
  refine lv_iconst (v := zI (0)) hx hb dL_lines_1 rfl ?_
  refine lv_aload_n hx hb dL_lines_2 rfl (lv_at hl 0 rfl) ?_
  refine lv_iload_n hx hb dL_lines_3 rfl (lv_at hl 1 rfl) ?_
  refine lv_iload_n hx hb dL_lines_4 rfl (lv_at hl 2 rfl) ?_
  refine g_cix (g_runVx X (k_X7_lines hfl hcs hcx hwf rcc ra) (cwV 2 hts gL_lines_X7_lines rfl rfl rfl ⟨rfl, ds_X7_lines⟩ ⟨Nat.le_of_ble_eq_true rfl, Nat.le_of_ble_eq_true rfl⟩) hW hS hcs.1 rfl rfl hl.1 rfl (Nat.le_of_ble_eq_true rfl) dL_lines_5 ⟨Nat.le_of_ble_eq_true rfl, Nat.le_of_ble_eq_true rfl⟩) hS (fun E9 ce9 q9 C9 H9 locs9 hp9 hW9 hS9 e1 e2 e3 => ?_) (fun r C1 H locs hp hW hS => ?_)
  · obtain ⟨hE, hcs9, hcx9, hfo9⟩ := hp9
    rcases hE with ⟨rfl, hcd⟩ | ⟨rfl, hcd⟩
    · refine g_catch [] ⟨0, 10, 13, 13⟩ [⟨0, 10, 17, 41⟩] X hNc htab (by decide) rfl (by decide) (List.mem_of_getElem? (i := 1) rfl) (fun _ hz => nomatch hz) e1 e2 e3 ?_
      refine lv_astore (lv' := [(4, .ref q9), (0, .ref (B 0 0)), (1, .int (zI cc)), (2, .int (zI a)), (3, .ref (B 95 0))]) hx hb dL_lines_13 hl (by decide) rfl (fun ls hl => ?_)
      refine lv_iconst (v := zI (1)) hx hb dL_lines_15 rfl ?_
      exact kret _ B _ _ _ _ _ _ _ (lpost_x 1 hcd (by decide) hcs9 hcx9 hfo9 h95) hW9 hS9 (Nat.le_of_ble_eq_true rfl) (Nat.le_of_ble_eq_true rfl) dL_lines_16
    · refine g_catch [⟨0, 10, 13, 13⟩] ⟨0, 10, 17, 41⟩ [] X hNc htab (by decide) rfl (by decide) (List.mem_of_getElem? (i := 2) rfl) (fun z hz => by rcases List.mem_cons.mp hz with rfl | hz; exact ⟨by decide, "java/lang/IndexOutOfBoundsException", by decide, by decide, (List.mem_of_getElem? (i := 1) rfl)⟩; cases hz) e1 e2 e3 ?_
      refine lv_astore (lv' := [(4, .ref q9), (0, .ref (B 0 0)), (1, .int (zI cc)), (2, .int (zI a)), (3, .ref (B 95 0))]) hx hb dL_lines_17 hl (by decide) rfl (fun ls hl => ?_)
      refine lv_iconst (v := zI (2)) hx hb dL_lines_19 rfl ?_
      exact kret _ B _ _ _ _ _ _ _ (lpost_x 2 hcd (by decide) hcs9 hcx9 hfo9 h95) hW9 hS9 (Nat.le_of_ble_eq_true rfl) (Nat.le_of_ble_eq_true rfl) dL_lines_20
  obtain ⟨⟨hcd, rfl⟩, hcs1, hcx1, hfo1⟩ := hp
  have h951 : C1 95 0 = some (gL Z 1 FO) := (hfo1 95 0 (by omega)).trans h95
  refine lv_i2l hx hb dL_lines_8 rfl ?_
  refine g_last X hW hS h951 (zI_in (by decide) (by decide) (by decide)) dL_lines_9 (fun C2 H locs hs hn hW hS => ?_)
  refine lv_goto (tgt := 21) hx hb dL_lines_10 (by decide) ?_
  refine lv_iconst (v := zI (0)) hx hb dL_lines_21 rfl ?_
  exact kret _ B _ _ _ _ _ _ _ (lpost_ok hcd hcs1 hcx1 hfo1 gfB.rfl' hs (updL0) hn) hW hS (Nat.le_of_ble_eq_true rfl) (Nat.le_of_ble_eq_true rfl) dL_lines_22

theorem ds_L_lineAt : yL_lineAt.cls ≠ "java/lang/invoke/MethodHandle" ∧ yL_lineAt.cls ≠ "java/lang/invoke/VarHandle" ∧ (parseMethodDescriptor yL_lineAt.desc).map (fun d => d.parameters.length) = some 5 := by decide +kernel
def rL_lineAt : Room := { frames := 9, cells := 3, slots := 18, locals := 148 }
set_option maxHeartbeats 4000000 in
set_option maxRecDepth 100000 in
theorem k_L_lineAt {l : Launch} (hfl : l.stackTraces = false) {Z : gZ} {B : gB} {C0 : gC} {S : gS} {T : gTx} {cc a b : Int} {FO : Nat → Int64} (hcs : cs Z B C0 S T) (hcx : cx Z B C0) (hwf : wf S T) (rcc : zr cc) (ra : zr a) (rb : zr b) (h95 : C0 95 0 = some (gL Z 1 FO)) : Met l yL_lineAt wsL_lineAt rL_lineAt (gPcN Z B C0 [.ref (B 0 0), .int (zI cc), .int (zI a), .int (zI b), .ref (B 95 0)]) (gQiB Z (lpost Z B C0 S T (cd_lineAt S T cc a b) (ta (rdt T cc.toNat a.toNat) b) S T)) 3 18 (gA Z) := by
  refine g_ofIH (cc := cL_lineAt) (maxL := 6) (hh := [(0, 12, 15, 13), (0, 12, 19, 41)]) (by decide) rfl rfl (Nat.le_of_ble_eq_true rfl) ?_
  intro p e s m args below meth c Q X hNc htab kret hW hS ls hl
  have hx := X.1.1
  have hb := X.1.2.1
  have hts := X.1.2.2.2.2
  have hl : lv_has ls 6 [(0, .ref (B 0 0)), (1, .int (zI cc)), (2, .int (zI a)), (3, .int (zI b)), (4, .ref (B 95 0))] := hl
  refine lv_aload hx hb dL_lineAt_0 (lv_at hl 4 rfl) ?_
  refine lv_iconst (v := zI (0)) hx hb dL_lineAt_2 rfl ?_
  refine lv_aload_n hx hb dL_lineAt_3 rfl (lv_at hl 0 rfl) ?_
  refine lv_iload_n hx hb dL_lineAt_4 rfl (lv_at hl 1 rfl) ?_
  refine lv_iload_n hx hb dL_lineAt_5 rfl (lv_at hl 2 rfl) ?_
  refine lv_iload_n hx hb dL_lineAt_6 rfl (lv_at hl 3 rfl) ?_
  refine g_cix (g_runVx X (k_X7_lineAt hfl hcs hcx hwf rcc ra rb) (cwV 3 hts gL_lineAt_X7_lineAt rfl rfl rfl ⟨rfl, ds_X7_lineAt⟩ ⟨Nat.le_of_ble_eq_true rfl, Nat.le_of_ble_eq_true rfl⟩) hW hS hcs.1 rfl rfl hl.1 rfl (Nat.le_of_ble_eq_true rfl) dL_lineAt_7 ⟨Nat.le_of_ble_eq_true rfl, Nat.le_of_ble_eq_true rfl⟩) hS (fun E9 ce9 q9 C9 H9 locs9 hp9 hW9 hS9 e1 e2 e3 => ?_) (fun r C1 H locs hp hW hS => ?_)
  · obtain ⟨hE, hcs9, hcx9, hfo9⟩ := hp9
    rcases hE with ⟨rfl, hcd⟩ | ⟨rfl, hcd⟩
    · refine g_catch [] ⟨0, 12, 15, 13⟩ [⟨0, 12, 19, 41⟩] X hNc htab (by decide) rfl (by decide) (List.mem_of_getElem? (i := 1) rfl) (fun _ hz => nomatch hz) e1 e2 e3 ?_
      refine lv_astore (lv' := [(5, .ref q9), (0, .ref (B 0 0)), (1, .int (zI cc)), (2, .int (zI a)), (3, .int (zI b)), (4, .ref (B 95 0))]) hx hb dL_lineAt_15 hl (by decide) rfl (fun ls hl => ?_)
      refine lv_iconst (v := zI (1)) hx hb dL_lineAt_17 rfl ?_
      exact kret _ B _ _ _ _ _ _ _ (lpost_x 1 hcd (by decide) hcs9 hcx9 hfo9 h95) hW9 hS9 (Nat.le_of_ble_eq_true rfl) (Nat.le_of_ble_eq_true rfl) dL_lineAt_18
    · refine g_catch [⟨0, 12, 15, 13⟩] ⟨0, 12, 19, 41⟩ [] X hNc htab (by decide) rfl (by decide) (List.mem_of_getElem? (i := 2) rfl) (fun z hz => by rcases List.mem_cons.mp hz with rfl | hz; exact ⟨by decide, "java/lang/IndexOutOfBoundsException", by decide, by decide, (List.mem_of_getElem? (i := 1) rfl)⟩; cases hz) e1 e2 e3 ?_
      refine lv_astore (lv' := [(5, .ref q9), (0, .ref (B 0 0)), (1, .int (zI cc)), (2, .int (zI a)), (3, .int (zI b)), (4, .ref (B 95 0))]) hx hb dL_lineAt_19 hl (by decide) rfl (fun ls hl => ?_)
      refine lv_iconst (v := zI (2)) hx hb dL_lineAt_21 rfl ?_
      exact kret _ B _ _ _ _ _ _ _ (lpost_x 2 hcd (by decide) hcs9 hcx9 hfo9 h95) hW9 hS9 (Nat.le_of_ble_eq_true rfl) (Nat.le_of_ble_eq_true rfl) dL_lineAt_22
  obtain ⟨⟨hcd, rfl⟩, hcs1, hcx1, hfo1⟩ := hp
  have h951 : C1 95 0 = some (gL Z 1 FO) := (hfo1 95 0 (by omega)).trans h95
  refine lv_i2l hx hb dL_lineAt_10 rfl ?_
  refine g_last X hW hS h951 (zI_in (by decide) (by decide) (by decide)) dL_lineAt_11 (fun C2 H locs hs hn hW hS => ?_)
  refine lv_goto (tgt := 23) hx hb dL_lineAt_12 (by decide) ?_
  refine lv_iconst (v := zI (0)) hx hb dL_lineAt_23 rfl ?_
  exact kret _ B _ _ _ _ _ _ _ (lpost_ok hcd hcs1 hcx1 hfo1 gfB.rfl' hs (updL0) hn) hW hS (Nat.le_of_ble_eq_true rfl) (Nat.le_of_ble_eq_true rfl) dL_lineAt_24

theorem ds_L_edits : yL_edits.cls ≠ "java/lang/invoke/MethodHandle" ∧ yL_edits.cls ≠ "java/lang/invoke/VarHandle" ∧ (parseMethodDescriptor yL_edits.desc).map (fun d => d.parameters.length) = some 5 := by decide +kernel
def rL_edits : Room := { frames := 9, cells := 3, slots := 18, locals := 148 }
set_option maxHeartbeats 4000000 in
set_option maxRecDepth 100000 in
theorem k_L_edits {l : Launch} (hfl : l.stackTraces = false) {Z : gZ} {B : gB} {C0 : gC} {S : gS} {T : gTx} {cc a b : Int} {FO : Nat → Int64} (hcs : cs Z B C0 S T) (hcx : cx Z B C0) (hwf : wf S T) (rcc : zr cc) (ra : zr a) (rb : zr b) (h95 : C0 95 0 = some (gL Z 1 FO)) : Met l yL_edits wsL_edits rL_edits (gPcN Z B C0 [.ref (B 0 0), .int (zI cc), .int (zI a), .int (zI b), .ref (B 95 0)]) (gQiB Z (lpost Z B C0 S T (cd_edits S cc a b) (ed (rdt T cc.toNat a.toNat) (rdt T cc.toNat b.toNat) : Int) S T)) 3 18 (gA Z) := by
  refine g_ofIH (cc := cL_edits) (maxL := 6) (hh := [(0, 12, 15, 13), (0, 12, 19, 41)]) (by decide) rfl rfl (Nat.le_of_ble_eq_true rfl) ?_
  intro p e s m args below meth c Q X hNc htab kret hW hS ls hl
  have hx := X.1.1
  have hb := X.1.2.1
  have hts := X.1.2.2.2.2
  have hl : lv_has ls 6 [(0, .ref (B 0 0)), (1, .int (zI cc)), (2, .int (zI a)), (3, .int (zI b)), (4, .ref (B 95 0))] := hl
  refine lv_aload hx hb dL_edits_0 (lv_at hl 4 rfl) ?_
  refine lv_iconst (v := zI (0)) hx hb dL_edits_2 rfl ?_
  refine lv_aload_n hx hb dL_edits_3 rfl (lv_at hl 0 rfl) ?_
  refine lv_iload_n hx hb dL_edits_4 rfl (lv_at hl 1 rfl) ?_
  refine lv_iload_n hx hb dL_edits_5 rfl (lv_at hl 2 rfl) ?_
  refine lv_iload_n hx hb dL_edits_6 rfl (lv_at hl 3 rfl) ?_
  refine g_cix (g_runVx X (k_X7_edits hfl hcs hcx hwf rcc ra rb) (cwV 3 hts gL_edits_X7_edits rfl rfl rfl ⟨rfl, ds_X7_edits⟩ ⟨Nat.le_of_ble_eq_true rfl, Nat.le_of_ble_eq_true rfl⟩) hW hS hcs.1 rfl rfl hl.1 rfl (Nat.le_of_ble_eq_true rfl) dL_edits_7 ⟨Nat.le_of_ble_eq_true rfl, Nat.le_of_ble_eq_true rfl⟩) hS (fun E9 ce9 q9 C9 H9 locs9 hp9 hW9 hS9 e1 e2 e3 => ?_) (fun r C1 H locs hp hW hS => ?_)
  · obtain ⟨hE, hcs9, hcx9, hfo9⟩ := hp9
    rcases hE with ⟨rfl, hcd⟩ | ⟨rfl, hcd⟩
    · refine g_catch [] ⟨0, 12, 15, 13⟩ [⟨0, 12, 19, 41⟩] X hNc htab (by decide) rfl (by decide) (List.mem_of_getElem? (i := 1) rfl) (fun _ hz => nomatch hz) e1 e2 e3 ?_
      refine lv_astore (lv' := [(5, .ref q9), (0, .ref (B 0 0)), (1, .int (zI cc)), (2, .int (zI a)), (3, .int (zI b)), (4, .ref (B 95 0))]) hx hb dL_edits_15 hl (by decide) rfl (fun ls hl => ?_)
      refine lv_iconst (v := zI (1)) hx hb dL_edits_17 rfl ?_
      exact kret _ B _ _ _ _ _ _ _ (lpost_x 1 hcd (by decide) hcs9 hcx9 hfo9 h95) hW9 hS9 (Nat.le_of_ble_eq_true rfl) (Nat.le_of_ble_eq_true rfl) dL_edits_18
    · refine g_catch [⟨0, 12, 15, 13⟩] ⟨0, 12, 19, 41⟩ [] X hNc htab (by decide) rfl (by decide) (List.mem_of_getElem? (i := 2) rfl) (fun z hz => by rcases List.mem_cons.mp hz with rfl | hz; exact ⟨by decide, "java/lang/IndexOutOfBoundsException", by decide, by decide, (List.mem_of_getElem? (i := 1) rfl)⟩; cases hz) e1 e2 e3 ?_
      refine lv_astore (lv' := [(5, .ref q9), (0, .ref (B 0 0)), (1, .int (zI cc)), (2, .int (zI a)), (3, .int (zI b)), (4, .ref (B 95 0))]) hx hb dL_edits_19 hl (by decide) rfl (fun ls hl => ?_)
      refine lv_iconst (v := zI (2)) hx hb dL_edits_21 rfl ?_
      exact kret _ B _ _ _ _ _ _ _ (lpost_x 2 hcd (by decide) hcs9 hcx9 hfo9 h95) hW9 hS9 (Nat.le_of_ble_eq_true rfl) (Nat.le_of_ble_eq_true rfl) dL_edits_22
  obtain ⟨⟨hcd, rfl⟩, hcs1, hcx1, hfo1⟩ := hp
  have h951 : C1 95 0 = some (gL Z 1 FO) := (hfo1 95 0 (by omega)).trans h95
  refine lv_i2l hx hb dL_edits_10 rfl ?_
  refine g_last X hW hS h951 (zI_in (by decide) (by decide) (by decide)) dL_edits_11 (fun C2 H locs hs hn hW hS => ?_)
  refine lv_goto (tgt := 23) hx hb dL_edits_12 (by decide) ?_
  refine lv_iconst (v := zI (0)) hx hb dL_edits_23 rfl ?_
  exact kret _ B _ _ _ _ _ _ _ (lpost_ok hcd hcs1 hcx1 hfo1 gfB.rfl' hs (updL0) hn) hW hS (Nat.le_of_ble_eq_true rfl) (Nat.le_of_ble_eq_true rfl) dL_edits_24

theorem ds_L_editsByWays : yL_editsByWays.cls ≠ "java/lang/invoke/MethodHandle" ∧ yL_editsByWays.cls ≠ "java/lang/invoke/VarHandle" ∧ (parseMethodDescriptor yL_editsByWays.desc).map (fun d => d.parameters.length) = some 5 := by decide +kernel
def rL_editsByWays : Room := { frames := 9, cells := 3, slots := 18, locals := 148 }
set_option maxHeartbeats 4000000 in
set_option maxRecDepth 100000 in
theorem k_L_editsByWays {l : Launch} (hfl : l.stackTraces = false) {Z : gZ} {B : gB} {C0 : gC} {S : gS} {T : gTx} {cc a b : Int} {FO : Nat → Int64} (hcs : cs Z B C0 S T) (hcx : cx Z B C0) (hwf : wf S T) (rcc : zr cc) (ra : zr a) (rb : zr b) (h95 : C0 95 0 = some (gL Z 1 FO)) : Met l yL_editsByWays wsL_editsByWays rL_editsByWays (gPcN Z B C0 [.ref (B 0 0), .int (zI cc), .int (zI a), .int (zI b), .ref (B 95 0)]) (gQiB Z (lpost Z B C0 S T (cd_edits S cc a b) (ed (rdt T cc.toNat a.toNat) (rdt T cc.toNat b.toNat) : Int) S T)) 3 18 (gA Z) := by
  refine g_ofIH (cc := cL_editsByWays) (maxL := 6) (hh := [(0, 12, 15, 13), (0, 12, 19, 41)]) (by decide) rfl rfl (Nat.le_of_ble_eq_true rfl) ?_
  intro p e s m args below meth c Q X hNc htab kret hW hS ls hl
  have hx := X.1.1
  have hb := X.1.2.1
  have hts := X.1.2.2.2.2
  have hl : lv_has ls 6 [(0, .ref (B 0 0)), (1, .int (zI cc)), (2, .int (zI a)), (3, .int (zI b)), (4, .ref (B 95 0))] := hl
  refine lv_aload hx hb dL_editsByWays_0 (lv_at hl 4 rfl) ?_
  refine lv_iconst (v := zI (0)) hx hb dL_editsByWays_2 rfl ?_
  refine lv_aload_n hx hb dL_editsByWays_3 rfl (lv_at hl 0 rfl) ?_
  refine lv_iload_n hx hb dL_editsByWays_4 rfl (lv_at hl 1 rfl) ?_
  refine lv_iload_n hx hb dL_editsByWays_5 rfl (lv_at hl 2 rfl) ?_
  refine lv_iload_n hx hb dL_editsByWays_6 rfl (lv_at hl 3 rfl) ?_
  refine g_cix (g_runVx X (k_X7_editsByWays hfl hcs hcx hwf rcc ra rb) (cwV 3 hts gL_editsByWays_X7_editsByWays rfl rfl rfl ⟨rfl, ds_X7_editsByWays⟩ ⟨Nat.le_of_ble_eq_true rfl, Nat.le_of_ble_eq_true rfl⟩) hW hS hcs.1 rfl rfl hl.1 rfl (Nat.le_of_ble_eq_true rfl) dL_editsByWays_7 ⟨Nat.le_of_ble_eq_true rfl, Nat.le_of_ble_eq_true rfl⟩) hS (fun E9 ce9 q9 C9 H9 locs9 hp9 hW9 hS9 e1 e2 e3 => ?_) (fun r C1 H locs hp hW hS => ?_)
  · obtain ⟨hE, hcs9, hcx9, hfo9⟩ := hp9
    rcases hE with ⟨rfl, hcd⟩ | ⟨rfl, hcd⟩
    · refine g_catch [] ⟨0, 12, 15, 13⟩ [⟨0, 12, 19, 41⟩] X hNc htab (by decide) rfl (by decide) (List.mem_of_getElem? (i := 1) rfl) (fun _ hz => nomatch hz) e1 e2 e3 ?_
      refine lv_astore (lv' := [(5, .ref q9), (0, .ref (B 0 0)), (1, .int (zI cc)), (2, .int (zI a)), (3, .int (zI b)), (4, .ref (B 95 0))]) hx hb dL_editsByWays_15 hl (by decide) rfl (fun ls hl => ?_)
      refine lv_iconst (v := zI (1)) hx hb dL_editsByWays_17 rfl ?_
      exact kret _ B _ _ _ _ _ _ _ (lpost_x 1 hcd (by decide) hcs9 hcx9 hfo9 h95) hW9 hS9 (Nat.le_of_ble_eq_true rfl) (Nat.le_of_ble_eq_true rfl) dL_editsByWays_18
    · refine g_catch [⟨0, 12, 15, 13⟩] ⟨0, 12, 19, 41⟩ [] X hNc htab (by decide) rfl (by decide) (List.mem_of_getElem? (i := 2) rfl) (fun z hz => by rcases List.mem_cons.mp hz with rfl | hz; exact ⟨by decide, "java/lang/IndexOutOfBoundsException", by decide, by decide, (List.mem_of_getElem? (i := 1) rfl)⟩; cases hz) e1 e2 e3 ?_
      refine lv_astore (lv' := [(5, .ref q9), (0, .ref (B 0 0)), (1, .int (zI cc)), (2, .int (zI a)), (3, .int (zI b)), (4, .ref (B 95 0))]) hx hb dL_editsByWays_19 hl (by decide) rfl (fun ls hl => ?_)
      refine lv_iconst (v := zI (2)) hx hb dL_editsByWays_21 rfl ?_
      exact kret _ B _ _ _ _ _ _ _ (lpost_x 2 hcd (by decide) hcs9 hcx9 hfo9 h95) hW9 hS9 (Nat.le_of_ble_eq_true rfl) (Nat.le_of_ble_eq_true rfl) dL_editsByWays_22
  obtain ⟨⟨hcd, rfl⟩, hcs1, hcx1, hfo1⟩ := hp
  have h951 : C1 95 0 = some (gL Z 1 FO) := (hfo1 95 0 (by omega)).trans h95
  refine lv_i2l hx hb dL_editsByWays_10 rfl ?_
  refine g_last X hW hS h951 (zI_in (by decide) (by decide) (by decide)) dL_editsByWays_11 (fun C2 H locs hs hn hW hS => ?_)
  refine lv_goto (tgt := 23) hx hb dL_editsByWays_12 (by decide) ?_
  refine lv_iconst (v := zI (0)) hx hb dL_editsByWays_23 rfl ?_
  exact kret _ B _ _ _ _ _ _ _ (lpost_ok hcd hcs1 hcx1 hfo1 gfB.rfl' hs (updL0) hn) hW hS (Nat.le_of_ble_eq_true rfl) (Nat.le_of_ble_eq_true rfl) dL_editsByWays_24

theorem ds_L_ownerOf : yL_ownerOf.cls ≠ "java/lang/invoke/MethodHandle" ∧ yL_ownerOf.cls ≠ "java/lang/invoke/VarHandle" ∧ (parseMethodDescriptor yL_ownerOf.desc).map (fun d => d.parameters.length) = some 3 := by decide +kernel
def rL_ownerOf : Room := { frames := 8, cells := 2, slots := 12, locals := 124 }
set_option maxHeartbeats 4000000 in
set_option maxRecDepth 100000 in
theorem k_L_ownerOf {l : Launch} (hfl : l.stackTraces = false) {Z : gZ} {B : gB} {C0 : gC} {S : gS} {T : gTx} {a : Int} {FO : Nat → Int64} (hcs : cs Z B C0 S T) (hcx : cx Z B C0) (hwf : wf S T) (ra : zr a) (h95 : C0 95 0 = some (gL Z 1 FO)) : Met l yL_ownerOf wsL_ownerOf rL_ownerOf (gPcN Z B C0 [.ref (B 0 0), .int (zI a), .ref (B 95 0)]) (gQiB Z (lpost Z B C0 S T (cd_ownerOf S a) (ownf S a) S T)) 2 12 (gA Z) := by
  refine g_ofIH (cc := cL_ownerOf) (maxL := 4) (hh := [(0, 9, 12, 15), (0, 9, 15, 41)]) (by decide) rfl rfl (Nat.le_of_ble_eq_true rfl) ?_
  intro p e s m args below meth c Q X hNc htab kret hW hS ls hl
  have hx := X.1.1
  have hb := X.1.2.1
  have hts := X.1.2.2.2.2
  have hl : lv_has ls 4 [(0, .ref (B 0 0)), (1, .int (zI a)), (2, .ref (B 95 0))] := hl
  refine lv_aload_n hx hb dL_ownerOf_0 rfl (lv_at hl 2 rfl) ?_
  refine lv_iconst (v := zI (0)) hx hb dL_ownerOf_1 rfl ?_
  refine lv_aload_n hx hb dL_ownerOf_2 rfl (lv_at hl 0 rfl) ?_
  refine lv_iload_n hx hb dL_ownerOf_3 rfl (lv_at hl 1 rfl) ?_
  refine g_cix (g_runVx X (k_X7_ownerOf hfl hcs hcx hwf ra) (cwV 1 hts gL_ownerOf_X7_ownerOf rfl rfl rfl ⟨rfl, ds_X7_ownerOf⟩ ⟨Nat.le_of_ble_eq_true rfl, Nat.le_of_ble_eq_true rfl⟩) hW hS hcs.1 rfl rfl hl.1 rfl (Nat.le_of_ble_eq_true rfl) dL_ownerOf_4 ⟨Nat.le_of_ble_eq_true rfl, Nat.le_of_ble_eq_true rfl⟩) hS (fun E9 ce9 q9 C9 H9 locs9 hp9 hW9 hS9 e1 e2 e3 => ?_) (fun r C1 H locs hp hW hS => ?_)
  · obtain ⟨hE, hcs9, hcx9, hfo9⟩ := hp9
    rcases hE with ⟨rfl, hcd⟩ | ⟨rfl, hcd⟩
    · refine g_catch [] ⟨0, 9, 12, 15⟩ [⟨0, 9, 15, 41⟩] X hNc htab (by decide) rfl (by decide) (List.mem_of_getElem? (i := 1) rfl) (fun _ hz => nomatch hz) e1 e2 e3 ?_
      refine lv_astore_n (lv' := [(3, .ref q9), (0, .ref (B 0 0)), (1, .int (zI a)), (2, .ref (B 95 0))]) hx hb dL_ownerOf_12 rfl hl (by decide) rfl (fun ls hl => ?_)
      refine lv_iconst (v := zI (1)) hx hb dL_ownerOf_13 rfl ?_
      exact kret _ B _ _ _ _ _ _ _ (lpost_x 1 hcd (by decide) hcs9 hcx9 hfo9 h95) hW9 hS9 (Nat.le_of_ble_eq_true rfl) (Nat.le_of_ble_eq_true rfl) dL_ownerOf_14
    · refine g_catch [⟨0, 9, 12, 15⟩] ⟨0, 9, 15, 41⟩ [] X hNc htab (by decide) rfl (by decide) (List.mem_of_getElem? (i := 2) rfl) (fun z hz => by rcases List.mem_cons.mp hz with rfl | hz; exact ⟨by decide, "java/lang/IllegalArgumentException", by decide, by decide, (List.mem_of_getElem? (i := 1) rfl)⟩; cases hz) e1 e2 e3 ?_
      refine lv_astore_n (lv' := [(3, .ref q9), (0, .ref (B 0 0)), (1, .int (zI a)), (2, .ref (B 95 0))]) hx hb dL_ownerOf_15 rfl hl (by decide) rfl (fun ls hl => ?_)
      refine lv_iconst (v := zI (2)) hx hb dL_ownerOf_16 rfl ?_
      exact kret _ B _ _ _ _ _ _ _ (lpost_x 2 hcd (by decide) hcs9 hcx9 hfo9 h95) hW9 hS9 (Nat.le_of_ble_eq_true rfl) (Nat.le_of_ble_eq_true rfl) dL_ownerOf_17
  obtain ⟨⟨hcd, rfl⟩, hcs1, hcx1, hfo1⟩ := hp
  have h951 : C1 95 0 = some (gL Z 1 FO) := (hfo1 95 0 (by omega)).trans h95
  refine lv_i2l hx hb dL_ownerOf_7 rfl ?_
  refine g_last X hW hS h951 (zI_in (by decide) (by decide) (by decide)) dL_ownerOf_8 (fun C2 H locs hs hn hW hS => ?_)
  refine lv_goto (tgt := 18) hx hb dL_ownerOf_9 (by decide) ?_
  refine lv_iconst (v := zI (0)) hx hb dL_ownerOf_18 rfl ?_
  exact kret _ B _ _ _ _ _ _ _ (lpost_ok hcd hcs1 hcx1 hfo1 gfB.rfl' hs (updL0) hn) hW hS (Nat.le_of_ble_eq_true rfl) (Nat.le_of_ble_eq_true rfl) dL_ownerOf_19

theorem ds_L_needs : yL_needs.cls ≠ "java/lang/invoke/MethodHandle" ∧ yL_needs.cls ≠ "java/lang/invoke/VarHandle" ∧ (parseMethodDescriptor yL_needs.desc).map (fun d => d.parameters.length) = some 4 := by decide +kernel
def rL_needs : Room := { frames := 8, cells := 2, slots := 12, locals := 140 }
set_option maxHeartbeats 4000000 in
set_option maxRecDepth 100000 in
theorem k_L_needs {l : Launch} (hfl : l.stackTraces = false) {Z : gZ} {B : gB} {C0 : gC} {S : gS} {T : gTx} {cc a : Int} {FO : Nat → Int64} (hcs : cs Z B C0 S T) (hcx : cx Z B C0) (hwf : wf S T) (rcc : zr cc) (ra : zr a) (h95 : C0 95 0 = some (gL Z 1 FO)) : Met l yL_needs wsL_needs rL_needs (gPcN Z B C0 [.ref (B 0 0), .int (zI cc), .int (zI a), .ref (B 95 0)]) (gQiB Z (lpost Z B C0 S T (cd_CU S cc a) (if (nee S T cc.toNat).testBit a.toNat = true then 1 else 0) S T)) 2 12 (gA Z) := by
  refine g_ofIH (cc := cL_needs) (maxL := 5) (hh := [(0, 17, 20, 13)]) (by decide) rfl rfl (Nat.le_of_ble_eq_true rfl) ?_
  intro p e s m args below meth c Q X hNc htab kret hW hS ls hl
  have hx := X.1.1
  have hb := X.1.2.1
  have hts := X.1.2.2.2.2
  have hl : lv_has ls 5 [(0, .ref (B 0 0)), (1, .int (zI cc)), (2, .int (zI a)), (3, .ref (B 95 0))] := hl
  refine lv_aload_n hx hb dL_needs_0 rfl (lv_at hl 3 rfl) ?_
  refine lv_iconst (v := zI (0)) hx hb dL_needs_1 rfl ?_
  refine lv_aload_n hx hb dL_needs_2 rfl (lv_at hl 0 rfl) ?_
  refine lv_iload_n hx hb dL_needs_3 rfl (lv_at hl 1 rfl) ?_
  refine lv_iload_n hx hb dL_needs_4 rfl (lv_at hl 2 rfl) ?_
  refine g_cix (g_runVx X (k_X7_needs hfl hcs hcx hwf rcc ra) (cwV 2 hts gL_needs_X7_needs rfl rfl rfl ⟨rfl, ds_X7_needs⟩ ⟨Nat.le_of_ble_eq_true rfl, Nat.le_of_ble_eq_true rfl⟩) hW hS hcs.1 rfl rfl hl.1 rfl (Nat.le_of_ble_eq_true rfl) dL_needs_5 ⟨Nat.le_of_ble_eq_true rfl, Nat.le_of_ble_eq_true rfl⟩) hS (fun E9 ce9 q9 C9 H9 locs9 hp9 hW9 hS9 e1 e2 e3 => ?_) (fun r C1 H locs hp hW hS => ?_)
  · obtain ⟨hE, hcs9, hcx9, hfo9⟩ := hp9
    obtain ⟨rfl, hcd⟩ := hE
    refine g_catch [] ⟨0, 17, 20, 13⟩ [] X hNc htab (by decide) rfl (by decide) (List.mem_of_getElem? (i := 1) rfl) (fun _ hz => nomatch hz) e1 e2 e3 ?_
    refine lv_astore (lv' := [(4, .ref q9), (0, .ref (B 0 0)), (1, .int (zI cc)), (2, .int (zI a)), (3, .ref (B 95 0))]) hx hb dL_needs_20 hl (by decide) rfl (fun ls hl => ?_)
    refine lv_iconst (v := zI (1)) hx hb dL_needs_22 rfl ?_
    exact kret _ B _ _ _ _ _ _ _ (lpost_x 1 hcd (by decide) hcs9 hcx9 hfo9 h95) hW9 hS9 (Nat.le_of_ble_eq_true rfl) (Nat.le_of_ble_eq_true rfl) dL_needs_23
  obtain ⟨⟨hcd, rfl⟩, hcs1, hcx1, hfo1⟩ := hp
  have h951 : C1 95 0 = some (gL Z 1 FO) := (hfo1 95 0 (by omega)).trans h95
  refine z_ifb_eq (tgt := 15) hx hb dL_needs_8 (by decide) (fun hbt => ?_) (fun hbt => ?_)
  · refine lv_lconst (v := 0) hx hb dL_needs_15 rfl ?_
    refine g_last X hW hS h951 (zI_in (by decide) (by decide) (by decide)) dL_needs_16 (fun C2 H locs hs hn hW hS => ?_)
    refine lv_goto (tgt := 24) hx hb dL_needs_17 (by decide) ?_
    refine lv_iconst (v := zI (0)) hx hb dL_needs_24 rfl ?_
    exact kret _ B _ _ _ _ _ _ _ (lpost_ok hcd hcs1 hcx1 hfo1 gfB.rfl' hs (updL0.trans (by rw [if_neg hbt]; rfl)) hn) hW hS (Nat.le_of_ble_eq_true rfl) (Nat.le_of_ble_eq_true rfl) dL_needs_25
  · refine lv_lconst (v := 1) hx hb dL_needs_11 rfl ?_
    refine lv_goto (tgt := 16) hx hb dL_needs_12 (by decide) ?_
    refine g_last X hW hS h951 (zI_in (by decide) (by decide) (by decide)) dL_needs_16 (fun C2 H locs hs hn hW hS => ?_)
    refine lv_goto (tgt := 24) hx hb dL_needs_17 (by decide) ?_
    refine lv_iconst (v := zI (0)) hx hb dL_needs_24 rfl ?_
    exact kret _ B _ _ _ _ _ _ _ (lpost_ok hcd hcs1 hcx1 hfo1 gfB.rfl' hs (updL0.trans (by rw [if_pos hbt]; rfl)) hn) hW hS (Nat.le_of_ble_eq_true rfl) (Nat.le_of_ble_eq_true rfl) dL_needs_25

theorem ds_L_placeIn : yL_placeIn.cls ≠ "java/lang/invoke/MethodHandle" ∧ yL_placeIn.cls ≠ "java/lang/invoke/VarHandle" ∧ (parseMethodDescriptor yL_placeIn.desc).map (fun d => d.parameters.length) = some 4 := by decide +kernel
def rL_placeIn : Room := { frames := 9, cells := 4, slots := 24, locals := 147 }
set_option maxHeartbeats 4000000 in
set_option maxRecDepth 100000 in
theorem k_L_placeIn {l : Launch} (hfl : l.stackTraces = false) {Z : gZ} {B : gB} {C0 : gC} {S : gS} {T : gTx} {qq a : Int} {FO : Nat → Int64} (hcs : cs Z B C0 S T) (hcx : cx Z B C0) (hwf : wf S T) (rqq : zr qq) (ra : zr a) (h95 : C0 95 0 = some (gL Z 1 FO)) : Met l yL_placeIn wsL_placeIn rL_placeIn (gPcN Z B C0 [.ref (B 0 0), .int (zI qq), .int (zI a), .ref (B 95 0)]) (gQiB Z (lpost Z B C0 S T (cd_placeIn S T qq a) (enc (plq S T qq.toNat a.toNat)) S T)) 4 24 (gA Z) := by
  refine g_ofIH (cc := cL_placeIn) (maxL := 5) (hh := [(0, 10, 13, 13), (0, 10, 17, 41)]) (by decide) rfl rfl (Nat.le_of_ble_eq_true rfl) ?_
  intro p e s m args below meth c Q X hNc htab kret hW hS ls hl
  have hx := X.1.1
  have hb := X.1.2.1
  have hts := X.1.2.2.2.2
  have hl : lv_has ls 5 [(0, .ref (B 0 0)), (1, .int (zI qq)), (2, .int (zI a)), (3, .ref (B 95 0))] := hl
  refine lv_aload_n hx hb dL_placeIn_0 rfl (lv_at hl 3 rfl) ?_
  refine lv_iconst (v := zI (0)) hx hb dL_placeIn_1 rfl ?_
  refine lv_aload_n hx hb dL_placeIn_2 rfl (lv_at hl 0 rfl) ?_
  refine lv_iload_n hx hb dL_placeIn_3 rfl (lv_at hl 1 rfl) ?_
  refine lv_iload_n hx hb dL_placeIn_4 rfl (lv_at hl 2 rfl) ?_
  refine g_cix (g_runVx X (k_X7_placeIn hfl hcs hcx hwf rqq ra) (cwV 2 hts gL_placeIn_X7_placeIn rfl rfl rfl ⟨rfl, ds_X7_placeIn⟩ ⟨Nat.le_of_ble_eq_true rfl, Nat.le_of_ble_eq_true rfl⟩) hW hS hcs.1 rfl rfl hl.1 rfl (Nat.le_of_ble_eq_true rfl) dL_placeIn_5 ⟨Nat.le_of_ble_eq_true rfl, Nat.le_of_ble_eq_true rfl⟩) hS (fun E9 ce9 q9 C9 H9 locs9 hp9 hW9 hS9 e1 e2 e3 => ?_) (fun r C1 H locs hp hW hS => ?_)
  · obtain ⟨hE, hcs9, hcx9, hfo9⟩ := hp9
    rcases hE with ⟨rfl, hcd⟩ | ⟨rfl, hcd⟩
    · refine g_catch [] ⟨0, 10, 13, 13⟩ [⟨0, 10, 17, 41⟩] X hNc htab (by decide) rfl (by decide) (List.mem_of_getElem? (i := 1) rfl) (fun _ hz => nomatch hz) e1 e2 e3 ?_
      refine lv_astore (lv' := [(4, .ref q9), (0, .ref (B 0 0)), (1, .int (zI qq)), (2, .int (zI a)), (3, .ref (B 95 0))]) hx hb dL_placeIn_13 hl (by decide) rfl (fun ls hl => ?_)
      refine lv_iconst (v := zI (1)) hx hb dL_placeIn_15 rfl ?_
      exact kret _ B _ _ _ _ _ _ _ (lpost_x 1 hcd (by decide) hcs9 hcx9 hfo9 h95) hW9 hS9 (Nat.le_of_ble_eq_true rfl) (Nat.le_of_ble_eq_true rfl) dL_placeIn_16
    · refine g_catch [⟨0, 10, 13, 13⟩] ⟨0, 10, 17, 41⟩ [] X hNc htab (by decide) rfl (by decide) (List.mem_of_getElem? (i := 2) rfl) (fun z hz => by rcases List.mem_cons.mp hz with rfl | hz; exact ⟨by decide, "java/lang/IndexOutOfBoundsException", by decide, by decide, (List.mem_of_getElem? (i := 1) rfl)⟩; cases hz) e1 e2 e3 ?_
      refine lv_astore (lv' := [(4, .ref q9), (0, .ref (B 0 0)), (1, .int (zI qq)), (2, .int (zI a)), (3, .ref (B 95 0))]) hx hb dL_placeIn_17 hl (by decide) rfl (fun ls hl => ?_)
      refine lv_iconst (v := zI (2)) hx hb dL_placeIn_19 rfl ?_
      exact kret _ B _ _ _ _ _ _ _ (lpost_x 2 hcd (by decide) hcs9 hcx9 hfo9 h95) hW9 hS9 (Nat.le_of_ble_eq_true rfl) (Nat.le_of_ble_eq_true rfl) dL_placeIn_20
  obtain ⟨⟨hcd, rfl⟩, hcs1, hcx1, hfo1⟩ := hp
  have h951 : C1 95 0 = some (gL Z 1 FO) := (hfo1 95 0 (by omega)).trans h95
  refine lv_i2l hx hb dL_placeIn_8 rfl ?_
  refine g_last X hW hS h951 (zI_in (by decide) (by decide) (by decide)) dL_placeIn_9 (fun C2 H locs hs hn hW hS => ?_)
  refine lv_goto (tgt := 21) hx hb dL_placeIn_10 (by decide) ?_
  refine lv_iconst (v := zI (0)) hx hb dL_placeIn_21 rfl ?_
  exact kret _ B _ _ _ _ _ _ _ (lpost_ok hcd hcs1 hcx1 hfo1 gfB.rfl' hs (updL0) hn) hW hS (Nat.le_of_ble_eq_true rfl) (Nat.le_of_ble_eq_true rfl) dL_placeIn_22

theorem ds_L_placeByComparing : yL_placeByComparing.cls ≠ "java/lang/invoke/MethodHandle" ∧ yL_placeByComparing.cls ≠ "java/lang/invoke/VarHandle" ∧ (parseMethodDescriptor yL_placeByComparing.desc).map (fun d => d.parameters.length) = some 4 := by decide +kernel
def rL_placeByComparing : Room := { frames := 9, cells := 4, slots := 24, locals := 147 }
set_option maxHeartbeats 4000000 in
set_option maxRecDepth 100000 in
theorem k_L_placeByComparing {l : Launch} (hfl : l.stackTraces = false) {Z : gZ} {B : gB} {C0 : gC} {S : gS} {T : gTx} {qq a : Int} {FO : Nat → Int64} (hcs : cs Z B C0 S T) (hcx : cx Z B C0) (hwf : wf S T) (rqq : zr qq) (ra : zr a) (h95 : C0 95 0 = some (gL Z 1 FO)) : Met l yL_placeByComparing wsL_placeByComparing rL_placeByComparing (gPcN Z B C0 [.ref (B 0 0), .int (zI qq), .int (zI a), .ref (B 95 0)]) (gQiB Z (lpost Z B C0 S T (cd_placeIn S T qq a) (enc (plq S T qq.toNat a.toNat)) S T)) 4 24 (gA Z) := by
  refine g_ofIH (cc := cL_placeByComparing) (maxL := 5) (hh := [(0, 10, 13, 13), (0, 10, 17, 41)]) (by decide) rfl rfl (Nat.le_of_ble_eq_true rfl) ?_
  intro p e s m args below meth c Q X hNc htab kret hW hS ls hl
  have hx := X.1.1
  have hb := X.1.2.1
  have hts := X.1.2.2.2.2
  have hl : lv_has ls 5 [(0, .ref (B 0 0)), (1, .int (zI qq)), (2, .int (zI a)), (3, .ref (B 95 0))] := hl
  refine lv_aload_n hx hb dL_placeByComparing_0 rfl (lv_at hl 3 rfl) ?_
  refine lv_iconst (v := zI (0)) hx hb dL_placeByComparing_1 rfl ?_
  refine lv_aload_n hx hb dL_placeByComparing_2 rfl (lv_at hl 0 rfl) ?_
  refine lv_iload_n hx hb dL_placeByComparing_3 rfl (lv_at hl 1 rfl) ?_
  refine lv_iload_n hx hb dL_placeByComparing_4 rfl (lv_at hl 2 rfl) ?_
  refine g_cix (g_runVx X (k_X7_placeByComparing hfl hcs hcx hwf rqq ra) (cwV 2 hts gL_placeByComparing_X7_placeByComparing rfl rfl rfl ⟨rfl, ds_X7_placeByComparing⟩ ⟨Nat.le_of_ble_eq_true rfl, Nat.le_of_ble_eq_true rfl⟩) hW hS hcs.1 rfl rfl hl.1 rfl (Nat.le_of_ble_eq_true rfl) dL_placeByComparing_5 ⟨Nat.le_of_ble_eq_true rfl, Nat.le_of_ble_eq_true rfl⟩) hS (fun E9 ce9 q9 C9 H9 locs9 hp9 hW9 hS9 e1 e2 e3 => ?_) (fun r C1 H locs hp hW hS => ?_)
  · obtain ⟨hE, hcs9, hcx9, hfo9⟩ := hp9
    rcases hE with ⟨rfl, hcd⟩ | ⟨rfl, hcd⟩
    · refine g_catch [] ⟨0, 10, 13, 13⟩ [⟨0, 10, 17, 41⟩] X hNc htab (by decide) rfl (by decide) (List.mem_of_getElem? (i := 1) rfl) (fun _ hz => nomatch hz) e1 e2 e3 ?_
      refine lv_astore (lv' := [(4, .ref q9), (0, .ref (B 0 0)), (1, .int (zI qq)), (2, .int (zI a)), (3, .ref (B 95 0))]) hx hb dL_placeByComparing_13 hl (by decide) rfl (fun ls hl => ?_)
      refine lv_iconst (v := zI (1)) hx hb dL_placeByComparing_15 rfl ?_
      exact kret _ B _ _ _ _ _ _ _ (lpost_x 1 hcd (by decide) hcs9 hcx9 hfo9 h95) hW9 hS9 (Nat.le_of_ble_eq_true rfl) (Nat.le_of_ble_eq_true rfl) dL_placeByComparing_16
    · refine g_catch [⟨0, 10, 13, 13⟩] ⟨0, 10, 17, 41⟩ [] X hNc htab (by decide) rfl (by decide) (List.mem_of_getElem? (i := 2) rfl) (fun z hz => by rcases List.mem_cons.mp hz with rfl | hz; exact ⟨by decide, "java/lang/IndexOutOfBoundsException", by decide, by decide, (List.mem_of_getElem? (i := 1) rfl)⟩; cases hz) e1 e2 e3 ?_
      refine lv_astore (lv' := [(4, .ref q9), (0, .ref (B 0 0)), (1, .int (zI qq)), (2, .int (zI a)), (3, .ref (B 95 0))]) hx hb dL_placeByComparing_17 hl (by decide) rfl (fun ls hl => ?_)
      refine lv_iconst (v := zI (2)) hx hb dL_placeByComparing_19 rfl ?_
      exact kret _ B _ _ _ _ _ _ _ (lpost_x 2 hcd (by decide) hcs9 hcx9 hfo9 h95) hW9 hS9 (Nat.le_of_ble_eq_true rfl) (Nat.le_of_ble_eq_true rfl) dL_placeByComparing_20
  obtain ⟨⟨hcd, rfl⟩, hcs1, hcx1, hfo1⟩ := hp
  have h951 : C1 95 0 = some (gL Z 1 FO) := (hfo1 95 0 (by omega)).trans h95
  refine lv_i2l hx hb dL_placeByComparing_8 rfl ?_
  refine g_last X hW hS h951 (zI_in (by decide) (by decide) (by decide)) dL_placeByComparing_9 (fun C2 H locs hs hn hW hS => ?_)
  refine lv_goto (tgt := 21) hx hb dL_placeByComparing_10 (by decide) ?_
  refine lv_iconst (v := zI (0)) hx hb dL_placeByComparing_21 rfl ?_
  exact kret _ B _ _ _ _ _ _ _ (lpost_ok hcd hcs1 hcx1 hfo1 gfB.rfl' hs (updL0) hn) hW hS (Nat.le_of_ble_eq_true rfl) (Nat.le_of_ble_eq_true rfl) dL_placeByComparing_22

theorem ds_L_isOpen : yL_isOpen.cls ≠ "java/lang/invoke/MethodHandle" ∧ yL_isOpen.cls ≠ "java/lang/invoke/VarHandle" ∧ (parseMethodDescriptor yL_isOpen.desc).map (fun d => d.parameters.length) = some 3 := by decide +kernel
def rL_isOpen : Room := { frames := 8, cells := 1, slots := 6, locals := 125 }
set_option maxHeartbeats 4000000 in
set_option maxRecDepth 100000 in
theorem k_L_isOpen {l : Launch} (hfl : l.stackTraces = false) {Z : gZ} {B : gB} {C0 : gC} {S : gS} {T : gTx} {qq : Int} {FO : Nat → Int64} (hcs : cs Z B C0 S T) (hcx : cx Z B C0) (hwf : wf S T) (rqq : zr qq) (h95 : C0 95 0 = some (gL Z 1 FO)) : Met l yL_isOpen wsL_isOpen rL_isOpen (gPcN Z B C0 [.ref (B 0 0), .int (zI qq), .ref (B 95 0)]) (gQiB Z (lpost Z B C0 S T (cd_R S qq) (if S 14 qq.toNat = 0 then 1 else 0) S T)) 1 6 (gA Z) := by
  refine g_ofIH (cc := cL_isOpen) (maxL := 4) (hh := [(0, 16, 19, 13)]) (by decide) rfl rfl (Nat.le_of_ble_eq_true rfl) ?_
  intro p e s m args below meth c Q X hNc htab kret hW hS ls hl
  have hx := X.1.1
  have hb := X.1.2.1
  have hts := X.1.2.2.2.2
  have hl : lv_has ls 4 [(0, .ref (B 0 0)), (1, .int (zI qq)), (2, .ref (B 95 0))] := hl
  refine lv_aload_n hx hb dL_isOpen_0 rfl (lv_at hl 2 rfl) ?_
  refine lv_iconst (v := zI (0)) hx hb dL_isOpen_1 rfl ?_
  refine lv_aload_n hx hb dL_isOpen_2 rfl (lv_at hl 0 rfl) ?_
  refine lv_iload_n hx hb dL_isOpen_3 rfl (lv_at hl 1 rfl) ?_
  refine g_cix (g_runVx X (k_X7_isOpen hfl hcs hcx hwf rqq) (cwV 1 hts gL_isOpen_X7_isOpen rfl rfl rfl ⟨rfl, ds_X7_isOpen⟩ ⟨Nat.le_of_ble_eq_true rfl, Nat.le_of_ble_eq_true rfl⟩) hW hS hcs.1 rfl rfl hl.1 rfl (Nat.le_of_ble_eq_true rfl) dL_isOpen_4 ⟨Nat.le_of_ble_eq_true rfl, Nat.le_of_ble_eq_true rfl⟩) hS (fun E9 ce9 q9 C9 H9 locs9 hp9 hW9 hS9 e1 e2 e3 => ?_) (fun r C1 H locs hp hW hS => ?_)
  · obtain ⟨hE, hcs9, hcx9, hfo9⟩ := hp9
    obtain ⟨rfl, hcd⟩ := hE
    refine g_catch [] ⟨0, 16, 19, 13⟩ [] X hNc htab (by decide) rfl (by decide) (List.mem_of_getElem? (i := 1) rfl) (fun _ hz => nomatch hz) e1 e2 e3 ?_
    refine lv_astore_n (lv' := [(3, .ref q9), (0, .ref (B 0 0)), (1, .int (zI qq)), (2, .ref (B 95 0))]) hx hb dL_isOpen_19 rfl hl (by decide) rfl (fun ls hl => ?_)
    refine lv_iconst (v := zI (1)) hx hb dL_isOpen_20 rfl ?_
    exact kret _ B _ _ _ _ _ _ _ (lpost_x 1 hcd (by decide) hcs9 hcx9 hfo9 h95) hW9 hS9 (Nat.le_of_ble_eq_true rfl) (Nat.le_of_ble_eq_true rfl) dL_isOpen_21
  obtain ⟨⟨hcd, rfl⟩, hcs1, hcx1, hfo1⟩ := hp
  have h951 : C1 95 0 = some (gL Z 1 FO) := (hfo1 95 0 (by omega)).trans h95
  refine z_ifb_eq (tgt := 14) hx hb dL_isOpen_7 (by decide) (fun hbt => ?_) (fun hbt => ?_)
  · refine lv_lconst (v := 0) hx hb dL_isOpen_14 rfl ?_
    refine g_last X hW hS h951 (zI_in (by decide) (by decide) (by decide)) dL_isOpen_15 (fun C2 H locs hs hn hW hS => ?_)
    refine lv_goto (tgt := 22) hx hb dL_isOpen_16 (by decide) ?_
    refine lv_iconst (v := zI (0)) hx hb dL_isOpen_22 rfl ?_
    exact kret _ B _ _ _ _ _ _ _ (lpost_ok hcd hcs1 hcx1 hfo1 gfB.rfl' hs (updL0.trans (by rw [if_neg hbt]; rfl)) hn) hW hS (Nat.le_of_ble_eq_true rfl) (Nat.le_of_ble_eq_true rfl) dL_isOpen_23
  · refine lv_lconst (v := 1) hx hb dL_isOpen_10 rfl ?_
    refine lv_goto (tgt := 15) hx hb dL_isOpen_11 (by decide) ?_
    refine g_last X hW hS h951 (zI_in (by decide) (by decide) (by decide)) dL_isOpen_15 (fun C2 H locs hs hn hW hS => ?_)
    refine lv_goto (tgt := 22) hx hb dL_isOpen_16 (by decide) ?_
    refine lv_iconst (v := zI (0)) hx hb dL_isOpen_22 rfl ?_
    exact kret _ B _ _ _ _ _ _ _ (lpost_ok hcd hcs1 hcx1 hfo1 gfB.rfl' hs (updL0.trans (by rw [if_pos hbt]; rfl)) hn) hW hS (Nat.le_of_ble_eq_true rfl) (Nat.le_of_ble_eq_true rfl) dL_isOpen_23

theorem ds_L_openComments : yL_openComments.cls ≠ "java/lang/invoke/MethodHandle" ∧ yL_openComments.cls ≠ "java/lang/invoke/VarHandle" ∧ (parseMethodDescriptor yL_openComments.desc).map (fun d => d.parameters.length) = some 3 := by decide +kernel
def rL_openComments : Room := { frames := 8, cells := 1, slots := 6, locals := 125 }
set_option maxHeartbeats 4000000 in
set_option maxRecDepth 100000 in
theorem k_L_openComments {l : Launch} (hfl : l.stackTraces = false) {Z : gZ} {B : gB} {C0 : gC} {S : gS} {T : gTx} {cc : Int} {FO : Nat → Int64} (hcs : cs Z B C0 S T) (hcx : cx Z B C0) (hwf : wf S T) (rcc : zr cc) (h95 : C0 95 0 = some (gL Z 1 FO)) : Met l yL_openComments wsL_openComments rL_openComments (gPcN Z B C0 [.ref (B 0 0), .int (zI cc), .ref (B 95 0)]) (gQiB Z (lpost Z B C0 S T (cd_C S cc) (opn S cc.toNat : Int) S T)) 1 6 (gA Z) := by
  refine g_ofIH (cc := cL_openComments) (maxL := 4) (hh := [(0, 9, 12, 13)]) (by decide) rfl rfl (Nat.le_of_ble_eq_true rfl) ?_
  intro p e s m args below meth c Q X hNc htab kret hW hS ls hl
  have hx := X.1.1
  have hb := X.1.2.1
  have hts := X.1.2.2.2.2
  have hl : lv_has ls 4 [(0, .ref (B 0 0)), (1, .int (zI cc)), (2, .ref (B 95 0))] := hl
  refine lv_aload_n hx hb dL_openComments_0 rfl (lv_at hl 2 rfl) ?_
  refine lv_iconst (v := zI (0)) hx hb dL_openComments_1 rfl ?_
  refine lv_aload_n hx hb dL_openComments_2 rfl (lv_at hl 0 rfl) ?_
  refine lv_iload_n hx hb dL_openComments_3 rfl (lv_at hl 1 rfl) ?_
  refine g_cix (g_runVx X (k_X7_openComments hfl hcs hcx hwf rcc) (cwV 1 hts gL_openComments_X7_openComments rfl rfl rfl ⟨rfl, ds_X7_openComments⟩ ⟨Nat.le_of_ble_eq_true rfl, Nat.le_of_ble_eq_true rfl⟩) hW hS hcs.1 rfl rfl hl.1 rfl (Nat.le_of_ble_eq_true rfl) dL_openComments_4 ⟨Nat.le_of_ble_eq_true rfl, Nat.le_of_ble_eq_true rfl⟩) hS (fun E9 ce9 q9 C9 H9 locs9 hp9 hW9 hS9 e1 e2 e3 => ?_) (fun r C1 H locs hp hW hS => ?_)
  · obtain ⟨hE, hcs9, hcx9, hfo9⟩ := hp9
    obtain ⟨rfl, hcd⟩ := hE
    refine g_catch [] ⟨0, 9, 12, 13⟩ [] X hNc htab (by decide) rfl (by decide) (List.mem_of_getElem? (i := 1) rfl) (fun _ hz => nomatch hz) e1 e2 e3 ?_
    refine lv_astore_n (lv' := [(3, .ref q9), (0, .ref (B 0 0)), (1, .int (zI cc)), (2, .ref (B 95 0))]) hx hb dL_openComments_12 rfl hl (by decide) rfl (fun ls hl => ?_)
    refine lv_iconst (v := zI (1)) hx hb dL_openComments_13 rfl ?_
    exact kret _ B _ _ _ _ _ _ _ (lpost_x 1 hcd (by decide) hcs9 hcx9 hfo9 h95) hW9 hS9 (Nat.le_of_ble_eq_true rfl) (Nat.le_of_ble_eq_true rfl) dL_openComments_14
  obtain ⟨⟨hcd, rfl⟩, hcs1, hcx1, hfo1⟩ := hp
  have h951 : C1 95 0 = some (gL Z 1 FO) := (hfo1 95 0 (by omega)).trans h95
  refine lv_i2l hx hb dL_openComments_7 rfl ?_
  refine g_last X hW hS h951 (zI_in (by decide) (by decide) (by decide)) dL_openComments_8 (fun C2 H locs hs hn hW hS => ?_)
  refine lv_goto (tgt := 15) hx hb dL_openComments_9 (by decide) ?_
  refine lv_iconst (v := zI (0)) hx hb dL_openComments_15 rfl ?_
  exact kret _ B _ _ _ _ _ _ _ (lpost_ok hcd hcs1 hcx1 hfo1 gfB.rfl' hs (updL0) hn) hW hS (Nat.le_of_ble_eq_true rfl) (Nat.le_of_ble_eq_true rfl) dL_openComments_16

theorem ds_L_hasApproved : yL_hasApproved.cls ≠ "java/lang/invoke/MethodHandle" ∧ yL_hasApproved.cls ≠ "java/lang/invoke/VarHandle" ∧ (parseMethodDescriptor yL_hasApproved.desc).map (fun d => d.parameters.length) = some 4 := by decide +kernel
def rL_hasApproved : Room := { frames := 8, cells := 2, slots := 12, locals := 127 }
set_option maxHeartbeats 4000000 in
set_option maxRecDepth 100000 in
theorem k_L_hasApproved {l : Launch} (hfl : l.stackTraces = false) {Z : gZ} {B : gB} {C0 : gC} {S : gS} {T : gTx} {cc a : Int} {FO : Nat → Int64} (hcs : cs Z B C0 S T) (hcx : cx Z B C0) (hwf : wf S T) (rcc : zr cc) (ra : zr a) (h95 : C0 95 0 = some (gL Z 1 FO)) : Met l yL_hasApproved wsL_hasApproved rL_hasApproved (gPcN Z B C0 [.ref (B 0 0), .int (zI cc), .int (zI a), .ref (B 95 0)]) (gQiB Z (lpost Z B C0 S T (cd_CU S cc a) (if 1 ≤ S 7 (5 * cc.toNat + a.toNat) then 1 else 0) S T)) 2 12 (gA Z) := by
  refine g_ofIH (cc := cL_hasApproved) (maxL := 5) (hh := [(0, 17, 20, 13)]) (by decide) rfl rfl (Nat.le_of_ble_eq_true rfl) ?_
  intro p e s m args below meth c Q X hNc htab kret hW hS ls hl
  have hx := X.1.1
  have hb := X.1.2.1
  have hts := X.1.2.2.2.2
  have hl : lv_has ls 5 [(0, .ref (B 0 0)), (1, .int (zI cc)), (2, .int (zI a)), (3, .ref (B 95 0))] := hl
  refine lv_aload_n hx hb dL_hasApproved_0 rfl (lv_at hl 3 rfl) ?_
  refine lv_iconst (v := zI (0)) hx hb dL_hasApproved_1 rfl ?_
  refine lv_aload_n hx hb dL_hasApproved_2 rfl (lv_at hl 0 rfl) ?_
  refine lv_iload_n hx hb dL_hasApproved_3 rfl (lv_at hl 1 rfl) ?_
  refine lv_iload_n hx hb dL_hasApproved_4 rfl (lv_at hl 2 rfl) ?_
  refine g_cix (g_runVx X (k_X7_hasApproved hfl hcs hcx hwf rcc ra) (cwV 2 hts gL_hasApproved_X7_hasApproved rfl rfl rfl ⟨rfl, ds_X7_hasApproved⟩ ⟨Nat.le_of_ble_eq_true rfl, Nat.le_of_ble_eq_true rfl⟩) hW hS hcs.1 rfl rfl hl.1 rfl (Nat.le_of_ble_eq_true rfl) dL_hasApproved_5 ⟨Nat.le_of_ble_eq_true rfl, Nat.le_of_ble_eq_true rfl⟩) hS (fun E9 ce9 q9 C9 H9 locs9 hp9 hW9 hS9 e1 e2 e3 => ?_) (fun r C1 H locs hp hW hS => ?_)
  · obtain ⟨hE, hcs9, hcx9, hfo9⟩ := hp9
    obtain ⟨rfl, hcd⟩ := hE
    refine g_catch [] ⟨0, 17, 20, 13⟩ [] X hNc htab (by decide) rfl (by decide) (List.mem_of_getElem? (i := 1) rfl) (fun _ hz => nomatch hz) e1 e2 e3 ?_
    refine lv_astore (lv' := [(4, .ref q9), (0, .ref (B 0 0)), (1, .int (zI cc)), (2, .int (zI a)), (3, .ref (B 95 0))]) hx hb dL_hasApproved_20 hl (by decide) rfl (fun ls hl => ?_)
    refine lv_iconst (v := zI (1)) hx hb dL_hasApproved_22 rfl ?_
    exact kret _ B _ _ _ _ _ _ _ (lpost_x 1 hcd (by decide) hcs9 hcx9 hfo9 h95) hW9 hS9 (Nat.le_of_ble_eq_true rfl) (Nat.le_of_ble_eq_true rfl) dL_hasApproved_23
  obtain ⟨⟨hcd, rfl⟩, hcs1, hcx1, hfo1⟩ := hp
  have h951 : C1 95 0 = some (gL Z 1 FO) := (hfo1 95 0 (by omega)).trans h95
  refine z_ifb_eq (tgt := 15) hx hb dL_hasApproved_8 (by decide) (fun hbt => ?_) (fun hbt => ?_)
  · refine lv_lconst (v := 0) hx hb dL_hasApproved_15 rfl ?_
    refine g_last X hW hS h951 (zI_in (by decide) (by decide) (by decide)) dL_hasApproved_16 (fun C2 H locs hs hn hW hS => ?_)
    refine lv_goto (tgt := 24) hx hb dL_hasApproved_17 (by decide) ?_
    refine lv_iconst (v := zI (0)) hx hb dL_hasApproved_24 rfl ?_
    exact kret _ B _ _ _ _ _ _ _ (lpost_ok hcd hcs1 hcx1 hfo1 gfB.rfl' hs (updL0.trans (by rw [if_neg hbt]; rfl)) hn) hW hS (Nat.le_of_ble_eq_true rfl) (Nat.le_of_ble_eq_true rfl) dL_hasApproved_25
  · refine lv_lconst (v := 1) hx hb dL_hasApproved_11 rfl ?_
    refine lv_goto (tgt := 16) hx hb dL_hasApproved_12 (by decide) ?_
    refine g_last X hW hS h951 (zI_in (by decide) (by decide) (by decide)) dL_hasApproved_16 (fun C2 H locs hs hn hW hS => ?_)
    refine lv_goto (tgt := 24) hx hb dL_hasApproved_17 (by decide) ?_
    refine lv_iconst (v := zI (0)) hx hb dL_hasApproved_24 rfl ?_
    exact kret _ B _ _ _ _ _ _ _ (lpost_ok hcd hcs1 hcx1 hfo1 gfB.rfl' hs (updL0.trans (by rw [if_pos hbt]; rfl)) hn) hW hS (Nat.le_of_ble_eq_true rfl) (Nat.le_of_ble_eq_true rfl) dL_hasApproved_25

theorem ds_L_isStale : yL_isStale.cls ≠ "java/lang/invoke/MethodHandle" ∧ yL_isStale.cls ≠ "java/lang/invoke/VarHandle" ∧ (parseMethodDescriptor yL_isStale.desc).map (fun d => d.parameters.length) = some 4 := by decide +kernel
def rL_isStale : Room := { frames := 8, cells := 3, slots := 18, locals := 143 }
set_option maxHeartbeats 4000000 in
set_option maxRecDepth 100000 in
theorem k_L_isStale {l : Launch} (hfl : l.stackTraces = false) {Z : gZ} {B : gB} {C0 : gC} {S : gS} {T : gTx} {cc a : Int} {FO : Nat → Int64} (hcs : cs Z B C0 S T) (hcx : cx Z B C0) (hwf : wf S T) (rcc : zr cc) (ra : zr a) (h95 : C0 95 0 = some (gL Z 1 FO)) : Met l yL_isStale wsL_isStale rL_isStale (gPcN Z B C0 [.ref (B 0 0), .int (zI cc), .int (zI a), .ref (B 95 0)]) (gQiB Z (lpost Z B C0 S T (cd_isStale S cc a) (if (fre S T cc.toNat).testBit a.toNat = true then 0 else 1) S T)) 3 18 (gA Z) := by
  refine g_ofIH (cc := cL_isStale) (maxL := 5) (hh := [(0, 17, 20, 13), (0, 17, 24, 41)]) (by decide) rfl rfl (Nat.le_of_ble_eq_true rfl) ?_
  intro p e s m args below meth c Q X hNc htab kret hW hS ls hl
  have hx := X.1.1
  have hb := X.1.2.1
  have hts := X.1.2.2.2.2
  have hl : lv_has ls 5 [(0, .ref (B 0 0)), (1, .int (zI cc)), (2, .int (zI a)), (3, .ref (B 95 0))] := hl
  refine lv_aload_n hx hb dL_isStale_0 rfl (lv_at hl 3 rfl) ?_
  refine lv_iconst (v := zI (0)) hx hb dL_isStale_1 rfl ?_
  refine lv_aload_n hx hb dL_isStale_2 rfl (lv_at hl 0 rfl) ?_
  refine lv_iload_n hx hb dL_isStale_3 rfl (lv_at hl 1 rfl) ?_
  refine lv_iload_n hx hb dL_isStale_4 rfl (lv_at hl 2 rfl) ?_
  refine g_cix (g_runVx X (k_X7_isStale hfl hcs hcx hwf rcc ra) (cwV 2 hts gL_isStale_X7_isStale rfl rfl rfl ⟨rfl, ds_X7_isStale⟩ ⟨Nat.le_of_ble_eq_true rfl, Nat.le_of_ble_eq_true rfl⟩) hW hS hcs.1 rfl rfl hl.1 rfl (Nat.le_of_ble_eq_true rfl) dL_isStale_5 ⟨Nat.le_of_ble_eq_true rfl, Nat.le_of_ble_eq_true rfl⟩) hS (fun E9 ce9 q9 C9 H9 locs9 hp9 hW9 hS9 e1 e2 e3 => ?_) (fun r C1 H locs hp hW hS => ?_)
  · obtain ⟨hE, hcs9, hcx9, hfo9⟩ := hp9
    rcases hE with ⟨rfl, hcd⟩ | ⟨rfl, hcd⟩
    · refine g_catch [] ⟨0, 17, 20, 13⟩ [⟨0, 17, 24, 41⟩] X hNc htab (by decide) rfl (by decide) (List.mem_of_getElem? (i := 1) rfl) (fun _ hz => nomatch hz) e1 e2 e3 ?_
      refine lv_astore (lv' := [(4, .ref q9), (0, .ref (B 0 0)), (1, .int (zI cc)), (2, .int (zI a)), (3, .ref (B 95 0))]) hx hb dL_isStale_20 hl (by decide) rfl (fun ls hl => ?_)
      refine lv_iconst (v := zI (1)) hx hb dL_isStale_22 rfl ?_
      exact kret _ B _ _ _ _ _ _ _ (lpost_x 1 hcd (by decide) hcs9 hcx9 hfo9 h95) hW9 hS9 (Nat.le_of_ble_eq_true rfl) (Nat.le_of_ble_eq_true rfl) dL_isStale_23
    · refine g_catch [⟨0, 17, 20, 13⟩] ⟨0, 17, 24, 41⟩ [] X hNc htab (by decide) rfl (by decide) (List.mem_of_getElem? (i := 2) rfl) (fun z hz => by rcases List.mem_cons.mp hz with rfl | hz; exact ⟨by decide, "java/lang/IndexOutOfBoundsException", by decide, by decide, (List.mem_of_getElem? (i := 1) rfl)⟩; cases hz) e1 e2 e3 ?_
      refine lv_astore (lv' := [(4, .ref q9), (0, .ref (B 0 0)), (1, .int (zI cc)), (2, .int (zI a)), (3, .ref (B 95 0))]) hx hb dL_isStale_24 hl (by decide) rfl (fun ls hl => ?_)
      refine lv_iconst (v := zI (2)) hx hb dL_isStale_26 rfl ?_
      exact kret _ B _ _ _ _ _ _ _ (lpost_x 2 hcd (by decide) hcs9 hcx9 hfo9 h95) hW9 hS9 (Nat.le_of_ble_eq_true rfl) (Nat.le_of_ble_eq_true rfl) dL_isStale_27
  obtain ⟨⟨hcd, rfl⟩, hcs1, hcx1, hfo1⟩ := hp
  have h951 : C1 95 0 = some (gL Z 1 FO) := (hfo1 95 0 (by omega)).trans h95
  rw [ite_flip]
  refine z_ifb_eq (tgt := 15) hx hb dL_isStale_8 (by decide) (fun hbt => ?_) (fun hbt => ?_)
  · refine lv_lconst (v := 0) hx hb dL_isStale_15 rfl ?_
    refine g_last X hW hS h951 (zI_in (by decide) (by decide) (by decide)) dL_isStale_16 (fun C2 H locs hs hn hW hS => ?_)
    refine lv_goto (tgt := 28) hx hb dL_isStale_17 (by decide) ?_
    refine lv_iconst (v := zI (0)) hx hb dL_isStale_28 rfl ?_
    exact kret _ B _ _ _ _ _ _ _ (lpost_ok hcd hcs1 hcx1 hfo1 gfB.rfl' hs (updL0.trans (by rw [if_pos (Decidable.not_not.mp hbt)]; rfl)) hn) hW hS (Nat.le_of_ble_eq_true rfl) (Nat.le_of_ble_eq_true rfl) dL_isStale_29
  · refine lv_lconst (v := 1) hx hb dL_isStale_11 rfl ?_
    refine lv_goto (tgt := 16) hx hb dL_isStale_12 (by decide) ?_
    refine g_last X hW hS h951 (zI_in (by decide) (by decide) (by decide)) dL_isStale_16 (fun C2 H locs hs hn hW hS => ?_)
    refine lv_goto (tgt := 28) hx hb dL_isStale_17 (by decide) ?_
    refine lv_iconst (v := zI (0)) hx hb dL_isStale_28 rfl ?_
    exact kret _ B _ _ _ _ _ _ _ (lpost_ok hcd hcs1 hcx1 hfo1 gfB.rfl' hs (updL0.trans (by rw [if_neg hbt]; rfl)) hn) hW hS (Nat.le_of_ble_eq_true rfl) (Nat.le_of_ble_eq_true rfl) dL_isStale_29
