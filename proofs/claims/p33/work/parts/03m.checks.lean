theorem vxo_0_80 : ∀ w ∈ Cond.classLink RX7 76 "java/lang/IllegalArgumentException" :: Cond.initialized "java/lang/IllegalArgumentException" :: vx_atE RX7 80 "java/lang/IllegalArgumentException" gThr, vx_ot w = true := by decide +kernel
theorem vxn_0_80 : ∀ w ∈ (vx_atE RX7 80 "java/lang/IllegalArgumentException" gThr).filter (fun w => !goodWord w), w ∈ Cond.castable "java/lang/IllegalArgumentException" "java/lang/IllegalArgumentException" :: gDE.map Cond.declares := by decide +kernel

theorem vxo_1_91 : ∀ w ∈ Cond.classLink RX7 87 "java/lang/IllegalStateException" :: Cond.initialized "java/lang/IllegalStateException" :: vx_atE RX7 91 "java/lang/IllegalStateException" gThr, vx_ot w = true := by decide +kernel
theorem vxn_1_91 : ∀ w ∈ (vx_atE RX7 91 "java/lang/IllegalStateException" gThr).filter (fun w => !goodWord w), w ∈ Cond.castable "java/lang/IllegalStateException" "java/lang/IllegalStateException" :: gDE.map Cond.declares := by decide +kernel

theorem vxo_2_287 : ∀ w ∈ Cond.classLink RX7 283 "java/lang/IndexOutOfBoundsException" :: Cond.initialized "java/lang/IndexOutOfBoundsException" :: vx_atE RX7 287 "java/lang/IndexOutOfBoundsException" gThr, vx_ot w = true := by decide +kernel
theorem vxn_2_287 : ∀ w ∈ (vx_atE RX7 287 "java/lang/IndexOutOfBoundsException" gThr).filter (fun w => !goodWord w), w ∈ Cond.castable "java/lang/IndexOutOfBoundsException" "java/lang/IndexOutOfBoundsException" :: gDE.map Cond.declares := by decide +kernel

theorem vxo_3_144 : ∀ w ∈ Cond.classLink RX7 140 "java/lang/UnsupportedOperationException" :: Cond.initialized "java/lang/UnsupportedOperationException" :: vx_atE RX7 144 "java/lang/UnsupportedOperationException" gThr, vx_ot w = true := by decide +kernel
theorem vxn_3_144 : ∀ w ∈ (vx_atE RX7 144 "java/lang/UnsupportedOperationException" gThr).filter (fun w => !goodWord w), w ∈ Cond.castable "java/lang/UnsupportedOperationException" "java/lang/UnsupportedOperationException" :: gDE.map Cond.declares := by decide +kernel

theorem vxo_4_175 : ∀ w ∈ Cond.classLink RX7 171 "java/util/NoSuchElementException" :: Cond.initialized "java/util/NoSuchElementException" :: vx_atE RX7 175 "java/util/NoSuchElementException" gThr, vx_ot w = true := by decide +kernel
theorem vxn_4_175 : ∀ w ∈ (vx_atE RX7 175 "java/util/NoSuchElementException" gThr).filter (fun w => !goodWord w), w ∈ Cond.castable "java/util/NoSuchElementException" "java/util/NoSuchElementException" :: gDE.map Cond.declares := by decide +kernel

theorem ds_X7_checkUser : yX7_checkUser.cls ≠ "java/lang/invoke/MethodHandle" ∧ yX7_checkUser.cls ≠ "java/lang/invoke/VarHandle" ∧ (parseMethodDescriptor yX7_checkUser.desc).map (fun d => d.parameters.length) = some 1 := by decide +kernel
def rX7_checkUser : Room := { frames := 6, cells := 1, slots := 6, locals := 82 }
set_option maxHeartbeats 4000000 in
set_option maxRecDepth 100000 in
theorem k_X7_checkUser {l : Launch} (hfl : l.stackTraces = false) {Z : gZ} {B : gB} {C0 : gC} {a : Int} (ra : zr a) : vx_Met l yX7_checkUser wsX7_checkUser rX7_checkUser (gPc Z B C0 [.int (zI a)]) (gQv Z B (fun C1 => (0 ≤ a ∧ a < 5) ∧ C1 = C0)) (gXC Z B (fun E C1 => E = "java/lang/IndexOutOfBoundsException" ∧ ¬ (0 ≤ a ∧ a < 5) ∧ C1 = C0)) 1 6 (gA Z) := by
  refine g_ofVx (cc := cX7_checkUser) (maxL := 1) hfl (by decide) rfl rfl (Nat.le_of_ble_eq_true rfl) (Nat.le_of_ble_eq_true rfl) (Nat.le_of_ble_eq_true rfl) (Nat.le_of_ble_eq_true rfl) (Nat.le_of_ble_eq_true rfl) ?_
  intro p e s m args below meth c Q X kret ko kt hW hS ls hl
  have hx := X.1.1
  have hb := X.1.2.1
  have hts := X.1.2.2.2.2
  have hl : lv_has ls 1 [(0, .int (zI a))] := hl
  refine lv_iload_n hx hb dX7_checkUser_0 rfl (lv_at hl 0 rfl) ?_
  refine z_if_lt (tgt := 9) hx hb dX7_checkUser_1 (by decide) (ra) (fun h_1 => ?_) (fun h_1 => ?_)
  · exact kt "java/lang/IndexOutOfBoundsException" "no such user" 283 297 287 _ _ _ _ _ _ _ _ (⟨rfl, by omega, rfl⟩) hW hS hl ex_2 st_18 (by decide +kernel) (List.mem_of_getElem? (i := 1) rfl) (List.mem_of_getElem? (i := 2) rfl) (fun w hw => List.mem_cons_of_mem _ (List.mem_append_right _ hw)) vxo_2_287 vxn_2_287 (Nat.le_of_ble_eq_true rfl) (Nat.le_of_ble_eq_true rfl) dX7_checkUser_9 dX7_checkUser_12 (Or.inr ⟨dX7_checkUser_13, dX7_checkUser_16, dX7_checkUser_19⟩)
  · refine lv_iload_n hx hb dX7_checkUser_4 rfl (lv_at hl 0 rfl) ?_
    refine lv_iconst (v := zI (5)) hx hb dX7_checkUser_5 rfl ?_
    refine z_icmp_lt (tgt := 20) hx hb dX7_checkUser_6 (by decide) (ra) (⟨by omega, by omega⟩) (fun h_6 => ?_) (fun h_6 => ?_)
    · exact kret _ _ _ _ _ _ _ (⟨by omega, rfl⟩) hW hS (Nat.le_of_ble_eq_true rfl) (Nat.le_of_ble_eq_true rfl) dX7_checkUser_20
    · exact kt "java/lang/IndexOutOfBoundsException" "no such user" 283 297 287 _ _ _ _ _ _ _ _ (⟨rfl, by omega, rfl⟩) hW hS hl ex_2 st_18 (by decide +kernel) (List.mem_of_getElem? (i := 1) rfl) (List.mem_of_getElem? (i := 2) rfl) (fun w hw => List.mem_cons_of_mem _ (List.mem_append_right _ hw)) vxo_2_287 vxn_2_287 (Nat.le_of_ble_eq_true rfl) (Nat.le_of_ble_eq_true rfl) dX7_checkUser_9 dX7_checkUser_12 (Or.inr ⟨dX7_checkUser_13, dX7_checkUser_16, dX7_checkUser_19⟩)

theorem ds_X7_checkContent : yX7_checkContent.cls ≠ "java/lang/invoke/MethodHandle" ∧ yX7_checkContent.cls ≠ "java/lang/invoke/VarHandle" ∧ (parseMethodDescriptor yX7_checkContent.desc).map (fun d => d.parameters.length) = some 1 := by decide +kernel
def rX7_checkContent : Room := { frames := 6, cells := 1, slots := 6, locals := 82 }
set_option maxHeartbeats 4000000 in
set_option maxRecDepth 100000 in
theorem k_X7_checkContent {l : Launch} (hfl : l.stackTraces = false) {Z : gZ} {B : gB} {C0 : gC} {a : Int} (ra : zr a) : vx_Met l yX7_checkContent wsX7_checkContent rX7_checkContent (gPc Z B C0 [.int (zI a)]) (gQv Z B (fun C1 => (0 ≤ a ∧ a < 100) ∧ C1 = C0)) (gXC Z B (fun E C1 => E = "java/lang/IllegalArgumentException" ∧ ¬ (0 ≤ a ∧ a < 100) ∧ C1 = C0)) 1 6 (gA Z) := by
  refine g_ofVx (cc := cX7_checkContent) (maxL := 1) hfl (by decide) rfl rfl (Nat.le_of_ble_eq_true rfl) (Nat.le_of_ble_eq_true rfl) (Nat.le_of_ble_eq_true rfl) (Nat.le_of_ble_eq_true rfl) (Nat.le_of_ble_eq_true rfl) ?_
  intro p e s m args below meth c Q X kret ko kt hW hS ls hl
  have hx := X.1.1
  have hb := X.1.2.1
  have hts := X.1.2.2.2.2
  have hl : lv_has ls 1 [(0, .int (zI a))] := hl
  refine lv_iload_n hx hb dX7_checkContent_0 rfl (lv_at hl 0 rfl) ?_
  refine z_if_lt (tgt := 10) hx hb dX7_checkContent_1 (by decide) (ra) (fun h_1 => ?_) (fun h_1 => ?_)
  · exact kt "java/lang/IllegalArgumentException" "no such content" 76 299 80 _ _ _ _ _ _ _ _ (⟨rfl, by omega, rfl⟩) hW hS hl ex_0 st_19 (by decide +kernel) (List.mem_of_getElem? (i := 1) rfl) (List.mem_of_getElem? (i := 2) rfl) (fun w hw => List.mem_cons_of_mem _ (List.mem_append_right _ hw)) vxo_0_80 vxn_0_80 (Nat.le_of_ble_eq_true rfl) (Nat.le_of_ble_eq_true rfl) dX7_checkContent_10 dX7_checkContent_13 (Or.inr ⟨dX7_checkContent_14, dX7_checkContent_17, dX7_checkContent_20⟩)
  · refine lv_iload_n hx hb dX7_checkContent_4 rfl (lv_at hl 0 rfl) ?_
    refine lv_bipush (v := zI (100)) hx hb dX7_checkContent_5 (by decide) ?_
    refine z_icmp_lt (tgt := 21) hx hb dX7_checkContent_7 (by decide) (ra) (⟨by omega, by omega⟩) (fun h_7 => ?_) (fun h_7 => ?_)
    · exact kret _ _ _ _ _ _ _ (⟨by omega, rfl⟩) hW hS (Nat.le_of_ble_eq_true rfl) (Nat.le_of_ble_eq_true rfl) dX7_checkContent_21
    · exact kt "java/lang/IllegalArgumentException" "no such content" 76 299 80 _ _ _ _ _ _ _ _ (⟨rfl, by omega, rfl⟩) hW hS hl ex_0 st_19 (by decide +kernel) (List.mem_of_getElem? (i := 1) rfl) (List.mem_of_getElem? (i := 2) rfl) (fun w hw => List.mem_cons_of_mem _ (List.mem_append_right _ hw)) vxo_0_80 vxn_0_80 (Nat.le_of_ble_eq_true rfl) (Nat.le_of_ble_eq_true rfl) dX7_checkContent_10 dX7_checkContent_13 (Or.inr ⟨dX7_checkContent_14, dX7_checkContent_17, dX7_checkContent_20⟩)

theorem ds_X7_checkNotLanded : yX7_checkNotLanded.cls ≠ "java/lang/invoke/MethodHandle" ∧ yX7_checkNotLanded.cls ≠ "java/lang/invoke/VarHandle" ∧ (parseMethodDescriptor yX7_checkNotLanded.desc).map (fun d => d.parameters.length) = some 1 := by decide +kernel
theorem in_X7_checkNotLanded_1 : ∀ w ∈ wsX10, w ∈ wsX7_checkNotLanded := by decide +kernel
def rX7_checkNotLanded : Room := { frames := 6, cells := 1, slots := 6, locals := 82 }
set_option maxHeartbeats 4000000 in
set_option maxRecDepth 100000 in
theorem k_X7_checkNotLanded {l : Launch} (hfl : l.stackTraces = false) {Z : gZ} {B : gB} {C0 : gC} {S : gS} {T : gTx} {i : Nat} (hcs : cs Z B C0 S T) (hwf : wf S T) (hi : i < S 0 0) : vx_Met l yX7_checkNotLanded wsX7_checkNotLanded rX7_checkNotLanded (gPc Z B C0 [.ref (B 40 i)]) (gQv Z B (fun C1 => (S 5 i = 0) ∧ C1 = C0)) (gXC Z B (fun E C1 => E = "java/lang/IllegalStateException" ∧ ¬ (S 5 i = 0) ∧ C1 = C0)) 1 6 (gA Z) := by
  refine g_ofVx (cc := cX7_checkNotLanded) (maxL := 1) hfl (by decide) rfl rfl (Nat.le_of_ble_eq_true rfl) (Nat.le_of_ble_eq_true rfl) (Nat.le_of_ble_eq_true rfl) (Nat.le_of_ble_eq_true rfl) (Nat.le_of_ble_eq_true rfl) ?_
  intro p e s m args below meth c Q X kret ko kt hW hS ls hl
  have hx := X.1.1
  have hb := X.1.2.1
  have hts := X.1.2.2.2.2
  have hl : lv_has ls 1 [(0, .ref (B 40 i))] := hl
  obtain ⟨hc0, hc1, hc2, ⟨f45, hc3, hc3a, hc3b⟩, hc4, hc4n, hc5, F50, hc6, hc6a⟩ := id (cs.ch hcs hi)
  have hwi := hwf.ch hi
  refine lv_aload_n hx hb dX7_checkNotLanded_0 rfl (lv_at hl 0 rfl) ?_
  refine g_getN (ci := 1) X in_X7_checkNotLanded_1 rfl hW hc0 8 (by decide) _ nf_8 rfl rfl dX7_checkNotLanded_1 ?_
  refine z_if_eq (tgt := 18) hx hb dX7_checkNotLanded_4 (by decide) (⟨by omega, by omega⟩) (fun h_4 => ?_) (fun h_4 => ?_)
  · exact kret _ _ _ _ _ _ _ (⟨by omega, rfl⟩) hW hS (Nat.le_of_ble_eq_true rfl) (Nat.le_of_ble_eq_true rfl) dX7_checkNotLanded_18
  · exact kt "java/lang/IllegalStateException" "the change has landed" 87 304 91 _ _ _ _ _ _ _ _ (⟨rfl, by omega, rfl⟩) hW hS hl ex_1 st_20 (by decide +kernel) (List.mem_of_getElem? (i := 1) rfl) (List.mem_of_getElem? (i := 2) rfl) (fun w hw => List.mem_cons_of_mem _ (List.mem_append_right _ hw)) vxo_1_91 vxn_1_91 (Nat.le_of_ble_eq_true rfl) (Nat.le_of_ble_eq_true rfl) dX7_checkNotLanded_7 dX7_checkNotLanded_10 (Or.inr ⟨dX7_checkNotLanded_11, dX7_checkNotLanded_14, dX7_checkNotLanded_17⟩)

theorem ds_X7_checkHasRound : yX7_checkHasRound.cls ≠ "java/lang/invoke/MethodHandle" ∧ yX7_checkHasRound.cls ≠ "java/lang/invoke/VarHandle" ∧ (parseMethodDescriptor yX7_checkHasRound.desc).map (fun d => d.parameters.length) = some 1 := by decide +kernel
theorem in_X7_checkHasRound_1 : ∀ w ∈ wsX10, w ∈ wsX7_checkHasRound := by decide +kernel
def rX7_checkHasRound : Room := { frames := 6, cells := 1, slots := 6, locals := 82 }
set_option maxHeartbeats 4000000 in
set_option maxRecDepth 100000 in
theorem k_X7_checkHasRound {l : Launch} (hfl : l.stackTraces = false) {Z : gZ} {B : gB} {C0 : gC} {S : gS} {T : gTx} {i : Nat} (hcs : cs Z B C0 S T) (hwf : wf S T) (hi : i < S 0 0) : vx_Met l yX7_checkHasRound wsX7_checkHasRound rX7_checkHasRound (gPc Z B C0 [.ref (B 40 i)]) (gQv Z B (fun C1 => (0 < S 2 i) ∧ C1 = C0)) (gXC Z B (fun E C1 => E = "java/util/NoSuchElementException" ∧ ¬ (0 < S 2 i) ∧ C1 = C0)) 1 6 (gA Z) := by
  refine g_ofVx (cc := cX7_checkHasRound) (maxL := 1) hfl (by decide) rfl rfl (Nat.le_of_ble_eq_true rfl) (Nat.le_of_ble_eq_true rfl) (Nat.le_of_ble_eq_true rfl) (Nat.le_of_ble_eq_true rfl) (Nat.le_of_ble_eq_true rfl) ?_
  intro p e s m args below meth c Q X kret ko kt hW hS ls hl
  have hx := X.1.1
  have hb := X.1.2.1
  have hts := X.1.2.2.2.2
  have hl : lv_has ls 1 [(0, .ref (B 40 i))] := hl
  obtain ⟨hc0, hc1, hc2, ⟨f45, hc3, hc3a, hc3b⟩, hc4, hc4n, hc5, F50, hc6, hc6a⟩ := id (cs.ch hcs hi)
  have hwi := hwf.ch hi
  refine lv_aload_n hx hb dX7_checkHasRound_0 rfl (lv_at hl 0 rfl) ?_
  refine g_getN (ci := 1) X in_X7_checkHasRound_1 rfl hW hc0 6 (by decide) _ nf_1 rfl rfl dX7_checkHasRound_1 ?_
  refine z_if_ne (tgt := 18) hx hb dX7_checkHasRound_4 (by decide) (⟨by omega, by omega⟩) (fun h_4 => ?_) (fun h_4 => ?_)
  · exact kret _ _ _ _ _ _ _ (⟨by omega, rfl⟩) hW hS (Nat.le_of_ble_eq_true rfl) (Nat.le_of_ble_eq_true rfl) dX7_checkHasRound_18
  · exact kt "java/util/NoSuchElementException" "the change has no round" 171 306 175 _ _ _ _ _ _ _ _ (⟨rfl, by omega, rfl⟩) hW hS hl ex_4 st_21 (by decide +kernel) (List.mem_of_getElem? (i := 1) rfl) (List.mem_of_getElem? (i := 2) rfl) (fun w hw => List.mem_cons_of_mem _ (List.mem_append_right _ hw)) vxo_4_175 vxn_4_175 (Nat.le_of_ble_eq_true rfl) (Nat.le_of_ble_eq_true rfl) dX7_checkHasRound_7 dX7_checkHasRound_10 (Or.inr ⟨dX7_checkHasRound_11, dX7_checkHasRound_14, dX7_checkHasRound_17⟩)

theorem ds_X7_checkRound : yX7_checkRound.cls ≠ "java/lang/invoke/MethodHandle" ∧ yX7_checkRound.cls ≠ "java/lang/invoke/VarHandle" ∧ (parseMethodDescriptor yX7_checkRound.desc).map (fun d => d.parameters.length) = some 2 := by decide +kernel
theorem in_X7_checkRound_1 : ∀ w ∈ wsX10, w ∈ wsX7_checkRound := by decide +kernel
def rX7_checkRound : Room := { frames := 6, cells := 1, slots := 6, locals := 82 }
set_option maxHeartbeats 4000000 in
set_option maxRecDepth 100000 in
theorem k_X7_checkRound {l : Launch} (hfl : l.stackTraces = false) {Z : gZ} {B : gB} {C0 : gC} {S : gS} {T : gTx} {i : Nat} {a : Int} (hcs : cs Z B C0 S T) (hwf : wf S T) (hi : i < S 0 0) (ra : zr a) : vx_Met l yX7_checkRound wsX7_checkRound rX7_checkRound (gPc Z B C0 [.ref (B 40 i), .int (zI a)]) (gQv Z B (fun C1 => (0 ≤ a ∧ a < S 2 i) ∧ C1 = C0)) (gXC Z B (fun E C1 => E = "java/util/NoSuchElementException" ∧ ¬ (0 ≤ a ∧ a < S 2 i) ∧ C1 = C0)) 1 6 (gA Z) := by
  refine g_ofVx (cc := cX7_checkRound) (maxL := 2) hfl (by decide) rfl rfl (Nat.le_of_ble_eq_true rfl) (Nat.le_of_ble_eq_true rfl) (Nat.le_of_ble_eq_true rfl) (Nat.le_of_ble_eq_true rfl) (Nat.le_of_ble_eq_true rfl) ?_
  intro p e s m args below meth c Q X kret ko kt hW hS ls hl
  have hx := X.1.1
  have hb := X.1.2.1
  have hts := X.1.2.2.2.2
  have hl : lv_has ls 2 [(0, .ref (B 40 i)), (1, .int (zI a))] := hl
  obtain ⟨hc0, hc1, hc2, ⟨f45, hc3, hc3a, hc3b⟩, hc4, hc4n, hc5, F50, hc6, hc6a⟩ := id (cs.ch hcs hi)
  have hwi := hwf.ch hi
  refine lv_iload_n hx hb dX7_checkRound_0 rfl (lv_at hl 1 rfl) ?_
  refine z_if_lt (tgt := 12) hx hb dX7_checkRound_1 (by decide) (ra) (fun h_1 => ?_) (fun h_1 => ?_)
  · exact kt "java/util/NoSuchElementException" "the change has no such round" 171 308 175 _ _ _ _ _ _ _ _ (⟨rfl, by omega, rfl⟩) hW hS hl ex_4 st_22 (by decide +kernel) (List.mem_of_getElem? (i := 1) rfl) (List.mem_of_getElem? (i := 2) rfl) (fun w hw => List.mem_cons_of_mem _ (List.mem_append_right _ hw)) vxo_4_175 vxn_4_175 (Nat.le_of_ble_eq_true rfl) (Nat.le_of_ble_eq_true rfl) dX7_checkRound_12 dX7_checkRound_15 (Or.inr ⟨dX7_checkRound_16, dX7_checkRound_19, dX7_checkRound_22⟩)
  · refine lv_iload_n hx hb dX7_checkRound_4 rfl (lv_at hl 1 rfl) ?_
    refine lv_aload_n hx hb dX7_checkRound_5 rfl (lv_at hl 0 rfl) ?_
    refine g_getN (ci := 1) X in_X7_checkRound_1 rfl hW hc0 6 (by decide) _ nf_1 rfl rfl dX7_checkRound_6 ?_
    refine z_icmp_lt (tgt := 23) hx hb dX7_checkRound_9 (by decide) (ra) (⟨by omega, by omega⟩) (fun h_9 => ?_) (fun h_9 => ?_)
    · exact kret _ _ _ _ _ _ _ (⟨by omega, rfl⟩) hW hS (Nat.le_of_ble_eq_true rfl) (Nat.le_of_ble_eq_true rfl) dX7_checkRound_23
    · exact kt "java/util/NoSuchElementException" "the change has no such round" 171 308 175 _ _ _ _ _ _ _ _ (⟨rfl, by omega, rfl⟩) hW hS hl ex_4 st_22 (by decide +kernel) (List.mem_of_getElem? (i := 1) rfl) (List.mem_of_getElem? (i := 2) rfl) (fun w hw => List.mem_cons_of_mem _ (List.mem_append_right _ hw)) vxo_4_175 vxn_4_175 (Nat.le_of_ble_eq_true rfl) (Nat.le_of_ble_eq_true rfl) dX7_checkRound_12 dX7_checkRound_15 (Or.inr ⟨dX7_checkRound_16, dX7_checkRound_19, dX7_checkRound_22⟩)

theorem ds_X7_checkLine : yX7_checkLine.cls ≠ "java/lang/invoke/MethodHandle" ∧ yX7_checkLine.cls ≠ "java/lang/invoke/VarHandle" ∧ (parseMethodDescriptor yX7_checkLine.desc).map (fun d => d.parameters.length) = some 2 := by decide +kernel
def rX7_checkLine : Room := { frames := 6, cells := 1, slots := 6, locals := 82 }
set_option maxHeartbeats 4000000 in
set_option maxRecDepth 100000 in
theorem k_X7_checkLine {l : Launch} (hfl : l.stackTraces = false) {Z : gZ} {B : gB} {C0 : gC} {k i : Nat} {t : List Int} {a : Int} (ht : tx Z B C0 k i t) (ra : zr a) : vx_Met l yX7_checkLine wsX7_checkLine rX7_checkLine (gPc Z B C0 [.ref (B k i), .int (zI a)]) (gQv Z B (fun C1 => (0 ≤ a ∧ a < (t.length : Int)) ∧ C1 = C0)) (gXC Z B (fun E C1 => E = "java/util/NoSuchElementException" ∧ ¬ (0 ≤ a ∧ a < (t.length : Int)) ∧ C1 = C0)) 1 6 (gA Z) := by
  refine g_ofVx (cc := cX7_checkLine) (maxL := 2) hfl (by decide) rfl rfl (Nat.le_of_ble_eq_true rfl) (Nat.le_of_ble_eq_true rfl) (Nat.le_of_ble_eq_true rfl) (Nat.le_of_ble_eq_true rfl) (Nat.le_of_ble_eq_true rfl) ?_
  intro p e s m args below meth c Q X kret ko kt hW hS ls hl
  have hx := X.1.1
  have hb := X.1.2.1
  have hts := X.1.2.2.2.2
  have hl : lv_has ls 2 [(0, .ref (B k i)), (1, .int (zI a))] := hl
  refine lv_aload_n hx hb dX7_checkLine_0 rfl (lv_at hl 0 rfl) ?_
  refine lv_iload_n hx hb dX7_checkLine_1 rfl (lv_at hl 1 rfl) ?_
  refine g_ci (g_runV X (k_X5_has (t := t) ht (a := a) (ra)) (cwV 1 hts gX7_checkLine_X5_has rfl rfl rfl ⟨rfl, ds_X5_has⟩ ⟨Nat.le_of_ble_eq_true rfl, Nat.le_of_ble_eq_true rfl⟩) hW hS ht.2.2.1 rfl rfl hl.1 rfl (Nat.le_of_ble_eq_true rfl) dX7_checkLine_2 ⟨Nat.le_of_ble_eq_true rfl, Nat.le_of_ble_eq_true rfl⟩) hS (fun r3 C1 H locs hp2 hW hS => ?_)
  obtain ⟨rfl, ehp2⟩ := hp2
  rw [ehp2] at hW
  refine z_ifb_ne (tgt := 19) hx hb dX7_checkLine_5 (by decide) (fun h_5 => ?_) (fun h_5 => ?_)
  · exact kret _ _ _ _ _ _ _ (⟨h_5, rfl⟩) hW hS (Nat.le_of_ble_eq_true rfl) (Nat.le_of_ble_eq_true rfl) dX7_checkLine_19
  · exact kt "java/util/NoSuchElementException" "no such line" 171 310 175 _ _ _ _ _ _ _ _ (⟨rfl, h_5, rfl⟩) hW hS hl ex_4 st_23 (by decide +kernel) (List.mem_of_getElem? (i := 1) rfl) (List.mem_of_getElem? (i := 2) rfl) (fun w hw => List.mem_cons_of_mem _ (List.mem_append_right _ hw)) vxo_4_175 vxn_4_175 (Nat.le_of_ble_eq_true rfl) (Nat.le_of_ble_eq_true rfl) dX7_checkLine_8 dX7_checkLine_11 (Or.inr ⟨dX7_checkLine_12, dX7_checkLine_15, dX7_checkLine_18⟩)

theorem ds_X7_checkApproved : yX7_checkApproved.cls ≠ "java/lang/invoke/MethodHandle" ∧ yX7_checkApproved.cls ≠ "java/lang/invoke/VarHandle" ∧ (parseMethodDescriptor yX7_checkApproved.desc).map (fun d => d.parameters.length) = some 2 := by decide +kernel
def rX7_checkApproved : Room := { frames := 6, cells := 1, slots := 6, locals := 82 }
set_option maxHeartbeats 4000000 in
set_option maxRecDepth 100000 in
theorem k_X7_checkApproved {l : Launch} (hfl : l.stackTraces = false) {Z : gZ} {B : gB} {C0 : gC} {S : gS} {T : gTx} {i : Nat} {a : Int} (hcs : cs Z B C0 S T) (hwf : wf S T) (hi : i < S 0 0) (ha : 0 ≤ a ∧ a < 5) : vx_Met l yX7_checkApproved wsX7_checkApproved rX7_checkApproved (gPc Z B C0 [.ref (B 40 i), .int (zI a)]) (gQv Z B (fun C1 => (1 ≤ S 7 (5 * i + a.toNat)) ∧ C1 = C0)) (gXC Z B (fun E C1 => E = "java/util/NoSuchElementException" ∧ ¬ (1 ≤ S 7 (5 * i + a.toNat)) ∧ C1 = C0)) 1 6 (gA Z) := by
  refine g_ofVx (cc := cX7_checkApproved) (maxL := 2) hfl (by decide) rfl rfl (Nat.le_of_ble_eq_true rfl) (Nat.le_of_ble_eq_true rfl) (Nat.le_of_ble_eq_true rfl) (Nat.le_of_ble_eq_true rfl) (Nat.le_of_ble_eq_true rfl) ?_
  intro p e s m args below meth c Q X kret ko kt hW hS ls hl
  have hx := X.1.1
  have hb := X.1.2.1
  have hts := X.1.2.2.2.2
  have hl : lv_has ls 2 [(0, .ref (B 40 i)), (1, .int (zI a))] := hl
  obtain ⟨hc0, hc1, hc2, ⟨f45, hc3, hc3a, hc3b⟩, hc4, hc4n, hc5, F50, hc6, hc6a⟩ := id (cs.ch hcs hi)
  have hwi := hwf.ch hi
  refine lv_aload_n hx hb dX7_checkApproved_0 rfl (lv_at hl 0 rfl) ?_
  refine lv_iload_n hx hb dX7_checkApproved_1 rfl (lv_at hl 1 rfl) ?_
  refine g_ci (g_runV X (k_X1_isApprovedBy (a := a) hcs hwf hi (ha)) (cwV 1 hts gX7_checkApproved_X1_isApprovedBy rfl rfl rfl ⟨rfl, ds_X1_isApprovedBy⟩ ⟨Nat.le_of_ble_eq_true rfl, Nat.le_of_ble_eq_true rfl⟩) hW hS hc0 rfl rfl hl.1 rfl (Nat.le_of_ble_eq_true rfl) dX7_checkApproved_2 ⟨Nat.le_of_ble_eq_true rfl, Nat.le_of_ble_eq_true rfl⟩) hS (fun r3 C1 H locs hp2 hW hS => ?_)
  obtain ⟨rfl, ehp2⟩ := hp2
  rw [ehp2] at hW
  refine z_ifb_ne (tgt := 19) hx hb dX7_checkApproved_5 (by decide) (fun h_5 => ?_) (fun h_5 => ?_)
  · exact kret _ _ _ _ _ _ _ (⟨h_5, rfl⟩) hW hS (Nat.le_of_ble_eq_true rfl) (Nat.le_of_ble_eq_true rfl) dX7_checkApproved_19
  · exact kt "java/util/NoSuchElementException" "the user has not approved the change" 171 312 175 _ _ _ _ _ _ _ _ (⟨rfl, h_5, rfl⟩) hW hS hl ex_4 st_24 (by decide +kernel) (List.mem_of_getElem? (i := 1) rfl) (List.mem_of_getElem? (i := 2) rfl) (fun w hw => List.mem_cons_of_mem _ (List.mem_append_right _ hw)) vxo_4_175 vxn_4_175 (Nat.le_of_ble_eq_true rfl) (Nat.le_of_ble_eq_true rfl) dX7_checkApproved_8 dX7_checkApproved_11 (Or.inr ⟨dX7_checkApproved_12, dX7_checkApproved_15, dX7_checkApproved_18⟩)

theorem ds_X7_checkPlaceAsked : yX7_checkPlaceAsked.cls ≠ "java/lang/invoke/MethodHandle" ∧ yX7_checkPlaceAsked.cls ≠ "java/lang/invoke/VarHandle" ∧ (parseMethodDescriptor yX7_checkPlaceAsked.desc).map (fun d => d.parameters.length) = some 2 := by decide +kernel
theorem in_X7_checkPlaceAsked_3 : ∀ w ∈ wsX30, w ∈ wsX7_checkPlaceAsked := by decide +kernel
def rX7_checkPlaceAsked : Room := { frames := 7, cells := 2, slots := 12, locals := 103 }
set_option maxHeartbeats 4000000 in
set_option maxRecDepth 100000 in
theorem k_X7_checkPlaceAsked {l : Launch} (hfl : l.stackTraces = false) {Z : gZ} {B : gB} {C0 : gC} {S : gS} {T : gTx} {q : Nat} {a : Int} (hcs : cs Z B C0 S T) (hwf : wf S T) (hq : q < S 0 2) (ra : zr a) : vx_Met l yX7_checkPlaceAsked wsX7_checkPlaceAsked rX7_checkPlaceAsked (gPc Z B C0 [.ref (B 60 q), .int (zI a)]) (gQv Z B (fun C1 => ((S 12 q : Int) ≤ a ∧ a < (S 2 (S 11 q) : Int)) ∧ C1 = C0)) (gXC Z B (fun E C1 => E = "java/util/NoSuchElementException" ∧ ¬ ((S 12 q : Int) ≤ a ∧ a < (S 2 (S 11 q) : Int)) ∧ C1 = C0)) 2 12 (gA Z) := by
  refine g_ofVx (cc := cX7_checkPlaceAsked) (maxL := 2) hfl (by decide) rfl rfl (Nat.le_of_ble_eq_true rfl) (Nat.le_of_ble_eq_true rfl) (Nat.le_of_ble_eq_true rfl) (Nat.le_of_ble_eq_true rfl) (Nat.le_of_ble_eq_true rfl) ?_
  intro p e s m args below meth c Q X kret ko kt hW hS ls hl
  have hx := X.1.1
  have hb := X.1.2.1
  have hts := X.1.2.2.2.2
  have hl : lv_has ls 2 [(0, .ref (B 60 q)), (1, .int (zI a))] := hl
  have hr0 := hcs.2.2.2.2.2.2.2.1 q hq
  have hwq := hwf.rm hq
  have hio := hwq.1
  have hwo := hwf.ch hio
  refine lv_aload_n hx hb dX7_checkPlaceAsked_0 rfl (lv_at hl 0 rfl) ?_
  refine g_getN (ci := 3) X in_X7_checkPlaceAsked_3 rfl hW hr0 0 (by decide) _ nf_5 rfl rfl dX7_checkPlaceAsked_1 ?_
  refine lv_iload_n hx hb dX7_checkPlaceAsked_4 rfl (lv_at hl 1 rfl) ?_
  refine g_cvx (g_runSx X (k_X7_checkRound hfl (a := a) hcs hwf hio (ra)) (va_cwS 2 hts gX7_checkPlaceAsked_X7_checkRound rfl rfl rfl ds_X7_checkRound ⟨Nat.le_of_ble_eq_true rfl, Nat.le_of_ble_eq_true rfl⟩) hW hS rfl hl.1 rfl (Nat.le_of_ble_eq_true rfl) dX7_checkPlaceAsked_5 ⟨Nat.le_of_ble_eq_true rfl, Nat.le_of_ble_eq_true rfl⟩) hS (fun E9 ce9 q9 C9 H9 locs9 hp9 hW9 hS9 e1 e2 e3 => ko E9 ce9 q9 C9 H9 locs9 _ _ _ _ _ (⟨hp9.1, fun z => hp9.2.1 ⟨by omega, by omega⟩, hp9.2.2⟩) hW9 hS9 e1 e2 e3 (Nat.le_of_ble_eq_true rfl) (Nat.le_of_ble_eq_true rfl)) (fun C1 H locs hp2 hW hS => ?_)
  obtain ⟨hk3, ehp2⟩ := hp2
  rw [ehp2] at hW
  refine lv_iload_n hx hb dX7_checkPlaceAsked_8 rfl (lv_at hl 1 rfl) ?_
  refine lv_aload_n hx hb dX7_checkPlaceAsked_9 rfl (lv_at hl 0 rfl) ?_
  refine g_getN (ci := 3) X in_X7_checkPlaceAsked_3 rfl hW hr0 1 (by decide) _ nf_9 rfl rfl dX7_checkPlaceAsked_10 ?_
  refine z_icmp_ge (tgt := 27) hx hb dX7_checkPlaceAsked_13 (by decide) (ra) (⟨by omega, by omega⟩) (fun h_13 => ?_) (fun h_13 => ?_)
  · exact kret _ _ _ _ _ _ _ (⟨by omega, rfl⟩) hW hS (Nat.le_of_ble_eq_true rfl) (Nat.le_of_ble_eq_true rfl) dX7_checkPlaceAsked_27
  · exact kt "java/util/NoSuchElementException" "the comment was made in a later round" 171 317 175 _ _ _ _ _ _ _ _ (⟨rfl, by omega, rfl⟩) hW hS hl ex_4 st_25 (by decide +kernel) (List.mem_of_getElem? (i := 1) rfl) (List.mem_of_getElem? (i := 2) rfl) (fun w hw => List.mem_cons_of_mem _ (List.mem_append_right _ hw)) vxo_4_175 vxn_4_175 (Nat.le_of_ble_eq_true rfl) (Nat.le_of_ble_eq_true rfl) dX7_checkPlaceAsked_16 dX7_checkPlaceAsked_19 (Or.inr ⟨dX7_checkPlaceAsked_20, dX7_checkPlaceAsked_23, dX7_checkPlaceAsked_26⟩)

theorem ds_X7_placeOrThrow : yX7_placeOrThrow.cls ≠ "java/lang/invoke/MethodHandle" ∧ yX7_placeOrThrow.cls ≠ "java/lang/invoke/VarHandle" ∧ (parseMethodDescriptor yX7_placeOrThrow.desc).map (fun d => d.parameters.length) = some 1 := by decide +kernel
def rX7_placeOrThrow : Room := { frames := 6, cells := 1, slots := 6, locals := 82 }
set_option maxHeartbeats 4000000 in
set_option maxRecDepth 100000 in
theorem k_X7_placeOrThrow {l : Launch} (hfl : l.stackTraces = false) {Z : gZ} {B : gB} {C0 : gC} {a : Int} (ra : zr a) : vx_Met l yX7_placeOrThrow wsX7_placeOrThrow rX7_placeOrThrow (gPc Z B C0 [.int (zI a)]) (gQi Z B (fun r C1 => (r = zI a ∧ ¬ a = -1) ∧ C1 = C0)) (gXC Z B (fun E C1 => E = "java/util/NoSuchElementException" ∧ a = -1 ∧ C1 = C0)) 1 6 (gA Z) := by
  refine g_ofIx (cc := cX7_placeOrThrow) (maxL := 1) hfl (by decide) rfl rfl (Nat.le_of_ble_eq_true rfl) (Nat.le_of_ble_eq_true rfl) (Nat.le_of_ble_eq_true rfl) (Nat.le_of_ble_eq_true rfl) (Nat.le_of_ble_eq_true rfl) ?_
  intro p e s m args below meth c Q X kret ko kt hW hS ls hl
  have hx := X.1.1
  have hb := X.1.2.1
  have hts := X.1.2.2.2.2
  have hl : lv_has ls 1 [(0, .int (zI a))] := hl
  refine lv_iload_n hx hb dX7_placeOrThrow_0 rfl (lv_at hl 0 rfl) ?_
  refine lv_iconst (v := zI (-1)) hx hb dX7_placeOrThrow_1 rfl ?_
  refine z_icmp_ne (tgt := 16) hx hb dX7_placeOrThrow_2 (by decide) (ra) (⟨by omega, by omega⟩) (fun h_2 => ?_) (fun h_2 => ?_)
  · refine lv_iload_n hx hb dX7_placeOrThrow_16 rfl (lv_at hl 0 rfl) ?_
    exact kret _ _ _ _ _ _ _ _ (⟨⟨rfl, by omega⟩, rfl⟩) hW hS (Nat.le_of_ble_eq_true rfl) (Nat.le_of_ble_eq_true rfl) dX7_placeOrThrow_17
  · exact kt "java/util/NoSuchElementException" "the comment is gone" 171 319 175 _ _ _ _ _ _ _ _ (⟨rfl, by omega, rfl⟩) hW hS hl ex_4 st_26 (by decide +kernel) (List.mem_of_getElem? (i := 1) rfl) (List.mem_of_getElem? (i := 2) rfl) (fun w hw => List.mem_cons_of_mem _ (List.mem_append_right _ hw)) vxo_4_175 vxn_4_175 (Nat.le_of_ble_eq_true rfl) (Nat.le_of_ble_eq_true rfl) dX7_placeOrThrow_5 dX7_placeOrThrow_8 (Or.inr ⟨dX7_placeOrThrow_9, dX7_placeOrThrow_12, dX7_placeOrThrow_15⟩)

theorem ds_X7_changeOf : yX7_changeOf.cls ≠ "java/lang/invoke/MethodHandle" ∧ yX7_changeOf.cls ≠ "java/lang/invoke/VarHandle" ∧ (parseMethodDescriptor yX7_changeOf.desc).map (fun d => d.parameters.length) = some 1 := by decide +kernel
theorem in_X7_changeOf_7 : ∀ w ∈ wsX70, w ∈ wsX7_changeOf := by decide +kernel
def rX7_changeOf : Room := { frames := 6, cells := 1, slots := 6, locals := 82 }
set_option maxHeartbeats 4000000 in
set_option maxRecDepth 100000 in
theorem k_X7_changeOf {l : Launch} (hfl : l.stackTraces = false) {Z : gZ} {B : gB} {C0 : gC} {S : gS} {T : gTx} {a : Int} (hcs : cs Z B C0 S T) (hwf : wf S T) (ra : zr a) : vx_Met l yX7_changeOf wsX7_changeOf rX7_changeOf (gPc Z B C0 [.ref (B 0 0), .int (zI a)]) (gQr Z B (fun r1 C1 => ((0 ≤ a ∧ a < (S 0 0 : Int)) ∧ r1 = B 40 a.toNat) ∧ C1 = C0)) (gXC Z B (fun E C1 => E = "java/lang/IndexOutOfBoundsException" ∧ ¬ (0 ≤ a ∧ a < (S 0 0 : Int)) ∧ C1 = C0)) 1 6 (gA Z) := by
  refine g_ofRx (cc := cX7_changeOf) (maxL := 3) hfl (by decide) rfl rfl (Nat.le_of_ble_eq_true rfl) ⟨_, rfl⟩ (Nat.le_of_ble_eq_true rfl) (Nat.le_of_ble_eq_true rfl) (Nat.le_of_ble_eq_true rfl) (Nat.le_of_ble_eq_true rfl) ?_
  intro p e s m args below meth c Q X kret ko kt hW hS ls hl
  have hx := X.1.1
  have hb := X.1.2.1
  have hts := X.1.2.2.2.2
  have hl : lv_has ls 3 [(0, .ref (B 0 0)), (1, .int (zI a))] := hl
  obtain ⟨hb0, hb1, ⟨F3, hb3, hb3a⟩, ⟨f4, hb4, hb4a, hb4b⟩, ⟨f5, hb5, hb5a, hb5b⟩, ⟨F6, hb6, hb6a⟩, hb7, hb8, hb9, hb10, hb11⟩ := id hcs
  have hwn := hwf.n
  refine lv_iload_n hx hb dX7_changeOf_0 rfl (lv_at hl 1 rfl) ?_
  refine z_if_lt (tgt := 22) hx hb dX7_changeOf_1 (by decide) (ra) (fun h_1 => ?_) (fun h_1 => ?_)
  · refine lv_null hx hb dX7_changeOf_22 ?_
    refine lv_astore_nN (lv' := [(2, .null), (0, .ref (B 0 0)), (1, .int (zI a))]) hx hb dX7_changeOf_23 rfl hl (by decide) rfl (fun ls hl => ?_)
    refine lv_aload_nN hx hb dX7_changeOf_24 rfl (lv_at hl 0 rfl) ?_
    refine lv_ifnonnullN hx hb dX7_changeOf_25 ?_
    exact kt "java/lang/IndexOutOfBoundsException" "no such change" 283 285 287 _ _ _ _ _ _ _ _ (⟨rfl, by omega, rfl⟩) hW hS hl ex_2 st_16 (by decide +kernel) (List.mem_of_getElem? (i := 1) rfl) (List.mem_of_getElem? (i := 2) rfl) (fun w hw => List.mem_cons_of_mem _ (List.mem_append_right _ hw)) vxo_2_287 vxn_2_287 (Nat.le_of_ble_eq_true rfl) (Nat.le_of_ble_eq_true rfl) dX7_changeOf_28 dX7_changeOf_31 (Or.inr ⟨dX7_changeOf_32, dX7_changeOf_35, dX7_changeOf_38⟩)
  · refine lv_iload_n hx hb dX7_changeOf_4 rfl (lv_at hl 1 rfl) ?_
    refine lv_aload_n hx hb dX7_changeOf_5 rfl (lv_at hl 0 rfl) ?_
    refine g_get (ci := 7) X in_X7_changeOf_7 rfl hW hb0 3 (by decide) (hts _ (List.mem_of_getElem? (i := 3) rfl)) rfl dX7_changeOf_6 ?_
    refine z_alen (t := 1) X hW hb4 rfl dX7_changeOf_9 ?_
    refine z_icmp_ge (tgt := 22) hx hb dX7_changeOf_10 (by decide) (ra) (⟨by omega, by omega⟩) (fun h_10 => ?_) (fun h_10 => ?_)
    · refine lv_null hx hb dX7_changeOf_22 ?_
      refine lv_astore_nN (lv' := [(2, .null), (0, .ref (B 0 0)), (1, .int (zI a))]) hx hb dX7_changeOf_23 rfl hl (by decide) rfl (fun ls hl => ?_)
      refine lv_aload_nN hx hb dX7_changeOf_24 rfl (lv_at hl 0 rfl) ?_
      refine lv_ifnonnullN hx hb dX7_changeOf_25 ?_
      exact kt "java/lang/IndexOutOfBoundsException" "no such change" 283 285 287 _ _ _ _ _ _ _ _ (⟨rfl, by omega, rfl⟩) hW hS hl ex_2 st_16 (by decide +kernel) (List.mem_of_getElem? (i := 1) rfl) (List.mem_of_getElem? (i := 2) rfl) (fun w hw => List.mem_cons_of_mem _ (List.mem_append_right _ hw)) vxo_2_287 vxn_2_287 (Nat.le_of_ble_eq_true rfl) (Nat.le_of_ble_eq_true rfl) dX7_changeOf_28 dX7_changeOf_31 (Or.inr ⟨dX7_changeOf_32, dX7_changeOf_35, dX7_changeOf_38⟩)
    · refine lv_aload_n hx hb dX7_changeOf_13 rfl (lv_at hl 0 rfl) ?_
      refine g_get (ci := 7) X in_X7_changeOf_7 rfl hW hb0 3 (by decide) (hts _ (List.mem_of_getElem? (i := 3) rfl)) rfl dX7_changeOf_14 ?_
      refine lv_iload_n hx hb dX7_changeOf_17 rfl (lv_at hl 1 rfl) ?_
      refine z_aald (t := 1) X hW hb4 rfl (by omega) (by omega) (by omega) dX7_changeOf_18 ?_
      by_cases hin : a < (S 0 0 : Int)
      · rw [show va_rf (f4 (a).toNat) = .ref (B 40 a.toNat) from by rw [show f4 (a).toNat = some (B 40 a.toNat) from hb4a a.toNat (by omega)]; rfl]
        refine lv_goto (tgt := 23) hx hb dX7_changeOf_19 (by decide) ?_
        refine lv_astore_n (lv' := [(2, .ref (B 40 a.toNat)), (0, .ref (B 0 0)), (1, .int (zI a))]) hx hb dX7_changeOf_23 rfl hl (by decide) rfl (fun ls hl => ?_)
        refine lv_aload_n hx hb dX7_changeOf_24 rfl (lv_at hl 0 rfl) ?_
        refine lv_ifnonnull (tgt := 39) hx hb dX7_changeOf_25 (by decide) ?_
        refine lv_aload_n hx hb dX7_changeOf_39 rfl (lv_at hl 0 rfl) ?_
        exact kret _ _ _ _ _ _ _ _ (⟨⟨⟨by omega, by omega⟩, rfl⟩, rfl⟩) hW hS (Nat.le_of_ble_eq_true rfl) (Nat.le_of_ble_eq_true rfl) dX7_changeOf_40
      · rw [show va_rf (f4 (a).toNat) = .null from by rw [show f4 (a).toNat = none from hb4b a.toNat (by omega)]; rfl]
        refine lv_goto (tgt := 23) hx hb dX7_changeOf_19 (by decide) ?_
        refine lv_astore_nN (lv' := [(2, .null), (0, .ref (B 0 0)), (1, .int (zI a))]) hx hb dX7_changeOf_23 rfl hl (by decide) rfl (fun ls hl => ?_)
        refine lv_aload_nN hx hb dX7_changeOf_24 rfl (lv_at hl 0 rfl) ?_
        refine lv_ifnonnullN hx hb dX7_changeOf_25 ?_
        exact kt "java/lang/IndexOutOfBoundsException" "no such change" 283 285 287 _ _ _ _ _ _ _ _ (⟨rfl, by omega, rfl⟩) hW hS hl ex_2 st_16 (by decide +kernel) (List.mem_of_getElem? (i := 1) rfl) (List.mem_of_getElem? (i := 2) rfl) (fun w hw => List.mem_cons_of_mem _ (List.mem_append_right _ hw)) vxo_2_287 vxn_2_287 (Nat.le_of_ble_eq_true rfl) (Nat.le_of_ble_eq_true rfl) dX7_changeOf_28 dX7_changeOf_31 (Or.inr ⟨dX7_changeOf_32, dX7_changeOf_35, dX7_changeOf_38⟩)

theorem ds_X7_remarkOf : yX7_remarkOf.cls ≠ "java/lang/invoke/MethodHandle" ∧ yX7_remarkOf.cls ≠ "java/lang/invoke/VarHandle" ∧ (parseMethodDescriptor yX7_remarkOf.desc).map (fun d => d.parameters.length) = some 1 := by decide +kernel
theorem in_X7_remarkOf_7 : ∀ w ∈ wsX70, w ∈ wsX7_remarkOf := by decide +kernel
def rX7_remarkOf : Room := { frames := 6, cells := 1, slots := 6, locals := 82 }
set_option maxHeartbeats 4000000 in
set_option maxRecDepth 100000 in
theorem k_X7_remarkOf {l : Launch} (hfl : l.stackTraces = false) {Z : gZ} {B : gB} {C0 : gC} {S : gS} {T : gTx} {a : Int} (hcs : cs Z B C0 S T) (hwf : wf S T) (ra : zr a) : vx_Met l yX7_remarkOf wsX7_remarkOf rX7_remarkOf (gPc Z B C0 [.ref (B 0 0), .int (zI a)]) (gQr Z B (fun r1 C1 => ((0 ≤ a ∧ a < (S 0 2 : Int)) ∧ r1 = B 60 a.toNat) ∧ C1 = C0)) (gXC Z B (fun E C1 => E = "java/lang/IndexOutOfBoundsException" ∧ ¬ (0 ≤ a ∧ a < (S 0 2 : Int)) ∧ C1 = C0)) 1 6 (gA Z) := by
  refine g_ofRx (cc := cX7_remarkOf) (maxL := 3) hfl (by decide) rfl rfl (Nat.le_of_ble_eq_true rfl) ⟨_, rfl⟩ (Nat.le_of_ble_eq_true rfl) (Nat.le_of_ble_eq_true rfl) (Nat.le_of_ble_eq_true rfl) (Nat.le_of_ble_eq_true rfl) ?_
  intro p e s m args below meth c Q X kret ko kt hW hS ls hl
  have hx := X.1.1
  have hb := X.1.2.1
  have hts := X.1.2.2.2.2
  have hl : lv_has ls 3 [(0, .ref (B 0 0)), (1, .int (zI a))] := hl
  obtain ⟨hb0, hb1, ⟨F3, hb3, hb3a⟩, ⟨f4, hb4, hb4a, hb4b⟩, ⟨f5, hb5, hb5a, hb5b⟩, ⟨F6, hb6, hb6a⟩, hb7, hb8, hb9, hb10, hb11⟩ := id hcs
  have hwn := hwf.n
  refine lv_iload_n hx hb dX7_remarkOf_0 rfl (lv_at hl 1 rfl) ?_
  refine z_if_lt (tgt := 22) hx hb dX7_remarkOf_1 (by decide) (ra) (fun h_1 => ?_) (fun h_1 => ?_)
  · refine lv_null hx hb dX7_remarkOf_22 ?_
    refine lv_astore_nN (lv' := [(2, .null), (0, .ref (B 0 0)), (1, .int (zI a))]) hx hb dX7_remarkOf_23 rfl hl (by decide) rfl (fun ls hl => ?_)
    refine lv_aload_nN hx hb dX7_remarkOf_24 rfl (lv_at hl 0 rfl) ?_
    refine lv_ifnonnullN hx hb dX7_remarkOf_25 ?_
    exact kt "java/lang/IndexOutOfBoundsException" "no such comment" 283 288 287 _ _ _ _ _ _ _ _ (⟨rfl, by omega, rfl⟩) hW hS hl ex_2 st_17 (by decide +kernel) (List.mem_of_getElem? (i := 1) rfl) (List.mem_of_getElem? (i := 2) rfl) (fun w hw => List.mem_cons_of_mem _ (List.mem_append_right _ hw)) vxo_2_287 vxn_2_287 (Nat.le_of_ble_eq_true rfl) (Nat.le_of_ble_eq_true rfl) dX7_remarkOf_28 dX7_remarkOf_31 (Or.inr ⟨dX7_remarkOf_32, dX7_remarkOf_35, dX7_remarkOf_38⟩)
  · refine lv_iload_n hx hb dX7_remarkOf_4 rfl (lv_at hl 1 rfl) ?_
    refine lv_aload_n hx hb dX7_remarkOf_5 rfl (lv_at hl 0 rfl) ?_
    refine g_get (ci := 7) X in_X7_remarkOf_7 rfl hW hb0 5 (by decide) (hts _ (List.mem_of_getElem? (i := 3) rfl)) rfl dX7_remarkOf_6 ?_
    refine z_alen (t := 2) X hW hb5 rfl dX7_remarkOf_9 ?_
    refine z_icmp_ge (tgt := 22) hx hb dX7_remarkOf_10 (by decide) (ra) (⟨by omega, by omega⟩) (fun h_10 => ?_) (fun h_10 => ?_)
    · refine lv_null hx hb dX7_remarkOf_22 ?_
      refine lv_astore_nN (lv' := [(2, .null), (0, .ref (B 0 0)), (1, .int (zI a))]) hx hb dX7_remarkOf_23 rfl hl (by decide) rfl (fun ls hl => ?_)
      refine lv_aload_nN hx hb dX7_remarkOf_24 rfl (lv_at hl 0 rfl) ?_
      refine lv_ifnonnullN hx hb dX7_remarkOf_25 ?_
      exact kt "java/lang/IndexOutOfBoundsException" "no such comment" 283 288 287 _ _ _ _ _ _ _ _ (⟨rfl, by omega, rfl⟩) hW hS hl ex_2 st_17 (by decide +kernel) (List.mem_of_getElem? (i := 1) rfl) (List.mem_of_getElem? (i := 2) rfl) (fun w hw => List.mem_cons_of_mem _ (List.mem_append_right _ hw)) vxo_2_287 vxn_2_287 (Nat.le_of_ble_eq_true rfl) (Nat.le_of_ble_eq_true rfl) dX7_remarkOf_28 dX7_remarkOf_31 (Or.inr ⟨dX7_remarkOf_32, dX7_remarkOf_35, dX7_remarkOf_38⟩)
    · refine lv_aload_n hx hb dX7_remarkOf_13 rfl (lv_at hl 0 rfl) ?_
      refine g_get (ci := 7) X in_X7_remarkOf_7 rfl hW hb0 5 (by decide) (hts _ (List.mem_of_getElem? (i := 3) rfl)) rfl dX7_remarkOf_14 ?_
      refine lv_iload_n hx hb dX7_remarkOf_17 rfl (lv_at hl 1 rfl) ?_
      refine z_aald (t := 2) X hW hb5 rfl (by omega) (by omega) (by omega) dX7_remarkOf_18 ?_
      by_cases hin : a < (S 0 2 : Int)
      · rw [show va_rf (f5 (a).toNat) = .ref (B 60 a.toNat) from by rw [show f5 (a).toNat = some (B 60 a.toNat) from hb5a a.toNat (by omega)]; rfl]
        refine lv_goto (tgt := 23) hx hb dX7_remarkOf_19 (by decide) ?_
        refine lv_astore_n (lv' := [(2, .ref (B 60 a.toNat)), (0, .ref (B 0 0)), (1, .int (zI a))]) hx hb dX7_remarkOf_23 rfl hl (by decide) rfl (fun ls hl => ?_)
        refine lv_aload_n hx hb dX7_remarkOf_24 rfl (lv_at hl 0 rfl) ?_
        refine lv_ifnonnull (tgt := 39) hx hb dX7_remarkOf_25 (by decide) ?_
        refine lv_aload_n hx hb dX7_remarkOf_39 rfl (lv_at hl 0 rfl) ?_
        exact kret _ _ _ _ _ _ _ _ (⟨⟨⟨by omega, by omega⟩, rfl⟩, rfl⟩) hW hS (Nat.le_of_ble_eq_true rfl) (Nat.le_of_ble_eq_true rfl) dX7_remarkOf_40
      · rw [show va_rf (f5 (a).toNat) = .null from by rw [show f5 (a).toNat = none from hb5b a.toNat (by omega)]; rfl]
        refine lv_goto (tgt := 23) hx hb dX7_remarkOf_19 (by decide) ?_
        refine lv_astore_nN (lv' := [(2, .null), (0, .ref (B 0 0)), (1, .int (zI a))]) hx hb dX7_remarkOf_23 rfl hl (by decide) rfl (fun ls hl => ?_)
        refine lv_aload_nN hx hb dX7_remarkOf_24 rfl (lv_at hl 0 rfl) ?_
        refine lv_ifnonnullN hx hb dX7_remarkOf_25 ?_
        exact kt "java/lang/IndexOutOfBoundsException" "no such comment" 283 288 287 _ _ _ _ _ _ _ _ (⟨rfl, by omega, rfl⟩) hW hS hl ex_2 st_17 (by decide +kernel) (List.mem_of_getElem? (i := 1) rfl) (List.mem_of_getElem? (i := 2) rfl) (fun w hw => List.mem_cons_of_mem _ (List.mem_append_right _ hw)) vxo_2_287 vxn_2_287 (Nat.le_of_ble_eq_true rfl) (Nat.le_of_ble_eq_true rfl) dX7_remarkOf_28 dX7_remarkOf_31 (Or.inr ⟨dX7_remarkOf_32, dX7_remarkOf_35, dX7_remarkOf_38⟩)

theorem ds_X7_roundOf : yX7_roundOf.cls ≠ "java/lang/invoke/MethodHandle" ∧ yX7_roundOf.cls ≠ "java/lang/invoke/VarHandle" ∧ (parseMethodDescriptor yX7_roundOf.desc).map (fun d => d.parameters.length) = some 2 := by decide +kernel
def rX7_roundOf : Room := { frames := 7, cells := 1, slots := 6, locals := 103 }
set_option maxHeartbeats 4000000 in
set_option maxRecDepth 100000 in
theorem k_X7_roundOf {l : Launch} (hfl : l.stackTraces = false) {Z : gZ} {B : gB} {C0 : gC} {S : gS} {T : gTx} {i : Nat} {a : Int} (hcs : cs Z B C0 S T) (hwf : wf S T) (hi : i < S 0 0) (ra : zr a) : vx_Met l yX7_roundOf wsX7_roundOf rX7_roundOf (gPc Z B C0 [.ref (B 40 i), .int (zI a)]) (gQr Z B (fun r1 C1 => ((0 ≤ a ∧ a < (S 2 i : Int)) ∧ r1 = B 46 (4 * i + a.toNat)) ∧ C1 = C0)) (gXC Z B (fun E C1 => E = "java/util/NoSuchElementException" ∧ ¬ (0 ≤ a ∧ a < (S 2 i : Int)) ∧ C1 = C0)) 1 6 (gA Z) := by
  refine g_ofRx (cc := cX7_roundOf) (maxL := 2) hfl (by decide) rfl rfl (Nat.le_of_ble_eq_true rfl) ⟨_, rfl⟩ (Nat.le_of_ble_eq_true rfl) (Nat.le_of_ble_eq_true rfl) (Nat.le_of_ble_eq_true rfl) (Nat.le_of_ble_eq_true rfl) ?_
  intro p e s m args below meth c Q X kret ko kt hW hS ls hl
  have hx := X.1.1
  have hb := X.1.2.1
  have hts := X.1.2.2.2.2
  have hl : lv_has ls 2 [(0, .ref (B 40 i)), (1, .int (zI a))] := hl
  obtain ⟨hc0, hc1, hc2, ⟨f45, hc3, hc3a, hc3b⟩, hc4, hc4n, hc5, F50, hc6, hc6a⟩ := id (cs.ch hcs hi)
  have hwi := hwf.ch hi
  refine lv_aload_n hx hb dX7_roundOf_0 rfl (lv_at hl 0 rfl) ?_
  refine lv_iload_n hx hb dX7_roundOf_1 rfl (lv_at hl 1 rfl) ?_
  refine g_cvx (g_runSx X (k_X7_checkRound hfl (a := a) hcs hwf hi (by assumption)) (va_cwS 2 hts gX7_roundOf_X7_checkRound rfl rfl rfl ds_X7_checkRound ⟨Nat.le_of_ble_eq_true rfl, Nat.le_of_ble_eq_true rfl⟩) hW hS rfl hl.1 rfl (Nat.le_of_ble_eq_true rfl) dX7_roundOf_2 ⟨Nat.le_of_ble_eq_true rfl, Nat.le_of_ble_eq_true rfl⟩) hS (fun E9 ce9 q9 C9 H9 locs9 hp9 hW9 hS9 e1 e2 e3 => ko E9 ce9 q9 C9 H9 locs9 _ _ _ _ _ (hp9) hW9 hS9 e1 e2 e3 (Nat.le_of_ble_eq_true rfl) (Nat.le_of_ble_eq_true rfl)) (fun C1 H locs hp2 hW hS => ?_)
  obtain ⟨hk, ehp2⟩ := hp2
  rw [ehp2] at hW
  refine lv_aload_n hx hb dX7_roundOf_5 rfl (lv_at hl 0 rfl) ?_
  refine lv_iload_n hx hb dX7_roundOf_6 rfl (lv_at hl 1 rfl) ?_
  refine g_cr (g_runV X (k_X1_textOf (a := a) (r := a.toNat) hcs hwf hi (by omega) (by omega)) (cwV 1 hts gX7_roundOf_X1_textOf rfl rfl rfl ⟨rfl, ds_X1_textOf⟩ ⟨Nat.le_of_ble_eq_true rfl, Nat.le_of_ble_eq_true rfl⟩) hW hS hc0 rfl rfl hl.1 rfl (Nat.le_of_ble_eq_true rfl) dX7_roundOf_7 ⟨Nat.le_of_ble_eq_true rfl, Nat.le_of_ble_eq_true rfl⟩) hS (fun r6 C4 H locs hp5 hW hS => ?_)
  obtain ⟨rfl, ehp5⟩ := hp5
  rw [ehp5] at hW
  exact kret _ _ _ _ _ _ _ _ (⟨⟨hk, rfl⟩, rfl⟩) hW hS (Nat.le_of_ble_eq_true rfl) (Nat.le_of_ble_eq_true rfl) dX7_roundOf_10
