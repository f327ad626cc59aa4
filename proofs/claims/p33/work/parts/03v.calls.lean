theorem wf.reso {S : gS} {T : gTx} (h : wf S T) {q v : Nat} (hv : v ≤ 1) : wf (su S 14 q v) T := by
  obtain ⟨a1, a2, a3, a4, a5, a6, a7, a8, a9⟩ := id h
  have o : ∀ k' i', k' ≠ 14 → su S 14 q v k' i' = S k' i' := fun k' i' b => su_k b
  refine ⟨by rw [o 0 0 (by omega)]; exact a1, by rw [o 0 1 (by omega)]; exact a2, by rw [o 0 2 (by omega)]; exact a3, by rw [o 0 3 (by omega), o 0 0 (by omega), lsum_su (by omega)]; exact a4, fun c hc => ?_, fun p hp => ?_, fun r hr => ?_, fun p hp => ?_, a9⟩
  · rw [o 0 0 (by omega)] at hc
    rw [o 1 c (by omega), o 2 c (by omega), o 3 c (by omega), o 4 c (by omega), o 5 c (by omega)]
    have hw := a5 c hc
    exact ⟨hw.1, hw.2.1, hw.2.2.1, hw.2.2.2.1, hw.2.2.2.2.1, fun u hu => by rw [o 7 _ (by omega)]; exact hw.2.2.2.2.2 u hu⟩
  · rw [o 0 3 (by omega)] at hp
    rw [o 6 p (by omega)]; exact a6 p hp
  · rw [o 0 1 (by omega)] at hr
    rw [o 8 r (by omega), o 9 r (by omega), o 10 r (by omega)]; exact a7 r hr
  · rw [o 0 2 (by omega)] at hp
    rw [o 11 p (by omega), o 12 p (by omega), o 13 p (by omega), o 0 0 (by omega), o 2 _ (by omega)]
    have hw := a8 p hp
    refine ⟨hw.1, hw.2.1, hw.2.2.1, ?_⟩
    by_cases e : p = q
    · subst e; rw [su_s]; exact hv
    · rw [su_n (by omega)]; exact hw.2.2.2
theorem abf_lt {S : gS} {T : gTx} (h : wf S T) {i : Nat} (hi : i < S 0 0) : abf S i < 16 := abt_lt (h.ch hi).2.2.1 (fun c hc => (h.ch hc).2.2.1) 4

theorem ds_X7_setPriority : yX7_setPriority.cls ≠ "java/lang/invoke/MethodHandle" ∧ yX7_setPriority.cls ≠ "java/lang/invoke/VarHandle" ∧ (parseMethodDescriptor yX7_setPriority.desc).map (fun d => d.parameters.length) = some 2 := by decide +kernel
theorem in_X7_setPriority_1 : ∀ w ∈ wsX10, w ∈ wsX7_setPriority := by decide +kernel
def rX7_setPriority : Room := { frames := 7, cells := 2, slots := 12, locals := 104 }
set_option maxHeartbeats 4000000 in
set_option maxRecDepth 100000 in
theorem k_X7_setPriority {l : Launch} (hfl : l.stackTraces = false) {Z : gZ} {B : gB} {C0 : gC} {S : gS} {T : gTx} {cc a : Int} (hcs : cs Z B C0 S T) (hcx : cx Z B C0) (hwf : wf S T) (rcc : zr cc) (ra : zr a) : vx_Met l yX7_setPriority wsX7_setPriority rX7_setPriority (gPc Z B C0 [.ref (B 0 0), .int (zI cc), .int (zI a)]) (gQi Z B (fun r C1 => (cd_setPriority S cc a = 0 ∧ r = zI (S 4 cc.toNat : Int)) ∧ cs Z B C1 (nS_setPriority S cc a) T ∧ cx Z B C1 ∧ gfo C0 C1)) (gXC Z B (fun E C1 => (E = "java/lang/IndexOutOfBoundsException" ∧ cd_setPriority S cc a = 1 ∨ E = "java/lang/IllegalArgumentException" ∧ cd_setPriority S cc a = 2) ∧ cs Z B C1 S T ∧ cx Z B C1 ∧ gfo C0 C1)) 2 12 (gA Z) := by
  refine g_ofIx (cc := cX7_setPriority) (maxL := 5) hfl (by decide) rfl rfl (Nat.le_of_ble_eq_true rfl) (Nat.le_of_ble_eq_true rfl) (Nat.le_of_ble_eq_true rfl) (Nat.le_of_ble_eq_true rfl) (Nat.le_of_ble_eq_true rfl) ?_
  intro p e s m args below meth c Q X kret ko kt hW hS ls hl
  have hx := X.1.1
  have hb := X.1.2.1
  have hts := X.1.2.2.2.2
  have hl : lv_has ls 5 [(0, .ref (B 0 0)), (1, .int (zI cc)), (2, .int (zI a))] := hl
  obtain ⟨hb0, hb1, ⟨F3, hb3, hb3a⟩, ⟨f4, hb4, hb4a, hb4b⟩, ⟨f5, hb5, hb5a, hb5b⟩, ⟨F6, hb6, hb6a⟩, hb7, hb8, hb9, hb10, hb11⟩ := id hcs
  have hwn := hwf.n
  refine lv_aload_n hx hb dX7_setPriority_0 rfl (lv_at hl 0 rfl) ?_
  refine lv_iload_n hx hb dX7_setPriority_1 rfl (lv_at hl 1 rfl) ?_
  refine g_crx (g_runVx X (k_X7_changeOf hfl (a := cc) hcs hwf (rcc)) (cwV 1 hts gX7_setPriority_X7_changeOf rfl rfl rfl ⟨rfl, ds_X7_changeOf⟩ ⟨Nat.le_of_ble_eq_true rfl, Nat.le_of_ble_eq_true rfl⟩) hW hS hb0 rfl rfl hl.1 rfl (Nat.le_of_ble_eq_true rfl) dX7_setPriority_2 ⟨Nat.le_of_ble_eq_true rfl, Nat.le_of_ble_eq_true rfl⟩) hS (fun E9 ce9 q9 C9 H9 locs9 hp9 hW9 hS9 e1 e2 e3 => ko E9 ce9 q9 C9 H9 locs9 _ _ _ _ _ (pubx (Or.inl (⟨hp9.1, by unfold cd_setPriority; rw [if_pos (hp9.2.1)]⟩)) hcs hcx gfo.rfl' hp9.2.2) hW9 hS9 e1 e2 e3 (Nat.le_of_ble_eq_true rfl) (Nat.le_of_ble_eq_true rfl)) (fun r3 C1 H locs hp2 hW hS => ?_)
  obtain ⟨⟨hkc, rfl⟩, ehp2⟩ := hp2
  rw [ehp2] at hW
  have hicc : cc.toNat < S 0 0 := by omega
  obtain ⟨hc0, hc1, hc2, ⟨f45, hc3, hc3a, hc3b⟩, hc4, hc4n, hc5, F50, hc6, hc6a⟩ := id (cs.ch hcs hicc)
  have hwicc := hwf.ch hicc
  refine lv_astore_n (lv' := [(3, .ref (B 40 (cc.toNat))), (0, .ref (B 0 0)), (1, .int (zI cc)), (2, .int (zI a))]) hx hb dX7_setPriority_5 rfl hl (by decide) rfl (fun ls hl => ?_)
  refine lv_iload_n hx hb dX7_setPriority_6 rfl (lv_at hl 3 rfl) ?_
  refine z_if_lt (tgt := 16) hx hb dX7_setPriority_7 (by decide) (ra) (fun h_7 => ?_) (fun h_7 => ?_)
  · exact kt "java/lang/IllegalArgumentException" "no such priority" 76 158 80 _ _ _ _ _ _ _ _ (pubx (Or.inr (⟨rfl, by unfold cd_setPriority; rw [if_neg (fun z => z hkc), if_pos (by omega)]⟩)) hcs hcx gfo.rfl' rfl) hW hS hl ex_0 st_6 (by decide +kernel) (List.mem_of_getElem? (i := 1) rfl) (List.mem_of_getElem? (i := 2) rfl) (fun w hw => List.mem_cons_of_mem _ (List.mem_append_left _ (List.mem_append_right _ hw))) vxo_0_80 vxn_0_80 (Nat.le_of_ble_eq_true rfl) (Nat.le_of_ble_eq_true rfl) dX7_setPriority_16 dX7_setPriority_19 (Or.inl ⟨dX7_setPriority_20, dX7_setPriority_22, dX7_setPriority_25⟩)
  · refine lv_iload_n hx hb dX7_setPriority_10 rfl (lv_at hl 3 rfl) ?_
    refine lv_bipush (v := zI (9)) hx hb dX7_setPriority_11 (by decide) ?_
    refine z_icmp_le (tgt := 26) hx hb dX7_setPriority_13 (by decide) (ra) (⟨by omega, by omega⟩) (fun h_13 => ?_) (fun h_13 => ?_)
    · refine lv_aload_n hx hb dX7_setPriority_26 rfl (lv_at hl 0 rfl) ?_
      refine g_getN (ci := 1) X in_X7_setPriority_1 rfl hW hc0 7 (by decide) _ nf_3 rfl rfl dX7_setPriority_27 ?_
      refine lv_istore (lv' := [(4, .int (zI (S 4 (cc.toNat) : Int))), (3, .ref (B 40 (cc.toNat))), (0, .ref (B 0 0)), (1, .int (zI cc)), (2, .int (zI a))]) hx hb dX7_setPriority_30 hl (by decide) rfl (fun ls hl => ?_)
      refine lv_aload_n hx hb dX7_setPriority_32 rfl (lv_at hl 1 rfl) ?_
      refine lv_iload_n hx hb dX7_setPriority_33 rfl (lv_at hl 4 rfl) ?_
      refine g_putN (ci := 1) (ty := .int) X in_X7_setPriority_1 tyX1 tyX1_ok nmX1 rfl hW hS hc0 7 (by decide) _ nf_3 rfl rfl (by decide +kernel) (rfl) (rfl) (Nat.le_of_ble_eq_true rfl) dX7_setPriority_34 (fun C5 H locs hs6 hn7 hW hS => ?_)
      refine lv_iload hx hb dX7_setPriority_37 (lv_at hl 0 rfl) ?_
      exact kret _ _ _ _ _ _ _ _ (⟨⟨by unfold cd_setPriority; rw [if_neg (fun z => z hkc), if_neg (by omega)], rfl⟩, (cs.prio (v := a.toNat) hcs hwf hicc (by rw [show ((a.toNat : Nat) : Int) = a by omega]; exact hs6) (fun k' i' h => (hn7 k' i' (by omega)))), (cx.kept hcx (fun k' i' h1' h2' => hn7 (k') (i') (by omega))), (fun k' i' h => (hn7 k' i' (by omega)))⟩) hW hS (Nat.le_of_ble_eq_true rfl) (Nat.le_of_ble_eq_true rfl) dX7_setPriority_39
    · exact kt "java/lang/IllegalArgumentException" "no such priority" 76 158 80 _ _ _ _ _ _ _ _ (pubx (Or.inr (⟨rfl, by unfold cd_setPriority; rw [if_neg (fun z => z hkc), if_pos (by omega)]⟩)) hcs hcx gfo.rfl' rfl) hW hS hl ex_0 st_6 (by decide +kernel) (List.mem_of_getElem? (i := 1) rfl) (List.mem_of_getElem? (i := 2) rfl) (fun w hw => List.mem_cons_of_mem _ (List.mem_append_left _ (List.mem_append_right _ hw))) vxo_0_80 vxn_0_80 (Nat.le_of_ble_eq_true rfl) (Nat.le_of_ble_eq_true rfl) dX7_setPriority_16 dX7_setPriority_19 (Or.inl ⟨dX7_setPriority_20, dX7_setPriority_22, dX7_setPriority_25⟩)

theorem ds_X7_addLine : yX7_addLine.cls ≠ "java/lang/invoke/MethodHandle" ∧ yX7_addLine.cls ≠ "java/lang/invoke/VarHandle" ∧ (parseMethodDescriptor yX7_addLine.desc).map (fun d => d.parameters.length) = some 2 := by decide +kernel
theorem in_X7_addLine_1 : ∀ w ∈ wsX10, w ∈ wsX7_addLine := by decide +kernel
def rX7_addLine : Room := { frames := 7, cells := 4, slots := 24, locals := 104 }
set_option maxHeartbeats 4000000 in
set_option maxRecDepth 100000 in
theorem k_X7_addLine {l : Launch} (hfl : l.stackTraces = false) {Z : gZ} {B : gB} {C0 : gC} {S : gS} {T : gTx} {cc a : Int} (hcs : cs Z B C0 S T) (hcx : cx Z B C0) (hwf : wf S T) (rcc : zr cc) (ra : zr a) : vx_Met l yX7_addLine wsX7_addLine rX7_addLine (gPc Z B C0 [.ref (B 0 0), .int (zI cc), .int (zI a)]) (gQi Z B (fun r C1 => (cd_addLine S T cc a = 0 ∧ r = zI (((T (5 + cc.toNat)).length : Int) + 1)) ∧ cs Z B C1 S (nT_addLine T cc a) ∧ cx Z B C1 ∧ gfo C0 C1)) (gXC Z B (fun E C1 => (E = "java/lang/IndexOutOfBoundsException" ∧ cd_addLine S T cc a = 1 ∨ E = "java/lang/IllegalArgumentException" ∧ cd_addLine S T cc a = 2 ∨ E = "java/lang/IllegalStateException" ∧ cd_addLine S T cc a = 3) ∧ cs Z B C1 S T ∧ cx Z B C1 ∧ gfo C0 C1)) 4 24 (gA Z) := by
  refine g_ofIx (cc := cX7_addLine) (maxL := 4) hfl (by decide) rfl rfl (Nat.le_of_ble_eq_true rfl) (Nat.le_of_ble_eq_true rfl) (Nat.le_of_ble_eq_true rfl) (Nat.le_of_ble_eq_true rfl) (Nat.le_of_ble_eq_true rfl) ?_
  intro p e s m args below meth c Q X kret ko kt hW hS ls hl
  have hx := X.1.1
  have hb := X.1.2.1
  have hts := X.1.2.2.2.2
  have hl : lv_has ls 4 [(0, .ref (B 0 0)), (1, .int (zI cc)), (2, .int (zI a))] := hl
  obtain ⟨hb0, hb1, ⟨F3, hb3, hb3a⟩, ⟨f4, hb4, hb4a, hb4b⟩, ⟨f5, hb5, hb5a, hb5b⟩, ⟨F6, hb6, hb6a⟩, hb7, hb8, hb9, hb10, hb11⟩ := id hcs
  have hwn := hwf.n
  refine lv_aload_n hx hb dX7_addLine_0 rfl (lv_at hl 0 rfl) ?_
  refine lv_iload_n hx hb dX7_addLine_1 rfl (lv_at hl 1 rfl) ?_
  refine g_crx (g_runVx X (k_X7_changeOf hfl (a := cc) hcs hwf (rcc)) (cwV 1 hts gX7_addLine_X7_changeOf rfl rfl rfl ⟨rfl, ds_X7_changeOf⟩ ⟨Nat.le_of_ble_eq_true rfl, Nat.le_of_ble_eq_true rfl⟩) hW hS hb0 rfl rfl hl.1 rfl (Nat.le_of_ble_eq_true rfl) dX7_addLine_2 ⟨Nat.le_of_ble_eq_true rfl, Nat.le_of_ble_eq_true rfl⟩) hS (fun E9 ce9 q9 C9 H9 locs9 hp9 hW9 hS9 e1 e2 e3 => ko E9 ce9 q9 C9 H9 locs9 _ _ _ _ _ (pubx (Or.inl (⟨hp9.1, by unfold cd_addLine; rw [if_pos (hp9.2.1)]⟩)) hcs hcx gfo.rfl' hp9.2.2) hW9 hS9 e1 e2 e3 (Nat.le_of_ble_eq_true rfl) (Nat.le_of_ble_eq_true rfl)) (fun r3 C1 H locs hp2 hW hS => ?_)
  obtain ⟨⟨hkc, rfl⟩, ehp2⟩ := hp2
  rw [ehp2] at hW
  have hicc : cc.toNat < S 0 0 := by omega
  obtain ⟨hc0, hc1, hc2, ⟨f45, hc3, hc3a, hc3b⟩, hc4, hc4n, hc5, F50, hc6, hc6a⟩ := id (cs.ch hcs hicc)
  have hwicc := hwf.ch hicc
  refine lv_astore_n (lv' := [(3, .ref (B 40 (cc.toNat))), (0, .ref (B 0 0)), (1, .int (zI cc)), (2, .int (zI a))]) hx hb dX7_addLine_5 rfl hl (by decide) rfl (fun ls hl => ?_)
  refine lv_iload_n hx hb dX7_addLine_6 rfl (lv_at hl 3 rfl) ?_
  refine g_cvx (g_runSx X (k_X7_checkContent hfl (B := B) (C0 := C0) (a := a) (ra)) (va_cwS 1 hts gX7_addLine_X7_checkContent rfl rfl rfl ds_X7_checkContent ⟨Nat.le_of_ble_eq_true rfl, Nat.le_of_ble_eq_true rfl⟩) hW hS rfl hl.1 rfl (Nat.le_of_ble_eq_true rfl) dX7_addLine_7 ⟨Nat.le_of_ble_eq_true rfl, Nat.le_of_ble_eq_true rfl⟩) hS (fun E9 ce9 q9 C9 H9 locs9 hp9 hW9 hS9 e1 e2 e3 => ko E9 ce9 q9 C9 H9 locs9 _ _ _ _ _ (pubx (Or.inr (Or.inl (⟨hp9.1, by unfold cd_addLine; rw [if_neg (fun z => z hkc), if_pos (hp9.2.1)]⟩))) hcs hcx gfo.rfl' hp9.2.2) hW9 hS9 e1 e2 e3 (Nat.le_of_ble_eq_true rfl) (Nat.le_of_ble_eq_true rfl)) (fun C5 H locs hp6 hW hS => ?_)
  obtain ⟨hkt, ehp6⟩ := hp6
  rw [ehp6] at hW
  refine lv_aload_n hx hb dX7_addLine_10 rfl (lv_at hl 0 rfl) ?_
  refine g_cvx (g_runSx X (k_X7_checkNotLanded hfl hcs hwf hicc) (va_cwS 1 hts gX7_addLine_X7_checkNotLanded rfl rfl rfl ds_X7_checkNotLanded ⟨Nat.le_of_ble_eq_true rfl, Nat.le_of_ble_eq_true rfl⟩) hW hS rfl hl.1 rfl (Nat.le_of_ble_eq_true rfl) dX7_addLine_11 ⟨Nat.le_of_ble_eq_true rfl, Nat.le_of_ble_eq_true rfl⟩) hS (fun E9 ce9 q9 C9 H9 locs9 hp9 hW9 hS9 e1 e2 e3 => ko E9 ce9 q9 C9 H9 locs9 _ _ _ _ _ (pubx (Or.inr (Or.inr (⟨hp9.1, by unfold cd_addLine; rw [if_neg (fun z => z hkc), if_neg (fun z => z hkt), if_pos (Or.inl (by have := hp9.2.1; omega))]⟩))) hcs hcx gfo.rfl' hp9.2.2) hW9 hS9 e1 e2 e3 (Nat.le_of_ble_eq_true rfl) (Nat.le_of_ble_eq_true rfl)) (fun C8 H locs hp9 hW hS => ?_)
  obtain ⟨hkl, ehp9⟩ := hp9
  rw [ehp9] at hW
  refine lv_aload_n hx hb dX7_addLine_14 rfl (lv_at hl 0 rfl) ?_
  refine g_getN (ci := 1) X in_X7_addLine_1 rfl hW hc0 3 (by decide) _ nf_0 rfl rfl dX7_addLine_15 ?_
  refine g_ci (g_runV X (k_X5_size (t := T (5 + (cc.toNat))) hc2 ) (cwV 0 hts gX7_addLine_X5_size rfl rfl rfl ⟨rfl, ds_X5_size⟩ ⟨Nat.le_of_ble_eq_true rfl, Nat.le_of_ble_eq_true rfl⟩) hW hS hc2.2.2.1 rfl rfl hl.1 rfl (Nat.le_of_ble_eq_true rfl) dX7_addLine_18 ⟨Nat.le_of_ble_eq_true rfl, Nat.le_of_ble_eq_true rfl⟩) hS (fun r13 C11 H locs hp12 hW hS => ?_)
  obtain ⟨rfl, ehp12⟩ := hp12
  rw [ehp12] at hW
  have hdl := hwf.tx (5 + cc.toNat)
  refine lv_bipush (v := zI (12)) hx hb dX7_addLine_21 (by decide) ?_
  refine z_icmp_lt (tgt := 36) hx hb dX7_addLine_23 (by decide) (⟨by omega, by omega⟩) (⟨by omega, by omega⟩) (fun h_23 => ?_) (fun h_23 => ?_)
  · refine lv_aload_n hx hb dX7_addLine_36 rfl (lv_at hl 0 rfl) ?_
    refine g_getN (ci := 1) X in_X7_addLine_1 rfl hW hc0 3 (by decide) _ nf_0 rfl rfl dX7_addLine_37 ?_
    refine lv_iload_n hx hb dX7_addLine_40 rfl (lv_at hl 3 rfl) ?_
    refine g_cv (g_runV X (k_X5_append (t := T (5 + (cc.toNat))) hc2 (a := a) (hkt)) (cwV 1 hts gX7_addLine_X5_append rfl rfl rfl ⟨rfl, ds_X5_append⟩ ⟨Nat.le_of_ble_eq_true rfl, Nat.le_of_ble_eq_true rfl⟩) hW hS hc2.2.2.1 rfl rfl hl.1 rfl (Nat.le_of_ble_eq_true rfl) dX7_addLine_41 ⟨Nat.le_of_ble_eq_true rfl, Nat.le_of_ble_eq_true rfl⟩) hS (fun C14 H locs hp15 hW hS => ?_)
    obtain ⟨ht16, hf17⟩ := hp15
    refine lv_aload_n hx hb dX7_addLine_44 rfl (lv_at hl 0 rfl) ?_
    have f18 : C14 40 (cc.toNat) = some (.inr (1, [.int (zI ((cc.toNat) : Int)), .int (zI (S 1 (cc.toNat) : Int)), .ref (B 41 (cc.toNat)), .ref (B 43 (cc.toNat)), .ref (B 45 (cc.toNat)), .ref (B 48 (cc.toNat)), .int (zI (S 2 (cc.toNat) : Int)), .int (zI (S 4 (cc.toNat) : Int)), .int (zI (S 5 (cc.toNat) : Int)), .int (zI (S 3 (cc.toNat) : Int)), .ref (B 50 (cc.toNat))])) := ((hf17 40 (cc.toNat) (by omega)).trans hc0)
    refine g_getN (ci := 1) X in_X7_addLine_1 rfl hW f18 3 (by decide) _ nf_0 rfl rfl dX7_addLine_45 ?_
    refine g_ci (g_runV X (k_X5_size (t := tap (T (5 + (cc.toNat))) [a]) ht16 ) (cwV 0 hts gX7_addLine_X5_size rfl rfl rfl ⟨rfl, ds_X5_size⟩ ⟨Nat.le_of_ble_eq_true rfl, Nat.le_of_ble_eq_true rfl⟩) hW hS ht16.2.2.1 rfl rfl hl.1 rfl (Nat.le_of_ble_eq_true rfl) dX7_addLine_48 ⟨Nat.le_of_ble_eq_true rfl, Nat.le_of_ble_eq_true rfl⟩) hS (fun r21 C19 H locs hp20 hW hS => ?_)
    obtain ⟨rfl, ehp20⟩ := hp20
    rw [ehp20] at hW
    exact kret _ _ _ _ _ _ _ _ (⟨⟨by unfold cd_addLine; rw [if_neg (fun z => z hkc), if_neg (fun z => z hkt), if_neg (by omega)], congrArg zI (by rw [tap_lt (by omega), List.length_append]; rfl)⟩, (cs.draft hcs hwf hicc ((tap_lt (t := T (5 + cc.toNat)) (a := a) (by omega)) ▸ ht16) (fun k' i' h => (hf17 k' i' (by omega)))), (cx.kept hcx (fun k' i' h1' h2' => hf17 (k') (i') (by omega))), (fun k' i' h => (hf17 k' i' (by omega)))⟩) hW hS (Nat.le_of_ble_eq_true rfl) (Nat.le_of_ble_eq_true rfl) dX7_addLine_51
  · exact kt "java/lang/IllegalStateException" "the draft is full" 87 119 91 _ _ _ _ _ _ _ _ (pubx (Or.inr (Or.inr (⟨rfl, by unfold cd_addLine; rw [if_neg (fun z => z hkc), if_neg (fun z => z hkt), if_pos (Or.inr (by omega))]⟩))) hcs hcx gfo.rfl' rfl) hW hS hl ex_1 st_3 (by decide +kernel) (List.mem_of_getElem? (i := 1) rfl) (List.mem_of_getElem? (i := 2) rfl) (fun w hw => List.mem_cons_of_mem _ (List.mem_append_left _ (List.mem_append_left _ (List.mem_append_right _ hw)))) vxo_1_91 vxn_1_91 (Nat.le_of_ble_eq_true rfl) (Nat.le_of_ble_eq_true rfl) dX7_addLine_26 dX7_addLine_29 (Or.inl ⟨dX7_addLine_30, dX7_addLine_32, dX7_addLine_35⟩)

theorem ds_X7_landAfter : yX7_landAfter.cls ≠ "java/lang/invoke/MethodHandle" ∧ yX7_landAfter.cls ≠ "java/lang/invoke/VarHandle" ∧ (parseMethodDescriptor yX7_landAfter.desc).map (fun d => d.parameters.length) = some 2 := by decide +kernel
theorem in_X7_landAfter_1 : ∀ w ∈ wsX10, w ∈ wsX7_landAfter := by decide +kernel
def rX7_landAfter : Room := { frames := 7, cells := 4, slots := 24, locals := 104 }
set_option maxHeartbeats 4000000 in
set_option maxRecDepth 100000 in
theorem k_X7_landAfter {l : Launch} (hfl : l.stackTraces = false) {Z : gZ} {B : gB} {C0 : gC} {S : gS} {T : gTx} {cc dd : Int} (hcs : cs Z B C0 S T) (hcx : cx Z B C0) (hwf : wf S T) (rcc : zr cc) (rdd : zr dd) : vx_Met l yX7_landAfter wsX7_landAfter rX7_landAfter (gPc Z B C0 [.ref (B 0 0), .int (zI cc), .int (zI dd)]) (gQi Z B (fun r C1 => (cd_landAfter S cc dd = 0 ∧ r = zI (bcnt (bset (S 3 cc.toNat) dd.toNat) : Int)) ∧ cs Z B C1 (nS_landAfter S cc dd) T ∧ cx Z B C1 ∧ gfo C0 C1)) (gXC Z B (fun E C1 => (E = "java/lang/IndexOutOfBoundsException" ∧ cd_landAfter S cc dd = 1 ∨ E = "java/lang/IllegalStateException" ∧ cd_landAfter S cc dd = 2 ∨ E = "java/lang/UnsupportedOperationException" ∧ cd_landAfter S cc dd = 3) ∧ cs Z B C1 S T ∧ cx Z B C1 ∧ gfo C0 C1)) 4 24 (gA Z) := by
  refine g_ofIx (cc := cX7_landAfter) (maxL := 5) hfl (by decide) rfl rfl (Nat.le_of_ble_eq_true rfl) (Nat.le_of_ble_eq_true rfl) (Nat.le_of_ble_eq_true rfl) (Nat.le_of_ble_eq_true rfl) (Nat.le_of_ble_eq_true rfl) ?_
  intro p e s m args below meth c Q X kret ko kt hW hS ls hl
  have hx := X.1.1
  have hb := X.1.2.1
  have hts := X.1.2.2.2.2
  have hl : lv_has ls 5 [(0, .ref (B 0 0)), (1, .int (zI cc)), (2, .int (zI dd))] := hl
  obtain ⟨hb0, hb1, ⟨F3, hb3, hb3a⟩, ⟨f4, hb4, hb4a, hb4b⟩, ⟨f5, hb5, hb5a, hb5b⟩, ⟨F6, hb6, hb6a⟩, hb7, hb8, hb9, hb10, hb11⟩ := id hcs
  have hwn := hwf.n
  refine lv_aload_n hx hb dX7_landAfter_0 rfl (lv_at hl 0 rfl) ?_
  refine lv_iload_n hx hb dX7_landAfter_1 rfl (lv_at hl 1 rfl) ?_
  refine g_crx (g_runVx X (k_X7_changeOf hfl (a := cc) hcs hwf (rcc)) (cwV 1 hts gX7_landAfter_X7_changeOf rfl rfl rfl ⟨rfl, ds_X7_changeOf⟩ ⟨Nat.le_of_ble_eq_true rfl, Nat.le_of_ble_eq_true rfl⟩) hW hS hb0 rfl rfl hl.1 rfl (Nat.le_of_ble_eq_true rfl) dX7_landAfter_2 ⟨Nat.le_of_ble_eq_true rfl, Nat.le_of_ble_eq_true rfl⟩) hS (fun E9 ce9 q9 C9 H9 locs9 hp9 hW9 hS9 e1 e2 e3 => ko E9 ce9 q9 C9 H9 locs9 _ _ _ _ _ (pubx (Or.inl (⟨hp9.1, by unfold cd_landAfter; rw [if_pos (fun z => hp9.2.1 z.1)]⟩)) hcs hcx gfo.rfl' hp9.2.2) hW9 hS9 e1 e2 e3 (Nat.le_of_ble_eq_true rfl) (Nat.le_of_ble_eq_true rfl)) (fun r3 C1 H locs hp2 hW hS => ?_)
  obtain ⟨⟨hkc, rfl⟩, ehp2⟩ := hp2
  rw [ehp2] at hW
  have hicc : cc.toNat < S 0 0 := by omega
  obtain ⟨hc0, hc1, hc2, ⟨f45, hc3, hc3a, hc3b⟩, hc4, hc4n, hc5, F50, hc6, hc6a⟩ := id (cs.ch hcs hicc)
  have hwicc := hwf.ch hicc
  refine lv_astore_n (lv' := [(3, .ref (B 40 (cc.toNat))), (0, .ref (B 0 0)), (1, .int (zI cc)), (2, .int (zI dd))]) hx hb dX7_landAfter_5 rfl hl (by decide) rfl (fun ls hl => ?_)
  refine lv_aload_n hx hb dX7_landAfter_6 rfl (lv_at hl 1 rfl) ?_
  refine lv_iload_n hx hb dX7_landAfter_7 rfl (lv_at hl 3 rfl) ?_
  refine g_crx (g_runVx X (k_X7_changeOf hfl (a := dd) hcs hwf (rdd)) (cwV 1 hts gX7_landAfter_X7_changeOf rfl rfl rfl ⟨rfl, ds_X7_changeOf⟩ ⟨Nat.le_of_ble_eq_true rfl, Nat.le_of_ble_eq_true rfl⟩) hW hS hb0 rfl rfl hl.1 rfl (Nat.le_of_ble_eq_true rfl) dX7_landAfter_8 ⟨Nat.le_of_ble_eq_true rfl, Nat.le_of_ble_eq_true rfl⟩) hS (fun E9 ce9 q9 C9 H9 locs9 hp9 hW9 hS9 e1 e2 e3 => ko E9 ce9 q9 C9 H9 locs9 _ _ _ _ _ (pubx (Or.inl (⟨hp9.1, by unfold cd_landAfter; rw [if_pos (fun z => hp9.2.1 z.2)]⟩)) hcs hcx gfo.rfl' hp9.2.2) hW9 hS9 e1 e2 e3 (Nat.le_of_ble_eq_true rfl) (Nat.le_of_ble_eq_true rfl)) (fun r7 C5 H locs hp6 hW hS => ?_)
  obtain ⟨⟨hkd, rfl⟩, ehp6⟩ := hp6
  rw [ehp6] at hW
  have hidd : dd.toNat < S 0 0 := by omega
  obtain ⟨hc0d, hc1d, hc2d, ⟨f45d, hc3d, hc3ad, hc3bd⟩, hc4d, hc4nd, hc5d, F50d, hc6d, hc6ad⟩ := id (cs.ch hcs hidd)
  have hwidd := hwf.ch hidd
  refine lv_astore (lv' := [(4, .ref (B 40 (dd.toNat))), (3, .ref (B 40 (cc.toNat))), (0, .ref (B 0 0)), (1, .int (zI cc)), (2, .int (zI dd))]) hx hb dX7_landAfter_11 hl (by decide) rfl (fun ls hl => ?_)
  refine lv_aload_n hx hb dX7_landAfter_13 rfl (lv_at hl 1 rfl) ?_
  refine g_cvx (g_runSx X (k_X7_checkNotLanded hfl hcs hwf hicc) (va_cwS 1 hts gX7_landAfter_X7_checkNotLanded rfl rfl rfl ds_X7_checkNotLanded ⟨Nat.le_of_ble_eq_true rfl, Nat.le_of_ble_eq_true rfl⟩) hW hS rfl hl.1 rfl (Nat.le_of_ble_eq_true rfl) dX7_landAfter_14 ⟨Nat.le_of_ble_eq_true rfl, Nat.le_of_ble_eq_true rfl⟩) hS (fun E9 ce9 q9 C9 H9 locs9 hp9 hW9 hS9 e1 e2 e3 => ko E9 ce9 q9 C9 H9 locs9 _ _ _ _ _ (pubx (Or.inr (Or.inl (⟨hp9.1, by unfold cd_landAfter; rw [if_neg (fun z => z ⟨hkc, hkd⟩), if_pos (by have := hp9.2.1; omega)]⟩))) hcs hcx gfo.rfl' hp9.2.2) hW9 hS9 e1 e2 e3 (Nat.le_of_ble_eq_true rfl) (Nat.le_of_ble_eq_true rfl)) (fun C9 H locs hp10 hW hS => ?_)
  obtain ⟨hkl, ehp10⟩ := hp10
  rw [ehp10] at hW
  refine lv_iload_n hx hb dX7_landAfter_17 rfl (lv_at hl 3 rfl) ?_
  refine lv_iload_n hx hb dX7_landAfter_18 rfl (lv_at hl 4 rfl) ?_
  refine z_icmp_eq (tgt := 35) hx hb dX7_landAfter_19 (by decide) (rcc) (rdd) (fun h_19 => ?_) (fun h_19 => ?_)
  · exact kt "java/lang/UnsupportedOperationException" "a change can't land after itself" 140 142 144 _ _ _ _ _ _ _ _ (pubx (Or.inr (Or.inr (⟨rfl, by unfold cd_landAfter; rw [if_neg (fun z => z ⟨hkc, hkd⟩), if_neg (by omega), if_pos (Or.inl h_19)]⟩))) hcs hcx gfo.rfl' rfl) hW hS hl ex_3 st_5 (by decide +kernel) (List.mem_of_getElem? (i := 1) rfl) (List.mem_of_getElem? (i := 2) rfl) (fun w hw => List.mem_cons_of_mem _ (List.mem_append_left _ (List.mem_append_left _ (List.mem_append_right _ hw)))) vxo_3_144 vxn_3_144 (Nat.le_of_ble_eq_true rfl) (Nat.le_of_ble_eq_true rfl) dX7_landAfter_35 dX7_landAfter_38 (Or.inl ⟨dX7_landAfter_39, dX7_landAfter_41, dX7_landAfter_44⟩)
  · refine lv_aload_n hx hb dX7_landAfter_22 rfl (lv_at hl 2 rfl) ?_
    refine lv_aload hx hb dX7_landAfter_23 (lv_at hl 0 rfl) ?_
    refine g_ci (g_runV X (k_X7_allBefore (i := (dd.toNat)) hcs hwf hidd) (cwV 1 hts gX7_landAfter_X7_allBefore rfl rfl rfl ⟨rfl, ds_X7_allBefore⟩ ⟨Nat.le_of_ble_eq_true rfl, Nat.le_of_ble_eq_true rfl⟩) hW hS hb0 rfl rfl hl.1 rfl (Nat.le_of_ble_eq_true rfl) dX7_landAfter_25 ⟨Nat.le_of_ble_eq_true rfl, Nat.le_of_ble_eq_true rfl⟩) hS (fun r14 C12 H locs hp13 hW hS => ?_)
    obtain ⟨rfl, ehp13⟩ := hp13
    rw [ehp13] at hW
    have hab := abf_lt hwf hidd
    refine lv_iload_n hx hb dX7_landAfter_28 rfl (lv_at hl 3 rfl) ?_
    rw [show zI cc = zI ((cc.toNat : Nat) : Int) from congrArg zI (by omega)]
    refine g_ci (g_runS X (k_X7_hasBit (nb := (abf S (dd.toNat))) (jb := cc.toNat) (by omega) (by omega)) (va_cwS 2 hts gX7_landAfter_X7_hasBit rfl rfl rfl ds_X7_hasBit ⟨Nat.le_of_ble_eq_true rfl, Nat.le_of_ble_eq_true rfl⟩) hW hS rfl hl.1 rfl (Nat.le_of_ble_eq_true rfl) dX7_landAfter_29 ⟨Nat.le_of_ble_eq_true rfl, Nat.le_of_ble_eq_true rfl⟩) hS (fun r17 C15 H locs hp16 hW hS => ?_)
    obtain ⟨rfl, ehp16⟩ := hp16
    rw [ehp16] at hW
    refine z_ifb_eq (tgt := 45) hx hb dX7_landAfter_32 (by decide) (fun h_32 => ?_) (fun h_32 => ?_)
    · refine lv_aload_n hx hb dX7_landAfter_45 rfl (lv_at hl 1 rfl) ?_
      refine lv_aload_n hx hb dX7_landAfter_46 rfl (lv_at hl 1 rfl) ?_
      refine g_getN (ci := 1) X in_X7_landAfter_1 rfl hW hc0 9 (by decide) _ nf_2 rfl rfl dX7_landAfter_47 ?_
      refine lv_iload_n hx hb dX7_landAfter_50 rfl (lv_at hl 4 rfl) ?_
      rw [show zI dd = zI ((dd.toNat : Nat) : Int) from congrArg zI (by omega)]
      refine g_ci (g_runS X (k_X7_withBit (nb := (S 3 (cc.toNat))) (jb := dd.toNat) (by omega) (by omega)) (va_cwS 2 hts gX7_landAfter_X7_withBit rfl rfl rfl ds_X7_withBit ⟨Nat.le_of_ble_eq_true rfl, Nat.le_of_ble_eq_true rfl⟩) hW hS rfl hl.1 rfl (Nat.le_of_ble_eq_true rfl) dX7_landAfter_51 ⟨Nat.le_of_ble_eq_true rfl, Nat.le_of_ble_eq_true rfl⟩) hS (fun r20 C18 H locs hp19 hW hS => ?_)
      obtain ⟨rfl, ehp19⟩ := hp19
      rw [ehp19] at hW
      refine g_putN (ci := 1) (ty := .int) X in_X7_landAfter_1 tyX1 tyX1_ok nmX1 rfl hW hS hc0 9 (by decide) _ nf_2 rfl rfl (by decide +kernel) (rfl) (rfl) (Nat.le_of_ble_eq_true rfl) dX7_landAfter_54 (fun C21 H locs hs22 hn23 hW hS => ?_)
      refine lv_aload_n hx hb dX7_landAfter_57 rfl (lv_at hl 1 rfl) ?_
      refine g_getN (ci := 1) X in_X7_landAfter_1 rfl hW hs22 9 (by decide) _ nf_2 rfl rfl dX7_landAfter_58 ?_
      refine g_ci (g_runS X (k_J6_bitCount_0f7a4 (nb := (bset (S 3 (cc.toNat)) dd.toNat)) (bset_l (by omega) (by omega))) (va_cwS 1 hts gX7_landAfter_J6_bitCount_0f7a4 rfl rfl rfl ds_J6_bitCount_0f7a4 ⟨Nat.le_of_ble_eq_true rfl, Nat.le_of_ble_eq_true rfl⟩) hW hS rfl hl.1 rfl (Nat.le_of_ble_eq_true rfl) dX7_landAfter_61 ⟨Nat.le_of_ble_eq_true rfl, Nat.le_of_ble_eq_true rfl⟩) hS (fun r26 C24 H locs hp25 hW hS => ?_)
      obtain ⟨rfl, ehp25⟩ := hp25
      rw [ehp25] at hW
      exact kret _ _ _ _ _ _ _ _ (⟨⟨by unfold cd_landAfter; rw [if_neg (fun z => z ⟨hkc, hkd⟩), if_neg (by omega), if_neg (fun z => z.elim h_19 h_32)], rfl⟩, (cs.bef (v := bset (S 3 cc.toNat) dd.toNat) hcs hwf hicc hs22 (fun k' i' h => (hn23 k' i' (by omega)))), (cx.kept hcx (fun k' i' h1' h2' => hn23 (k') (i') (by omega))), (fun k' i' h => (hn23 k' i' (by omega)))⟩) hW hS (Nat.le_of_ble_eq_true rfl) (Nat.le_of_ble_eq_true rfl) dX7_landAfter_64
    · exact kt "java/lang/UnsupportedOperationException" "a change can't land after itself" 140 142 144 _ _ _ _ _ _ _ _ (pubx (Or.inr (Or.inr (⟨rfl, by unfold cd_landAfter; rw [if_neg (fun z => z ⟨hkc, hkd⟩), if_neg (by omega), if_pos (Or.inr h_32)]⟩))) hcs hcx gfo.rfl' rfl) hW hS hl ex_3 st_5 (by decide +kernel) (List.mem_of_getElem? (i := 1) rfl) (List.mem_of_getElem? (i := 2) rfl) (fun w hw => List.mem_cons_of_mem _ (List.mem_append_left _ (List.mem_append_left _ (List.mem_append_right _ hw)))) vxo_3_144 vxn_3_144 (Nat.le_of_ble_eq_true rfl) (Nat.le_of_ble_eq_true rfl) dX7_landAfter_35 dX7_landAfter_38 (Or.inl ⟨dX7_landAfter_39, dX7_landAfter_41, dX7_landAfter_44⟩)

theorem ds_X7_approve : yX7_approve.cls ≠ "java/lang/invoke/MethodHandle" ∧ yX7_approve.cls ≠ "java/lang/invoke/VarHandle" ∧ (parseMethodDescriptor yX7_approve.desc).map (fun d => d.parameters.length) = some 2 := by decide +kernel
theorem in_X7_approve_1 : ∀ w ∈ wsX10, w ∈ wsX7_approve := by decide +kernel
def rX7_approve : Room := { frames := 7, cells := 5, slots := 30, locals := 120 }
set_option maxHeartbeats 4000000 in
set_option maxRecDepth 100000 in
theorem k_X7_approve {l : Launch} (hfl : l.stackTraces = false) {Z : gZ} {B : gB} {C0 : gC} {S : gS} {T : gTx} {cc a : Int} (hcs : cs Z B C0 S T) (hcx : cx Z B C0) (hwf : wf S T) (rcc : zr cc) (ra : zr a) : vx_Met l yX7_approve wsX7_approve rX7_approve (gPc Z B C0 [.ref (B 0 0), .int (zI cc), .int (zI a)]) (gQi Z B (fun r C1 => (cd_approve S cc a = 0 ∧ r = zI (bcnt (fre (nS_approve S cc a) T cc.toNat) : Int)) ∧ cs Z B C1 (nS_approve S cc a) T ∧ cx Z B C1 ∧ gfo C0 C1)) (gXC Z B (fun E C1 => (E = "java/lang/IndexOutOfBoundsException" ∧ cd_approve S cc a = 1 ∨ E = "java/util/NoSuchElementException" ∧ cd_approve S cc a = 2 ∨ E = "java/lang/IllegalStateException" ∧ cd_approve S cc a = 3) ∧ cs Z B C1 S T ∧ cx Z B C1 ∧ gfo C0 C1)) 5 30 (gA Z) := by
  refine g_ofIx (cc := cX7_approve) (maxL := 4) hfl (by decide) rfl rfl (Nat.le_of_ble_eq_true rfl) (Nat.le_of_ble_eq_true rfl) (Nat.le_of_ble_eq_true rfl) (Nat.le_of_ble_eq_true rfl) (Nat.le_of_ble_eq_true rfl) ?_
  intro p e s m args below meth c Q X kret ko kt hW hS ls hl
  have hx := X.1.1
  have hb := X.1.2.1
  have hts := X.1.2.2.2.2
  have hl : lv_has ls 4 [(0, .ref (B 0 0)), (1, .int (zI cc)), (2, .int (zI a))] := hl
  obtain ⟨hb0, hb1, ⟨F3, hb3, hb3a⟩, ⟨f4, hb4, hb4a, hb4b⟩, ⟨f5, hb5, hb5a, hb5b⟩, ⟨F6, hb6, hb6a⟩, hb7, hb8, hb9, hb10, hb11⟩ := id hcs
  have hwn := hwf.n
  refine lv_aload_n hx hb dX7_approve_0 rfl (lv_at hl 0 rfl) ?_
  refine lv_iload_n hx hb dX7_approve_1 rfl (lv_at hl 1 rfl) ?_
  refine g_crx (g_runVx X (k_X7_changeOf hfl (a := cc) hcs hwf (rcc)) (cwV 1 hts gX7_approve_X7_changeOf rfl rfl rfl ⟨rfl, ds_X7_changeOf⟩ ⟨Nat.le_of_ble_eq_true rfl, Nat.le_of_ble_eq_true rfl⟩) hW hS hb0 rfl rfl hl.1 rfl (Nat.le_of_ble_eq_true rfl) dX7_approve_2 ⟨Nat.le_of_ble_eq_true rfl, Nat.le_of_ble_eq_true rfl⟩) hS (fun E9 ce9 q9 C9 H9 locs9 hp9 hW9 hS9 e1 e2 e3 => ko E9 ce9 q9 C9 H9 locs9 _ _ _ _ _ (pubx (Or.inl (⟨hp9.1, by unfold cd_approve; rw [if_pos (fun z => hp9.2.1 z.1)]⟩)) hcs hcx gfo.rfl' hp9.2.2) hW9 hS9 e1 e2 e3 (Nat.le_of_ble_eq_true rfl) (Nat.le_of_ble_eq_true rfl)) (fun r3 C1 H locs hp2 hW hS => ?_)
  obtain ⟨⟨hkc, rfl⟩, ehp2⟩ := hp2
  rw [ehp2] at hW
  have hicc : cc.toNat < S 0 0 := by omega
  obtain ⟨hc0, hc1, hc2, ⟨f45, hc3, hc3a, hc3b⟩, hc4, hc4n, hc5, F50, hc6, hc6a⟩ := id (cs.ch hcs hicc)
  have hwicc := hwf.ch hicc
  refine lv_astore_n (lv' := [(3, .ref (B 40 (cc.toNat))), (0, .ref (B 0 0)), (1, .int (zI cc)), (2, .int (zI a))]) hx hb dX7_approve_5 rfl hl (by decide) rfl (fun ls hl => ?_)
  refine lv_iload_n hx hb dX7_approve_6 rfl (lv_at hl 3 rfl) ?_
  refine g_cvx (g_runSx X (k_X7_checkUser hfl (B := B) (C0 := C0) (a := a) (ra)) (va_cwS 1 hts gX7_approve_X7_checkUser rfl rfl rfl ds_X7_checkUser ⟨Nat.le_of_ble_eq_true rfl, Nat.le_of_ble_eq_true rfl⟩) hW hS rfl hl.1 rfl (Nat.le_of_ble_eq_true rfl) dX7_approve_7 ⟨Nat.le_of_ble_eq_true rfl, Nat.le_of_ble_eq_true rfl⟩) hS (fun E9 ce9 q9 C9 H9 locs9 hp9 hW9 hS9 e1 e2 e3 => ko E9 ce9 q9 C9 H9 locs9 _ _ _ _ _ (pubx (Or.inl (⟨hp9.1, by unfold cd_approve; rw [if_pos (fun z => hp9.2.1 z.2)]⟩)) hcs hcx gfo.rfl' hp9.2.2) hW9 hS9 e1 e2 e3 (Nat.le_of_ble_eq_true rfl) (Nat.le_of_ble_eq_true rfl)) (fun C5 H locs hp6 hW hS => ?_)
  obtain ⟨hku, ehp6⟩ := hp6
  rw [ehp6] at hW
  refine lv_aload_n hx hb dX7_approve_10 rfl (lv_at hl 0 rfl) ?_
  refine g_cvx (g_runSx X (k_X7_checkHasRound hfl hcs hwf hicc) (va_cwS 1 hts gX7_approve_X7_checkHasRound rfl rfl rfl ds_X7_checkHasRound ⟨Nat.le_of_ble_eq_true rfl, Nat.le_of_ble_eq_true rfl⟩) hW hS rfl hl.1 rfl (Nat.le_of_ble_eq_true rfl) dX7_approve_11 ⟨Nat.le_of_ble_eq_true rfl, Nat.le_of_ble_eq_true rfl⟩) hS (fun E9 ce9 q9 C9 H9 locs9 hp9 hW9 hS9 e1 e2 e3 => ko E9 ce9 q9 C9 H9 locs9 _ _ _ _ _ (pubx (Or.inr (Or.inl (⟨hp9.1, by unfold cd_approve; rw [if_neg (fun z => z ⟨hkc, hku⟩), if_pos (by have := hp9.2.1; omega)]⟩))) hcs hcx gfo.rfl' hp9.2.2) hW9 hS9 e1 e2 e3 (Nat.le_of_ble_eq_true rfl) (Nat.le_of_ble_eq_true rfl)) (fun C8 H locs hp9 hW hS => ?_)
  obtain ⟨hkh, ehp9⟩ := hp9
  rw [ehp9] at hW
  refine lv_aload_n hx hb dX7_approve_14 rfl (lv_at hl 0 rfl) ?_
  refine g_cvx (g_runSx X (k_X7_checkNotLanded hfl hcs hwf hicc) (va_cwS 1 hts gX7_approve_X7_checkNotLanded rfl rfl rfl ds_X7_checkNotLanded ⟨Nat.le_of_ble_eq_true rfl, Nat.le_of_ble_eq_true rfl⟩) hW hS rfl hl.1 rfl (Nat.le_of_ble_eq_true rfl) dX7_approve_15 ⟨Nat.le_of_ble_eq_true rfl, Nat.le_of_ble_eq_true rfl⟩) hS (fun E9 ce9 q9 C9 H9 locs9 hp9 hW9 hS9 e1 e2 e3 => ko E9 ce9 q9 C9 H9 locs9 _ _ _ _ _ (pubx (Or.inr (Or.inr (⟨hp9.1, by unfold cd_approve; rw [if_neg (fun z => z ⟨hkc, hku⟩), if_neg (by omega), if_pos (Or.inl (by have := hp9.2.1; omega))]⟩))) hcs hcx gfo.rfl' hp9.2.2) hW9 hS9 e1 e2 e3 (Nat.le_of_ble_eq_true rfl) (Nat.le_of_ble_eq_true rfl)) (fun C11 H locs hp12 hW hS => ?_)
  obtain ⟨hkl, ehp12⟩ := hp12
  rw [ehp12] at hW
  refine lv_iload_n hx hb dX7_approve_18 rfl (lv_at hl 3 rfl) ?_
  refine lv_aload_n hx hb dX7_approve_19 rfl (lv_at hl 0 rfl) ?_
  refine g_getN (ci := 1) X in_X7_approve_1 rfl hW hc0 1 (by decide) _ nf_6 rfl rfl dX7_approve_20 ?_
  refine z_icmp_ne (tgt := 36) hx hb dX7_approve_23 (by decide) (ra) (⟨by omega, by omega⟩) (fun h_23 => ?_) (fun h_23 => ?_)
  · refine lv_aload_n hx hb dX7_approve_36 rfl (lv_at hl 0 rfl) ?_
    refine g_getN (ci := 1) X in_X7_approve_1 rfl hW hc0 10 (by decide) _ nf_7 rfl rfl dX7_approve_37 ?_
    refine lv_iload_n hx hb dX7_approve_40 rfl (lv_at hl 3 rfl) ?_
    refine lv_aload_n hx hb dX7_approve_41 rfl (lv_at hl 0 rfl) ?_
    refine g_getN (ci := 1) X in_X7_approve_1 rfl hW hc0 6 (by decide) _ nf_1 rfl rfl dX7_approve_42 ?_
    refine lv_iconst (v := zI (1)) hx hb dX7_approve_45 rfl ?_
    refine z_isub hx hb dX7_approve_46 ?_
    refine g_cv (g_runS X (k_X7_put (a := a) (v := ((S 2 (cc.toNat) : Int) - 1)) hc6 (by decide) (⟨by omega, by omega⟩)) (va_cwS 3 hts gX7_approve_X7_put rfl rfl rfl ds_X7_put ⟨Nat.le_of_ble_eq_true rfl, Nat.le_of_ble_eq_true rfl⟩) hW hS rfl hl.1 rfl (Nat.le_of_ble_eq_true rfl) dX7_approve_47 ⟨Nat.le_of_ble_eq_true rfl, Nat.le_of_ble_eq_true rfl⟩) hS (fun C14 H locs hp15 hW hS => ?_)
    obtain ⟨hs16, hn17⟩ := hp15
    rw [if_pos (show (0 : Int) ≤ a ∧ a < ((5 : Nat) : Int) from ⟨by omega, by omega⟩)] at hs16
    have hcs2 : cs Z B C14 (nS_approve S cc a) T := cs.appr (u := a.toNat) (v := S 2 cc.toNat) hcs hwf hicc (by omega) hc6a hs16 (fun k' i' h => (hn17 k' i' (by omega)))
    have hwf2 : wf (nS_approve S cc a) T := wf.upd hwf (Or.inr (Or.inr rfl)) (by omega) (by omega) (fun _ c9 u9 e9 hu9 hc9 => by rw [show c9 = cc.toNat by omega]; exact Nat.le_refl _)
    have hi2 : cc.toNat < (nS_approve S cc a) 0 0 := by rw [nS_approve, su_k (by omega)]; omega
    refine lv_aload_n hx hb dX7_approve_50 rfl (lv_at hl 1 rfl) ?_
    refine lv_aload_n hx hb dX7_approve_51 rfl (lv_at hl 0 rfl) ?_
    have f18 : C14 0 0 = some (.inr (7, [.ref (B 1 0), .ref (B 3 0), .int (zI (S 0 1 : Int)), .ref (B 4 0), .int (zI (S 0 0 : Int)), .ref (B 5 0), .int (zI (S 0 2 : Int)), .ref (B 6 0), .int (zI (S 0 3 : Int)), .ref (B 10 0), .ref (B 14 0), .ref (B 16 0), .ref (B 18 0)])) := ((hn17 0 0 (gk (by decide))).trans hb0)
    refine g_ci (g_runV X (k_X7_freshUsers (i := (cc.toNat)) hcs2 (cx.kept hcx (fun k' i' h1' h2' => hn17 (k') (i') (by omega))) hwf2 hi2) (cwV 1 hts gX7_approve_X7_freshUsers rfl rfl rfl ⟨rfl, ds_X7_freshUsers⟩ ⟨Nat.le_of_ble_eq_true rfl, Nat.le_of_ble_eq_true rfl⟩) hW hS f18 rfl rfl hl.1 rfl (Nat.le_of_ble_eq_true rfl) dX7_approve_52 ⟨Nat.le_of_ble_eq_true rfl, Nat.le_of_ble_eq_true rfl⟩) hS (fun r21 C19 H locs hp20 hW hS => ?_)
    obtain ⟨e22, hx23, hf24⟩ := hp20
    rw [e22]
    refine g_ci (g_runS X (k_J6_bitCount_0f7a4 (nb := (fre (nS_approve S cc a) T (cc.toNat))) (fre_lt)) (va_cwS 1 hts gX7_approve_J6_bitCount_0f7a4 rfl rfl rfl ds_J6_bitCount_0f7a4 ⟨Nat.le_of_ble_eq_true rfl, Nat.le_of_ble_eq_true rfl⟩) hW hS rfl hl.1 rfl (Nat.le_of_ble_eq_true rfl) dX7_approve_55 ⟨Nat.le_of_ble_eq_true rfl, Nat.le_of_ble_eq_true rfl⟩) hS (fun r27 C25 H locs hp26 hW hS => ?_)
    obtain ⟨rfl, ehp26⟩ := hp26
    rw [ehp26] at hW
    exact kret _ _ _ _ _ _ _ _ (⟨⟨by unfold cd_approve; rw [if_neg (fun z => z ⟨hkc, hku⟩), if_neg (by omega), if_neg (by omega)], rfl⟩, (cs.kept hcs2 (fun k' i' h' => hf24 (k') (i') (by omega))), hx23, (fun k' i' h => (hf24 k' i' (by omega)).trans ((hn17 k' i' (by omega))))⟩) hW hS (Nat.le_of_ble_eq_true rfl) (Nat.le_of_ble_eq_true rfl) dX7_approve_58
  · exact kt "java/lang/IllegalStateException" "the author can't approve" 87 207 91 _ _ _ _ _ _ _ _ (pubx (Or.inr (Or.inr (⟨rfl, by unfold cd_approve; rw [if_neg (fun z => z ⟨hkc, hku⟩), if_neg (by omega), if_pos (Or.inr (by omega))]⟩))) hcs hcx gfo.rfl' rfl) hW hS hl ex_1 st_10 (by decide +kernel) (List.mem_of_getElem? (i := 1) rfl) (List.mem_of_getElem? (i := 2) rfl) (fun w hw => List.mem_cons_of_mem _ (List.mem_append_left _ (List.mem_append_left _ (List.mem_append_right _ hw)))) vxo_1_91 vxn_1_91 (Nat.le_of_ble_eq_true rfl) (Nat.le_of_ble_eq_true rfl) dX7_approve_26 dX7_approve_29 (Or.inl ⟨dX7_approve_30, dX7_approve_32, dX7_approve_35⟩)

theorem ds_X7_withdraw : yX7_withdraw.cls ≠ "java/lang/invoke/MethodHandle" ∧ yX7_withdraw.cls ≠ "java/lang/invoke/VarHandle" ∧ (parseMethodDescriptor yX7_withdraw.desc).map (fun d => d.parameters.length) = some 2 := by decide +kernel
theorem in_X7_withdraw_1 : ∀ w ∈ wsX10, w ∈ wsX7_withdraw := by decide +kernel
def rX7_withdraw : Room := { frames := 7, cells := 4, slots := 24, locals := 120 }
set_option maxHeartbeats 4000000 in
set_option maxRecDepth 100000 in
theorem k_X7_withdraw {l : Launch} (hfl : l.stackTraces = false) {Z : gZ} {B : gB} {C0 : gC} {S : gS} {T : gTx} {cc a : Int} (hcs : cs Z B C0 S T) (hcx : cx Z B C0) (hwf : wf S T) (rcc : zr cc) (ra : zr a) : vx_Met l yX7_withdraw wsX7_withdraw rX7_withdraw (gPc Z B C0 [.ref (B 0 0), .int (zI cc), .int (zI a)]) (gQi Z B (fun r C1 => (cd_withdraw S cc a = 0 ∧ r = zI (bcnt (fre (nS_withdraw S cc a) T cc.toNat) : Int)) ∧ cs Z B C1 (nS_withdraw S cc a) T ∧ cx Z B C1 ∧ gfo C0 C1)) (gXC Z B (fun E C1 => (E = "java/lang/IndexOutOfBoundsException" ∧ cd_withdraw S cc a = 1 ∨ E = "java/util/NoSuchElementException" ∧ cd_withdraw S cc a = 2 ∨ E = "java/lang/IllegalStateException" ∧ cd_withdraw S cc a = 3) ∧ cs Z B C1 S T ∧ cx Z B C1 ∧ gfo C0 C1)) 4 24 (gA Z) := by
  refine g_ofIx (cc := cX7_withdraw) (maxL := 4) hfl (by decide) rfl rfl (Nat.le_of_ble_eq_true rfl) (Nat.le_of_ble_eq_true rfl) (Nat.le_of_ble_eq_true rfl) (Nat.le_of_ble_eq_true rfl) (Nat.le_of_ble_eq_true rfl) ?_
  intro p e s m args below meth c Q X kret ko kt hW hS ls hl
  have hx := X.1.1
  have hb := X.1.2.1
  have hts := X.1.2.2.2.2
  have hl : lv_has ls 4 [(0, .ref (B 0 0)), (1, .int (zI cc)), (2, .int (zI a))] := hl
  obtain ⟨hb0, hb1, ⟨F3, hb3, hb3a⟩, ⟨f4, hb4, hb4a, hb4b⟩, ⟨f5, hb5, hb5a, hb5b⟩, ⟨F6, hb6, hb6a⟩, hb7, hb8, hb9, hb10, hb11⟩ := id hcs
  have hwn := hwf.n
  refine lv_aload_n hx hb dX7_withdraw_0 rfl (lv_at hl 0 rfl) ?_
  refine lv_iload_n hx hb dX7_withdraw_1 rfl (lv_at hl 1 rfl) ?_
  refine g_crx (g_runVx X (k_X7_changeOf hfl (a := cc) hcs hwf (rcc)) (cwV 1 hts gX7_withdraw_X7_changeOf rfl rfl rfl ⟨rfl, ds_X7_changeOf⟩ ⟨Nat.le_of_ble_eq_true rfl, Nat.le_of_ble_eq_true rfl⟩) hW hS hb0 rfl rfl hl.1 rfl (Nat.le_of_ble_eq_true rfl) dX7_withdraw_2 ⟨Nat.le_of_ble_eq_true rfl, Nat.le_of_ble_eq_true rfl⟩) hS (fun E9 ce9 q9 C9 H9 locs9 hp9 hW9 hS9 e1 e2 e3 => ko E9 ce9 q9 C9 H9 locs9 _ _ _ _ _ (pubx (Or.inl (⟨hp9.1, by unfold cd_withdraw; rw [if_pos (fun z => hp9.2.1 z.1)]⟩)) hcs hcx gfo.rfl' hp9.2.2) hW9 hS9 e1 e2 e3 (Nat.le_of_ble_eq_true rfl) (Nat.le_of_ble_eq_true rfl)) (fun r3 C1 H locs hp2 hW hS => ?_)
  obtain ⟨⟨hkc, rfl⟩, ehp2⟩ := hp2
  rw [ehp2] at hW
  have hicc : cc.toNat < S 0 0 := by omega
  obtain ⟨hc0, hc1, hc2, ⟨f45, hc3, hc3a, hc3b⟩, hc4, hc4n, hc5, F50, hc6, hc6a⟩ := id (cs.ch hcs hicc)
  have hwicc := hwf.ch hicc
  refine lv_astore_n (lv' := [(3, .ref (B 40 (cc.toNat))), (0, .ref (B 0 0)), (1, .int (zI cc)), (2, .int (zI a))]) hx hb dX7_withdraw_5 rfl hl (by decide) rfl (fun ls hl => ?_)
  refine lv_iload_n hx hb dX7_withdraw_6 rfl (lv_at hl 3 rfl) ?_
  refine g_cvx (g_runSx X (k_X7_checkUser hfl (B := B) (C0 := C0) (a := a) (ra)) (va_cwS 1 hts gX7_withdraw_X7_checkUser rfl rfl rfl ds_X7_checkUser ⟨Nat.le_of_ble_eq_true rfl, Nat.le_of_ble_eq_true rfl⟩) hW hS rfl hl.1 rfl (Nat.le_of_ble_eq_true rfl) dX7_withdraw_7 ⟨Nat.le_of_ble_eq_true rfl, Nat.le_of_ble_eq_true rfl⟩) hS (fun E9 ce9 q9 C9 H9 locs9 hp9 hW9 hS9 e1 e2 e3 => ko E9 ce9 q9 C9 H9 locs9 _ _ _ _ _ (pubx (Or.inl (⟨hp9.1, by unfold cd_withdraw; rw [if_pos (fun z => hp9.2.1 z.2)]⟩)) hcs hcx gfo.rfl' hp9.2.2) hW9 hS9 e1 e2 e3 (Nat.le_of_ble_eq_true rfl) (Nat.le_of_ble_eq_true rfl)) (fun C5 H locs hp6 hW hS => ?_)
  obtain ⟨hku, ehp6⟩ := hp6
  rw [ehp6] at hW
  refine lv_aload_n hx hb dX7_withdraw_10 rfl (lv_at hl 0 rfl) ?_
  refine lv_iload_n hx hb dX7_withdraw_11 rfl (lv_at hl 3 rfl) ?_
  refine g_cvx (g_runSx X (k_X7_checkApproved hfl (a := a) hcs hwf hicc (hku)) (va_cwS 2 hts gX7_withdraw_X7_checkApproved rfl rfl rfl ds_X7_checkApproved ⟨Nat.le_of_ble_eq_true rfl, Nat.le_of_ble_eq_true rfl⟩) hW hS rfl hl.1 rfl (Nat.le_of_ble_eq_true rfl) dX7_withdraw_12 ⟨Nat.le_of_ble_eq_true rfl, Nat.le_of_ble_eq_true rfl⟩) hS (fun E9 ce9 q9 C9 H9 locs9 hp9 hW9 hS9 e1 e2 e3 => ko E9 ce9 q9 C9 H9 locs9 _ _ _ _ _ (pubx (Or.inr (Or.inl (⟨hp9.1, by unfold cd_withdraw; rw [if_neg (fun z => z ⟨hkc, hku⟩), if_pos (by have := hp9.2.1; omega)]⟩))) hcs hcx gfo.rfl' hp9.2.2) hW9 hS9 e1 e2 e3 (Nat.le_of_ble_eq_true rfl) (Nat.le_of_ble_eq_true rfl)) (fun C8 H locs hp9 hW hS => ?_)
  obtain ⟨hka, ehp9⟩ := hp9
  rw [ehp9] at hW
  refine lv_aload_n hx hb dX7_withdraw_15 rfl (lv_at hl 0 rfl) ?_
  refine g_cvx (g_runSx X (k_X7_checkNotLanded hfl hcs hwf hicc) (va_cwS 1 hts gX7_withdraw_X7_checkNotLanded rfl rfl rfl ds_X7_checkNotLanded ⟨Nat.le_of_ble_eq_true rfl, Nat.le_of_ble_eq_true rfl⟩) hW hS rfl hl.1 rfl (Nat.le_of_ble_eq_true rfl) dX7_withdraw_16 ⟨Nat.le_of_ble_eq_true rfl, Nat.le_of_ble_eq_true rfl⟩) hS (fun E9 ce9 q9 C9 H9 locs9 hp9 hW9 hS9 e1 e2 e3 => ko E9 ce9 q9 C9 H9 locs9 _ _ _ _ _ (pubx (Or.inr (Or.inr (⟨hp9.1, by unfold cd_withdraw; rw [if_neg (fun z => z ⟨hkc, hku⟩), if_neg (by omega), if_pos (by have := hp9.2.1; omega)]⟩))) hcs hcx gfo.rfl' hp9.2.2) hW9 hS9 e1 e2 e3 (Nat.le_of_ble_eq_true rfl) (Nat.le_of_ble_eq_true rfl)) (fun C11 H locs hp12 hW hS => ?_)
  obtain ⟨hkl, ehp12⟩ := hp12
  rw [ehp12] at hW
  refine lv_aload_n hx hb dX7_withdraw_19 rfl (lv_at hl 0 rfl) ?_
  refine g_getN (ci := 1) X in_X7_withdraw_1 rfl hW hc0 10 (by decide) _ nf_7 rfl rfl dX7_withdraw_20 ?_
  refine lv_iload_n hx hb dX7_withdraw_23 rfl (lv_at hl 3 rfl) ?_
  refine lv_iconst (v := zI (-1)) hx hb dX7_withdraw_24 rfl ?_
  refine g_cv (g_runS X (k_X7_put (a := a) (v := (-1)) hc6 (by decide) (⟨by omega, by omega⟩)) (va_cwS 3 hts gX7_withdraw_X7_put rfl rfl rfl ds_X7_put ⟨Nat.le_of_ble_eq_true rfl, Nat.le_of_ble_eq_true rfl⟩) hW hS rfl hl.1 rfl (Nat.le_of_ble_eq_true rfl) dX7_withdraw_25 ⟨Nat.le_of_ble_eq_true rfl, Nat.le_of_ble_eq_true rfl⟩) hS (fun C14 H locs hp15 hW hS => ?_)
  obtain ⟨hs16, hn17⟩ := hp15
  rw [if_pos (show (0 : Int) ≤ a ∧ a < ((5 : Nat) : Int) from ⟨by omega, by omega⟩)] at hs16
  have hcs2 : cs Z B C14 (nS_withdraw S cc a) T := cs.appr (u := a.toNat) (v := 0) hcs hwf hicc (by omega) hc6a hs16 (fun k' i' h => (hn17 k' i' (by omega)))
  have hwf2 : wf (nS_withdraw S cc a) T := wf.upd hwf (Or.inr (Or.inr rfl)) (by omega) (by omega) (fun _ c9 u9 e9 hu9 hc9 => by omega)
  have hi2 : cc.toNat < (nS_withdraw S cc a) 0 0 := by rw [nS_withdraw, su_k (by omega)]; omega
  refine lv_aload_n hx hb dX7_withdraw_28 rfl (lv_at hl 1 rfl) ?_
  refine lv_aload_n hx hb dX7_withdraw_29 rfl (lv_at hl 0 rfl) ?_
  have f18 : C14 0 0 = some (.inr (7, [.ref (B 1 0), .ref (B 3 0), .int (zI (S 0 1 : Int)), .ref (B 4 0), .int (zI (S 0 0 : Int)), .ref (B 5 0), .int (zI (S 0 2 : Int)), .ref (B 6 0), .int (zI (S 0 3 : Int)), .ref (B 10 0), .ref (B 14 0), .ref (B 16 0), .ref (B 18 0)])) := ((hn17 0 0 (gk (by decide))).trans hb0)
  refine g_ci (g_runV X (k_X7_freshUsers (i := (cc.toNat)) hcs2 (cx.kept hcx (fun k' i' h1' h2' => hn17 (k') (i') (by omega))) hwf2 hi2) (cwV 1 hts gX7_withdraw_X7_freshUsers rfl rfl rfl ⟨rfl, ds_X7_freshUsers⟩ ⟨Nat.le_of_ble_eq_true rfl, Nat.le_of_ble_eq_true rfl⟩) hW hS f18 rfl rfl hl.1 rfl (Nat.le_of_ble_eq_true rfl) dX7_withdraw_30 ⟨Nat.le_of_ble_eq_true rfl, Nat.le_of_ble_eq_true rfl⟩) hS (fun r21 C19 H locs hp20 hW hS => ?_)
  obtain ⟨e22, hx23, hf24⟩ := hp20
  rw [e22]
  refine g_ci (g_runS X (k_J6_bitCount_0f7a4 (nb := (fre (nS_withdraw S cc a) T (cc.toNat))) (fre_lt)) (va_cwS 1 hts gX7_withdraw_J6_bitCount_0f7a4 rfl rfl rfl ds_J6_bitCount_0f7a4 ⟨Nat.le_of_ble_eq_true rfl, Nat.le_of_ble_eq_true rfl⟩) hW hS rfl hl.1 rfl (Nat.le_of_ble_eq_true rfl) dX7_withdraw_33 ⟨Nat.le_of_ble_eq_true rfl, Nat.le_of_ble_eq_true rfl⟩) hS (fun r27 C25 H locs hp26 hW hS => ?_)
  obtain ⟨rfl, ehp26⟩ := hp26
  rw [ehp26] at hW
  exact kret _ _ _ _ _ _ _ _ (⟨⟨by unfold cd_withdraw; rw [if_neg (fun z => z ⟨hkc, hku⟩), if_neg (by omega), if_neg (by omega)], rfl⟩, (cs.kept hcs2 (fun k' i' h' => hf24 (k') (i') (by omega))), hx23, (fun k' i' h => (hf24 k' i' (by omega)).trans ((hn17 k' i' (by omega))))⟩) hW hS (Nat.le_of_ble_eq_true rfl) (Nat.le_of_ble_eq_true rfl) dX7_withdraw_36

theorem ds_X7_resolve : yX7_resolve.cls ≠ "java/lang/invoke/MethodHandle" ∧ yX7_resolve.cls ≠ "java/lang/invoke/VarHandle" ∧ (parseMethodDescriptor yX7_resolve.desc).map (fun d => d.parameters.length) = some 1 := by decide +kernel
theorem in_X7_resolve_3 : ∀ w ∈ wsX30, w ∈ wsX7_resolve := by decide +kernel
def rX7_resolve : Room := { frames := 7, cells := 2, slots := 12, locals := 104 }
set_option maxHeartbeats 4000000 in
set_option maxRecDepth 100000 in
theorem k_X7_resolve {l : Launch} (hfl : l.stackTraces = false) {Z : gZ} {B : gB} {C0 : gC} {S : gS} {T : gTx} {qq : Int} (hcs : cs Z B C0 S T) (hcx : cx Z B C0) (hwf : wf S T) (rqq : zr qq) : vx_Met l yX7_resolve wsX7_resolve rX7_resolve (gPc Z B C0 [.ref (B 0 0), .int (zI qq)]) (gQi Z B (fun r C1 => (cd_resolve S qq = 0 ∧ r = zI (opn (nS_resolve S qq) (S 11 qq.toNat) : Int)) ∧ cs Z B C1 (nS_resolve S qq) T ∧ cx Z B C1 ∧ gfo C0 C1)) (gXC Z B (fun E C1 => (E = "java/lang/IndexOutOfBoundsException" ∧ cd_resolve S qq = 1 ∨ E = "java/lang/IllegalStateException" ∧ cd_resolve S qq = 2) ∧ cs Z B C1 S T ∧ cx Z B C1 ∧ gfo C0 C1)) 2 12 (gA Z) := by
  refine g_ofIx (cc := cX7_resolve) (maxL := 3) hfl (by decide) rfl rfl (Nat.le_of_ble_eq_true rfl) (Nat.le_of_ble_eq_true rfl) (Nat.le_of_ble_eq_true rfl) (Nat.le_of_ble_eq_true rfl) (Nat.le_of_ble_eq_true rfl) ?_
  intro p e s m args below meth c Q X kret ko kt hW hS ls hl
  have hx := X.1.1
  have hb := X.1.2.1
  have hts := X.1.2.2.2.2
  have hl : lv_has ls 3 [(0, .ref (B 0 0)), (1, .int (zI qq))] := hl
  obtain ⟨hb0, hb1, ⟨F3, hb3, hb3a⟩, ⟨f4, hb4, hb4a, hb4b⟩, ⟨f5, hb5, hb5a, hb5b⟩, ⟨F6, hb6, hb6a⟩, hb7, hb8, hb9, hb10, hb11⟩ := id hcs
  have hwn := hwf.n
  refine lv_aload_n hx hb dX7_resolve_0 rfl (lv_at hl 0 rfl) ?_
  refine lv_iload_n hx hb dX7_resolve_1 rfl (lv_at hl 1 rfl) ?_
  refine g_crx (g_runVx X (k_X7_remarkOf hfl (a := qq) hcs hwf (rqq)) (cwV 1 hts gX7_resolve_X7_remarkOf rfl rfl rfl ⟨rfl, ds_X7_remarkOf⟩ ⟨Nat.le_of_ble_eq_true rfl, Nat.le_of_ble_eq_true rfl⟩) hW hS hb0 rfl rfl hl.1 rfl (Nat.le_of_ble_eq_true rfl) dX7_resolve_2 ⟨Nat.le_of_ble_eq_true rfl, Nat.le_of_ble_eq_true rfl⟩) hS (fun E9 ce9 q9 C9 H9 locs9 hp9 hW9 hS9 e1 e2 e3 => ko E9 ce9 q9 C9 H9 locs9 _ _ _ _ _ (pubx (Or.inl (⟨hp9.1, by unfold cd_resolve; rw [if_pos (hp9.2.1)]⟩)) hcs hcx gfo.rfl' hp9.2.2) hW9 hS9 e1 e2 e3 (Nat.le_of_ble_eq_true rfl) (Nat.le_of_ble_eq_true rfl)) (fun r3 C1 H locs hp2 hW hS => ?_)
  obtain ⟨⟨hkc, rfl⟩, ehp2⟩ := hp2
  rw [ehp2] at hW
  have hqqq : qq.toNat < S 0 2 := by omega
  have hr0 := hcs.2.2.2.2.2.2.2.1 (qq.toNat) hqqq
  have hwq := hwf.rm hqqq
  have hio := hwq.1
  have hwo := hwf.ch hio
  refine lv_astore_n (lv' := [(2, .ref (B 60 (qq.toNat))), (0, .ref (B 0 0)), (1, .int (zI qq))]) hx hb dX7_resolve_5 rfl hl (by decide) rfl (fun ls hl => ?_)
  refine lv_aload_n hx hb dX7_resolve_6 rfl (lv_at hl 0 rfl) ?_
  refine g_getN (ci := 3) X in_X7_resolve_3 rfl hW hr0 3 (by decide) _ nf_4 rfl rfl dX7_resolve_7 ?_
  refine z_if_eq (tgt := 23) hx hb dX7_resolve_10 (by decide) (⟨by omega, by omega⟩) (fun h_10 => ?_) (fun h_10 => ?_)
  · refine lv_aload_n hx hb dX7_resolve_23 rfl (lv_at hl 0 rfl) ?_
    refine lv_iconst (v := zI (1)) hx hb dX7_resolve_24 rfl ?_
    refine g_putN (ci := 3) (ty := .boolean) X in_X7_resolve_3 tyX3 tyX3_ok nmX3 rfl hW hS hr0 3 (by decide) _ nf_4 rfl rfl (by decide +kernel) (rfl) (rfl) (Nat.le_of_ble_eq_true rfl) dX7_resolve_25 (fun C5 H locs hs6 hn7 hW hS => ?_)
    have hcs2 : cs Z B C5 (nS_resolve S qq) T := cs.reso hcs hqqq hs6 (fun k' i' h => (hn7 k' i' (by omega)))
    have hwf2 : wf (nS_resolve S qq) T := wf.reso hwf (by omega)
    have hi2 : S 11 qq.toNat < nS_resolve S qq 0 0 := by rw [nS_resolve, su_k (by omega)]; omega
    refine lv_aload_n hx hb dX7_resolve_28 rfl (lv_at hl 1 rfl) ?_
    refine lv_aload_n hx hb dX7_resolve_29 rfl (lv_at hl 0 rfl) ?_
    refine g_getN (ci := 3) X in_X7_resolve_3 rfl hW hs6 0 (by decide) _ nf_5 rfl rfl dX7_resolve_30 ?_
    have f8 : C5 0 0 = some (.inr (7, [.ref (B 1 0), .ref (B 3 0), .int (zI (S 0 1 : Int)), .ref (B 4 0), .int (zI (S 0 0 : Int)), .ref (B 5 0), .int (zI (S 0 2 : Int)), .ref (B 6 0), .int (zI (S 0 3 : Int)), .ref (B 10 0), .ref (B 14 0), .ref (B 16 0), .ref (B 18 0)])) := ((hn7 0 0 (gk (by decide))).trans hb0)
    refine g_ci (g_runV X (k_X7_countOpen (i := (S 11 (qq.toNat))) hcs2 hwf2 hi2) (cwV 1 hts gX7_resolve_X7_countOpen rfl rfl rfl ⟨rfl, ds_X7_countOpen⟩ ⟨Nat.le_of_ble_eq_true rfl, Nat.le_of_ble_eq_true rfl⟩) hW hS f8 rfl rfl hl.1 rfl (Nat.le_of_ble_eq_true rfl) dX7_resolve_33 ⟨Nat.le_of_ble_eq_true rfl, Nat.le_of_ble_eq_true rfl⟩) hS (fun r11 C9 H locs hp10 hW hS => ?_)
    obtain ⟨rfl, ehp10⟩ := hp10
    rw [ehp10] at hW
    exact kret _ _ _ _ _ _ _ _ (⟨⟨by unfold cd_resolve; rw [if_neg (fun z => z hkc), if_neg (by omega)], rfl⟩, hcs2, (cx.kept hcx (fun k' i' h1' h2' => hn7 (k') (i') (by omega))), (fun k' i' h => (hn7 k' i' (by omega)))⟩) hW hS (Nat.le_of_ble_eq_true rfl) (Nat.le_of_ble_eq_true rfl) dX7_resolve_36
  · exact kt "java/lang/IllegalStateException" "the comment is resolved" 87 192 91 _ _ _ _ _ _ _ _ (pubx (Or.inr (⟨rfl, by unfold cd_resolve; rw [if_neg (fun z => z hkc), if_pos (by omega)]⟩)) hcs hcx gfo.rfl' rfl) hW hS hl ex_1 st_9 (by decide +kernel) (List.mem_of_getElem? (i := 1) rfl) (List.mem_of_getElem? (i := 2) rfl) (fun w hw => List.mem_cons_of_mem _ (List.mem_append_left _ (List.mem_append_right _ hw))) vxo_1_91 vxn_1_91 (Nat.le_of_ble_eq_true rfl) (Nat.le_of_ble_eq_true rfl) dX7_resolve_13 dX7_resolve_16 (Or.inl ⟨dX7_resolve_17, dX7_resolve_19, dX7_resolve_22⟩)

theorem ds_X7_land : yX7_land.cls ≠ "java/lang/invoke/MethodHandle" ∧ yX7_land.cls ≠ "java/lang/invoke/VarHandle" ∧ (parseMethodDescriptor yX7_land.desc).map (fun d => d.parameters.length) = some 1 := by decide +kernel
theorem in_X7_land_7 : ∀ w ∈ wsX70, w ∈ wsX7_land := by decide +kernel
def rX7_land : Room := { frames := 7, cells := 2, slots := 12, locals := 141 }
set_option maxHeartbeats 4000000 in
set_option maxRecDepth 100000 in
theorem k_X7_land {l : Launch} (hfl : l.stackTraces = false) {Z : gZ} {B : gB} {C0 : gC} {S : gS} {T : gTx} {cc : Int} (hcs : cs Z B C0 S T) (hcx : cx Z B C0) (hwf : wf S T) (rcc : zr cc) : vx_Met l yX7_land wsX7_land rX7_land (gPc Z B C0 [.ref (B 0 0), .int (zI cc)]) (gQi Z B (fun r C1 => (cd_land S T cc = 0 ∧ r = zI ((ldT S T cc.toNat 0).length : Int)) ∧ cs Z B C1 (ldS S cc.toNat) (ldT S T cc.toNat) ∧ cx Z B C1 ∧ gfo C0 C1)) (gXC Z B (fun E C1 => (E = "java/lang/IndexOutOfBoundsException" ∧ cd_land S T cc = 1 ∨ E = "java/lang/UnsupportedOperationException" ∧ cd_land S T cc = 2) ∧ cs Z B C1 S T ∧ cx Z B C1 ∧ gfo C0 C1)) 2 12 (gA Z) := by
  refine g_ofIx (cc := cX7_land) (maxL := 3) hfl (by decide) rfl rfl (Nat.le_of_ble_eq_true rfl) (Nat.le_of_ble_eq_true rfl) (Nat.le_of_ble_eq_true rfl) (Nat.le_of_ble_eq_true rfl) (Nat.le_of_ble_eq_true rfl) ?_
  intro p e s m args below meth c Q X kret ko kt hW hS ls hl
  have hx := X.1.1
  have hb := X.1.2.1
  have hts := X.1.2.2.2.2
  have hl : lv_has ls 3 [(0, .ref (B 0 0)), (1, .int (zI cc))] := hl
  obtain ⟨hb0, hb1, ⟨F3, hb3, hb3a⟩, ⟨f4, hb4, hb4a, hb4b⟩, ⟨f5, hb5, hb5a, hb5b⟩, ⟨F6, hb6, hb6a⟩, hb7, hb8, hb9, hb10, hb11⟩ := id hcs
  have hwn := hwf.n
  refine lv_aload_n hx hb dX7_land_0 rfl (lv_at hl 0 rfl) ?_
  refine lv_iload_n hx hb dX7_land_1 rfl (lv_at hl 1 rfl) ?_
  refine g_crx (g_runVx X (k_X7_changeOf hfl (a := cc) hcs hwf (rcc)) (cwV 1 hts gX7_land_X7_changeOf rfl rfl rfl ⟨rfl, ds_X7_changeOf⟩ ⟨Nat.le_of_ble_eq_true rfl, Nat.le_of_ble_eq_true rfl⟩) hW hS hb0 rfl rfl hl.1 rfl (Nat.le_of_ble_eq_true rfl) dX7_land_2 ⟨Nat.le_of_ble_eq_true rfl, Nat.le_of_ble_eq_true rfl⟩) hS (fun E9 ce9 q9 C9 H9 locs9 hp9 hW9 hS9 e1 e2 e3 => ko E9 ce9 q9 C9 H9 locs9 _ _ _ _ _ (pubx (Or.inl (⟨hp9.1, by unfold cd_land; rw [if_pos (hp9.2.1)]⟩)) hcs hcx gfo.rfl' hp9.2.2) hW9 hS9 e1 e2 e3 (Nat.le_of_ble_eq_true rfl) (Nat.le_of_ble_eq_true rfl)) (fun r3 C1 H locs hp2 hW hS => ?_)
  obtain ⟨⟨hkc, rfl⟩, ehp2⟩ := hp2
  rw [ehp2] at hW
  have hicc : cc.toNat < S 0 0 := by omega
  obtain ⟨hc0, hc1, hc2, ⟨f45, hc3, hc3a, hc3b⟩, hc4, hc4n, hc5, F50, hc6, hc6a⟩ := id (cs.ch hcs hicc)
  have hwicc := hwf.ch hicc
  refine lv_astore_n (lv' := [(2, .ref (B 40 (cc.toNat))), (0, .ref (B 0 0)), (1, .int (zI cc))]) hx hb dX7_land_5 rfl hl (by decide) rfl (fun ls hl => ?_)
  refine lv_aload_n hx hb dX7_land_6 rfl (lv_at hl 1 rfl) ?_
  refine lv_aload_n hx hb dX7_land_7 rfl (lv_at hl 0 rfl) ?_
  refine g_ci (g_runV X (k_X7_reasonFor (i := (cc.toNat)) hcs hcx hwf hicc) (cwV 1 hts gX7_land_X7_reasonFor rfl rfl rfl ⟨rfl, ds_X7_reasonFor⟩ ⟨Nat.le_of_ble_eq_true rfl, Nat.le_of_ble_eq_true rfl⟩) hW hS hb0 rfl rfl hl.1 rfl (Nat.le_of_ble_eq_true rfl) dX7_land_8 ⟨Nat.le_of_ble_eq_true rfl, Nat.le_of_ble_eq_true rfl⟩) hS (fun r7 C5 H locs hp6 hW hS => ?_)
  obtain ⟨e8, hx9, hf10⟩ := hp6
  rw [e8]
  have hrc := rsn_cases S T (cc.toNat)
  refine lv_bipush (v := zI (32)) hx hb dX7_land_11 (by decide) ?_
  refine z_icmp_eq (tgt := 26) hx hb dX7_land_13 (by decide) (⟨by omega, by omega⟩) (⟨by omega, by omega⟩) (fun h_13 => ?_) (fun h_13 => ?_)
  · refine lv_aload_n hx hb dX7_land_26 rfl (lv_at hl 1 rfl) ?_
    refine lv_aload_n hx hb dX7_land_27 rfl (lv_at hl 0 rfl) ?_
    have f11 : C5 0 0 = some (.inr (7, [.ref (B 1 0), .ref (B 3 0), .int (zI (S 0 1 : Int)), .ref (B 4 0), .int (zI (S 0 0 : Int)), .ref (B 5 0), .int (zI (S 0 2 : Int)), .ref (B 6 0), .int (zI (S 0 3 : Int)), .ref (B 10 0), .ref (B 14 0), .ref (B 16 0), .ref (B 18 0)])) := ((hf10 0 0 (by omega)).trans hb0)
    refine g_cv (g_runV X (k_X7_bringIn (i := (cc.toNat)) (cs.kept hcs (fun k' i' h' => hf10 (k') (i') (by omega))) hx9 hwf hicc (show rsn S T cc.toNat = 32 by omega)) (cwV 1 hts gX7_land_X7_bringIn rfl rfl rfl ⟨rfl, ds_X7_bringIn⟩ ⟨Nat.le_of_ble_eq_true rfl, Nat.le_of_ble_eq_true rfl⟩) hW hS f11 rfl rfl hl.1 rfl (Nat.le_of_ble_eq_true rfl) dX7_land_28 ⟨Nat.le_of_ble_eq_true rfl, Nat.le_of_ble_eq_true rfl⟩) hS (fun C12 H locs hp13 hW hS => ?_)
    obtain ⟨hcs14, hcx15, hf16⟩ := hp13
    have hbo := hcs14.1
    refine lv_aload_n hx hb dX7_land_31 rfl (lv_at hl 1 rfl) ?_
    refine g_get (ci := 7) X in_X7_land_7 rfl hW hbo 0 (by decide) (hts _ (List.mem_of_getElem? (i := 3) rfl)) rfl dX7_land_32 ?_
    refine g_ci (g_runV X (k_X5_size (t := ldT S T cc.toNat 0) hcs14.2.1 ) (cwV 0 hts gX7_land_X5_size rfl rfl rfl ⟨rfl, ds_X5_size⟩ ⟨Nat.le_of_ble_eq_true rfl, Nat.le_of_ble_eq_true rfl⟩) hW hS hcs14.2.1.2.2.1 rfl rfl hl.1 rfl (Nat.le_of_ble_eq_true rfl) dX7_land_35 ⟨Nat.le_of_ble_eq_true rfl, Nat.le_of_ble_eq_true rfl⟩) hS (fun r19 C17 H locs hp18 hW hS => ?_)
    obtain ⟨rfl, ehp18⟩ := hp18
    rw [ehp18] at hW
    exact kret _ _ _ _ _ _ _ _ (⟨⟨by unfold cd_land; rw [if_neg (fun z => z hkc), if_neg (by omega)], rfl⟩, hcs14, hcx15, (fun k' i' h => (hf16 k' i' (by omega)).trans ((hf10 k' i' (by omega))))⟩) hW hS (Nat.le_of_ble_eq_true rfl) (Nat.le_of_ble_eq_true rfl) dX7_land_38
  · exact kt "java/lang/UnsupportedOperationException" "there is a reason against landing" 140 223 144 _ _ _ _ _ _ _ _ (pubx (Or.inr (⟨rfl, by unfold cd_land; rw [if_neg (fun z => z hkc), if_pos (by omega)]⟩)) (cs.kept hcs (fun k' i' h' => hf10 (k') (i') (by omega))) hx9 (fun k' i' h => (hf10 k' i' (by omega))) rfl) hW hS hl ex_3 st_11 (by decide +kernel) (List.mem_of_getElem? (i := 1) rfl) (List.mem_of_getElem? (i := 2) rfl) (fun w hw => List.mem_cons_of_mem _ (List.mem_append_left _ (List.mem_append_right _ hw))) vxo_3_144 vxn_3_144 (Nat.le_of_ble_eq_true rfl) (Nat.le_of_ble_eq_true rfl) dX7_land_16 dX7_land_19 (Or.inl ⟨dX7_land_20, dX7_land_22, dX7_land_25⟩)

theorem ds_X7_missingUser : yX7_missingUser.cls ≠ "java/lang/invoke/MethodHandle" ∧ yX7_missingUser.cls ≠ "java/lang/invoke/VarHandle" ∧ (parseMethodDescriptor yX7_missingUser.desc).map (fun d => d.parameters.length) = some 1 := by decide +kernel
def rX7_missingUser : Room := { frames := 7, cells := 3, slots := 18, locals := 120 }
set_option maxHeartbeats 4000000 in
set_option maxRecDepth 100000 in
theorem k_X7_missingUser {l : Launch} (hfl : l.stackTraces = false) {Z : gZ} {B : gB} {C0 : gC} {S : gS} {T : gTx} {cc : Int} (hcs : cs Z B C0 S T) (hcx : cx Z B C0) (hwf : wf S T) (rcc : zr cc) : vx_Met l yX7_missingUser wsX7_missingUser rX7_missingUser (gPc Z B C0 [.ref (B 0 0), .int (zI cc)]) (gQi Z B (fun r C1 => (cd_missing S T cc = 0 ∧ r = zI (((mis S T cc.toNat).getD 0 : Nat) : Int)) ∧ cs Z B C1 S T ∧ cx Z B C1 ∧ gfo C0 C1)) (gXC Z B (fun E C1 => (E = "java/lang/IndexOutOfBoundsException" ∧ cd_missing S T cc = 1 ∨ E = "java/util/NoSuchElementException" ∧ cd_missing S T cc = 2) ∧ cs Z B C1 S T ∧ cx Z B C1 ∧ gfo C0 C1)) 3 18 (gA Z) := by
  refine g_ofIx (cc := cX7_missingUser) (maxL := 5) hfl (by decide) rfl rfl (Nat.le_of_ble_eq_true rfl) (Nat.le_of_ble_eq_true rfl) (Nat.le_of_ble_eq_true rfl) (Nat.le_of_ble_eq_true rfl) (Nat.le_of_ble_eq_true rfl) ?_
  intro p e s m args below meth c Q X kret ko kt hW hS ls hl
  have hx := X.1.1
  have hb := X.1.2.1
  have hts := X.1.2.2.2.2
  have hl : lv_has ls 5 [(0, .ref (B 0 0)), (1, .int (zI cc))] := hl
  obtain ⟨hb0, hb1, ⟨F3, hb3, hb3a⟩, ⟨f4, hb4, hb4a, hb4b⟩, ⟨f5, hb5, hb5a, hb5b⟩, ⟨F6, hb6, hb6a⟩, hb7, hb8, hb9, hb10, hb11⟩ := id hcs
  have hwn := hwf.n
  refine lv_aload_n hx hb dX7_missingUser_0 rfl (lv_at hl 0 rfl) ?_
  refine lv_iload_n hx hb dX7_missingUser_1 rfl (lv_at hl 1 rfl) ?_
  refine g_crx (g_runVx X (k_X7_changeOf hfl (a := cc) hcs hwf (rcc)) (cwV 1 hts gX7_missingUser_X7_changeOf rfl rfl rfl ⟨rfl, ds_X7_changeOf⟩ ⟨Nat.le_of_ble_eq_true rfl, Nat.le_of_ble_eq_true rfl⟩) hW hS hb0 rfl rfl hl.1 rfl (Nat.le_of_ble_eq_true rfl) dX7_missingUser_2 ⟨Nat.le_of_ble_eq_true rfl, Nat.le_of_ble_eq_true rfl⟩) hS (fun E9 ce9 q9 C9 H9 locs9 hp9 hW9 hS9 e1 e2 e3 => ko E9 ce9 q9 C9 H9 locs9 _ _ _ _ _ (pubx (Or.inl (⟨hp9.1, by unfold cd_missing; rw [if_pos (hp9.2.1)]⟩)) hcs hcx gfo.rfl' hp9.2.2) hW9 hS9 e1 e2 e3 (Nat.le_of_ble_eq_true rfl) (Nat.le_of_ble_eq_true rfl)) (fun r3 C1 H locs hp2 hW hS => ?_)
  obtain ⟨⟨hkc, rfl⟩, ehp2⟩ := hp2
  rw [ehp2] at hW
  have hicc : cc.toNat < S 0 0 := by omega
  obtain ⟨hc0, hc1, hc2, ⟨f45, hc3, hc3a, hc3b⟩, hc4, hc4n, hc5, F50, hc6, hc6a⟩ := id (cs.ch hcs hicc)
  have hwicc := hwf.ch hicc
  refine lv_astore_n (lv' := [(2, .ref (B 40 (cc.toNat))), (0, .ref (B 0 0)), (1, .int (zI cc))]) hx hb dX7_missingUser_5 rfl hl (by decide) rfl (fun ls hl => ?_)
  refine lv_aload_n hx hb dX7_missingUser_6 rfl (lv_at hl 0 rfl) ?_
  refine g_cvx (g_runSx X (k_X7_checkHasRound hfl hcs hwf hicc) (va_cwS 1 hts gX7_missingUser_X7_checkHasRound rfl rfl rfl ds_X7_checkHasRound ⟨Nat.le_of_ble_eq_true rfl, Nat.le_of_ble_eq_true rfl⟩) hW hS rfl hl.1 rfl (Nat.le_of_ble_eq_true rfl) dX7_missingUser_7 ⟨Nat.le_of_ble_eq_true rfl, Nat.le_of_ble_eq_true rfl⟩) hS (fun E9 ce9 q9 C9 H9 locs9 hp9 hW9 hS9 e1 e2 e3 => ko E9 ce9 q9 C9 H9 locs9 _ _ _ _ _ (pubx (Or.inr (⟨hp9.1, by unfold cd_missing; rw [if_neg (fun z => z hkc), if_pos (mis_0 (by have := hp9.2.1; omega))]⟩)) hcs hcx gfo.rfl' hp9.2.2) hW9 hS9 e1 e2 e3 (Nat.le_of_ble_eq_true rfl) (Nat.le_of_ble_eq_true rfl)) (fun C5 H locs hp6 hW hS => ?_)
  obtain ⟨hkh, ehp6⟩ := hp6
  rw [ehp6] at hW
  refine lv_aload_n hx hb dX7_missingUser_10 rfl (lv_at hl 1 rfl) ?_
  refine lv_aload_n hx hb dX7_missingUser_11 rfl (lv_at hl 0 rfl) ?_
  refine g_ci (g_runV X (k_X7_neededUsers (i := (cc.toNat)) hcs hcx hwf hicc) (cwV 1 hts gX7_missingUser_X7_neededUsers rfl rfl rfl ⟨rfl, ds_X7_neededUsers⟩ ⟨Nat.le_of_ble_eq_true rfl, Nat.le_of_ble_eq_true rfl⟩) hW hS hb0 rfl rfl hl.1 rfl (Nat.le_of_ble_eq_true rfl) dX7_missingUser_12 ⟨Nat.le_of_ble_eq_true rfl, Nat.le_of_ble_eq_true rfl⟩) hS (fun r10 C8 H locs hp9 hW hS => ?_)
  obtain ⟨e11, hx12, hf13⟩ := hp9
  rw [e11]
  refine lv_aload_n hx hb dX7_missingUser_15 rfl (lv_at hl 1 rfl) ?_
  refine lv_aload_n hx hb dX7_missingUser_16 rfl (lv_at hl 0 rfl) ?_
  have f14 : C8 0 0 = some (.inr (7, [.ref (B 1 0), .ref (B 3 0), .int (zI (S 0 1 : Int)), .ref (B 4 0), .int (zI (S 0 0 : Int)), .ref (B 5 0), .int (zI (S 0 2 : Int)), .ref (B 6 0), .int (zI (S 0 3 : Int)), .ref (B 10 0), .ref (B 14 0), .ref (B 16 0), .ref (B 18 0)])) := ((hf13 0 0 (by omega)).trans hb0)
  refine g_ci (g_runV X (k_X7_freshUsers (i := (cc.toNat)) (cs.kept hcs (fun k' i' h' => hf13 (k') (i') (by omega))) hx12 hwf hicc) (cwV 1 hts gX7_missingUser_X7_freshUsers rfl rfl rfl ⟨rfl, ds_X7_freshUsers⟩ ⟨Nat.le_of_ble_eq_true rfl, Nat.le_of_ble_eq_true rfl⟩) hW hS f14 rfl rfl hl.1 rfl (Nat.le_of_ble_eq_true rfl) dX7_missingUser_17 ⟨Nat.le_of_ble_eq_true rfl, Nat.le_of_ble_eq_true rfl⟩) hS (fun r17 C15 H locs hp16 hW hS => ?_)
  obtain ⟨e18, hx19, hf20⟩ := hp16
  rw [e18]
  refine lv_iconst (v := zI (-1)) hx hb dX7_missingUser_20 rfl ?_
  refine lv_ixor hx hb dX7_missingUser_21 ?_
  refine lv_iand hx hb dX7_missingUser_22 ?_
  rw [show ((zI (nee S T (cc.toNat) : Int)) &&& ((zI (fre S T (cc.toNat) : Int)) ^^^ (zI (-1)))) = zI (bdif (nee S T (cc.toNat)) (fre S T (cc.toNat)) : Int) from bdif_i (nee_lt hwf.rg hwicc.1) fre_lt]
  have hbd := bdif_lt (nee_lt (T := T) hwf.rg hwicc.1) (fre_lt (S := S) (T := T) (i := (cc.toNat)))
  refine lv_istore_n (lv' := [(3, .int (zI (bdif (nee S T (cc.toNat)) (fre S T (cc.toNat)) : Int))), (2, .ref (B 40 (cc.toNat))), (0, .ref (B 0 0)), (1, .int (zI cc))]) hx hb dX7_missingUser_23 rfl hl (by decide) rfl (fun ls hl => ?_)
  refine lv_iconst (v := zI (0)) hx hb dX7_missingUser_24 rfl ?_
  refine lv_istore (lv' := [(4, .int (zI 0)), (3, .int (zI (bdif (nee S T (cc.toNat)) (fre S T (cc.toNat)) : Int))), (2, .ref (B 40 (cc.toNat))), (0, .ref (B 0 0)), (1, .int (zI cc))]) hx hb dX7_missingUser_25 hl (by decide) rfl (fun ls hl => ?_)
  have f21 : C15 0 0 = some (.inr (7, [.ref (B 1 0), .ref (B 3 0), .int (zI (S 0 1 : Int)), .ref (B 4 0), .int (zI (S 0 0 : Int)), .ref (B 5 0), .int (zI (S 0 2 : Int)), .ref (B 6 0), .int (zI (S 0 3 : Int)), .ref (B 10 0), .ref (B 14 0), .ref (B 16 0), .ref (B 18 0)])) := ((hf20 0 0 (by omega)).trans f14)
  have ht22 : tx Z B C15 1 0 (T 0) := (tx.kept (tx.kept hb1 (hf13 1 0 (by omega)) (hf13 2 0 (by omega))) (hf20 1 0 (by omega)) (hf20 2 0 (by omega)))
  have f23 : C15 3 0 = some (gJ Z 100 F3) := ((hf20 3 0 (by omega)).trans ((hf13 3 0 (by omega)).trans hb3))
  have f24 : C15 4 0 = some (gR Z 1 4 f4) := ((hf20 4 0 (by omega)).trans ((hf13 4 0 (by omega)).trans hb4))
  have f25 : C15 5 0 = some (gR Z 2 12 f5) := ((hf20 5 0 (by omega)).trans ((hf13 5 0 (by omega)).trans hb5))
  have f26 : C15 6 0 = some (gJ Z 4 F6) := ((hf20 6 0 (by omega)).trans ((hf13 6 0 (by omega)).trans hb6))
  have f27 : C15 40 (cc.toNat) = some (.inr (1, [.int (zI ((cc.toNat) : Int)), .int (zI (S 1 (cc.toNat) : Int)), .ref (B 41 (cc.toNat)), .ref (B 43 (cc.toNat)), .ref (B 45 (cc.toNat)), .ref (B 48 (cc.toNat)), .int (zI (S 2 (cc.toNat) : Int)), .int (zI (S 4 (cc.toNat) : Int)), .int (zI (S 5 (cc.toNat) : Int)), .int (zI (S 3 (cc.toNat) : Int)), .ref (B 50 (cc.toNat))])) := ((hf20 40 (cc.toNat) (by omega)).trans ((hf13 40 (cc.toNat) (by omega)).trans hc0))
  have ht28 : tx Z B C15 41 (cc.toNat) (T (1 + (cc.toNat))) := (tx.kept (tx.kept hc1 (hf13 41 (cc.toNat) (by omega)) (hf13 42 (cc.toNat) (by omega))) (hf20 41 (cc.toNat) (by omega)) (hf20 42 (cc.toNat) (by omega)))
  have ht29 : tx Z B C15 43 (cc.toNat) (T (5 + (cc.toNat))) := (tx.kept (tx.kept hc2 (hf13 43 (cc.toNat) (by omega)) (hf13 44 (cc.toNat) (by omega))) (hf20 43 (cc.toNat) (by omega)) (hf20 44 (cc.toNat) (by omega)))
  have f30 : C15 45 (cc.toNat) = some (gR Z 3 4 f45) := ((hf20 45 (cc.toNat) (by omega)).trans ((hf13 45 (cc.toNat) (by omega)).trans hc3))
  have ht31 : tx Z B C15 48 (cc.toNat) ([]) := (tx.kept (tx.kept hc5 (hf13 48 (cc.toNat) (by omega)) (hf13 49 (cc.toNat) (by omega))) (hf20 48 (cc.toNat) (by omega)) (hf20 49 (cc.toNat) (by omega)))
  have f32 : C15 50 (cc.toNat) = some (gJ Z 5 F50) := ((hf20 50 (cc.toNat) (by omega)).trans ((hf13 50 (cc.toNat) (by omega)).trans hc6))
  have lp27 : ∀ (n : Nat) (k : Nat) (H : Heap) (locs : List Loc), (5 - k < n) → (k ≤ 5) → (fst5 (bdif (nee S T (cc.toNat)) (fre S T (cc.toNat))) (5 - k) = mis S T cc.toNat) → gw Z B C15 H → va_S (gA Z) s.heap H locs → ∀ ls : Array Slot, lv_has ls 5 [(0, .ref (B 0 0)), (1, .int (zI cc)), (2, .ref (B 40 (cc.toNat))), (3, .int (zI (bdif (nee S T (cc.toNat)) (fre S T (cc.toNat)) : Int))), (4, .int (zI (k : Int)))] → W p l e rX7_missingUser s m args below meth c H locs 2 12 Q (F0 m 27 ls []) := by
    intro n
    induction n with
    | zero =>
      intro k  H locs hm hk5 hfs hW hS ls hl
      exact absurd hm (by omega)
    | succ n ih27 =>
      intro k  H locs hm hk5 hfs hW hS ls hl
      refine lv_iload hx hb dX7_missingUser_27 (lv_at hl 4 rfl) ?_
      refine lv_iconst (v := zI (5)) hx hb dX7_missingUser_29 rfl ?_
      refine z_icmp_ge (tgt := 51) hx hb dX7_missingUser_30 (by decide) (⟨by omega, by omega⟩) (⟨by omega, by omega⟩) (fun h_30 => ?_) (fun h_30 => ?_)
      · exact kt "java/util/NoSuchElementException" "no approval is missing" 171 236 175 _ _ _ _ _ _ _ _ (pubx (Or.inr (⟨rfl, by unfold cd_missing; rw [if_neg (fun z => z hkc), if_pos (by rw [← hfs, show 5 - k = 0 by omega]; rfl)]⟩)) (cs.kept (cs.kept hcs (fun k' i' h' => hf13 (k') (i') (by omega))) (fun k' i' h' => hf20 (k') (i') (by omega))) hx19 (fun k' i' h => (hf20 k' i' (by omega)).trans ((hf13 k' i' (by omega)))) rfl) hW hS hl ex_4 st_13 (by decide +kernel) (List.mem_of_getElem? (i := 1) rfl) (List.mem_of_getElem? (i := 2) rfl) (fun w hw => List.mem_cons_of_mem _ (List.mem_append_left _ (List.mem_append_right _ hw))) vxo_4_175 vxn_4_175 (Nat.le_of_ble_eq_true rfl) (Nat.le_of_ble_eq_true rfl) dX7_missingUser_51 dX7_missingUser_54 (Or.inl ⟨dX7_missingUser_55, dX7_missingUser_57, dX7_missingUser_60⟩)
      · refine lv_iload_n hx hb dX7_missingUser_33 rfl (lv_at hl 3 rfl) ?_
        refine lv_iload hx hb dX7_missingUser_34 (lv_at hl 4 rfl) ?_
        refine g_ci (g_runS X (k_X7_hasBit (nb := (bdif (nee S T (cc.toNat)) (fre S T (cc.toNat)))) (jb := k) (by omega) (by omega)) (va_cwS 2 hts gX7_missingUser_X7_hasBit rfl rfl rfl ds_X7_hasBit ⟨Nat.le_of_ble_eq_true rfl, Nat.le_of_ble_eq_true rfl⟩) hW hS rfl hl.1 rfl (Nat.le_of_ble_eq_true rfl) dX7_missingUser_36 ⟨Nat.le_of_ble_eq_true rfl, Nat.le_of_ble_eq_true rfl⟩) hS (fun r35 C33 H locs hp34 hW hS => ?_)
        obtain ⟨rfl, ehp34⟩ := hp34
        rw [ehp34] at hW
        refine z_ifb_eq (tgt := 45) hx hb dX7_missingUser_39 (by decide) (fun h_39 => ?_) (fun h_39 => ?_)
        · refine z_iinc (lv' := [(4, .int (zI ((k : Int) + 1))), (0, .ref (B 0 0)), (1, .int (zI cc)), (2, .ref (B 40 (cc.toNat))), (3, .int (zI (bdif (nee S T (cc.toNat)) (fre S T (cc.toNat)) : Int)))]) hx hb dX7_missingUser_45 hl (q := 4) rfl (by decide) rfl (fun ls hl => ?_)
          refine lv_goto (tgt := 27) hx hb dX7_missingUser_48 (by decide) ?_
          exact ih27 (k + 1) _ _ (by omega) (by omega) ((fst5_f (by omega) h_39).trans hfs) hW hS _ (lv_sub hl [1, 2, 3, 4, 0] rfl)
        · refine lv_iload hx hb dX7_missingUser_42 (lv_at hl 4 rfl) ?_
          exact kret _ _ _ _ _ _ _ _ (⟨⟨by unfold cd_missing; rw [if_neg (fun z => z hkc), if_neg (fun z => by rw [← hfs, fst5_t (by omega) h_39] at z; cases z)], congrArg zI (by rw [← hfs, fst5_t (by omega) h_39]; rfl)⟩, (cs.kept (cs.kept hcs (fun k' i' h' => hf13 (k') (i') (by omega))) (fun k' i' h' => hf20 (k') (i') (by omega))), hx19, (fun k' i' h => (hf20 k' i' (by omega)).trans ((hf13 k' i' (by omega))))⟩) hW hS (Nat.le_of_ble_eq_true rfl) (Nat.le_of_ble_eq_true rfl) dX7_missingUser_44
  exact lp27 6 0 _ _ (by omega) (by omega) rfl hW hS _ (lv_sub hl [3, 4, 2, 1, 0] rfl)
