theorem ds_X5_init : yX5_init.cls ≠ "java/lang/invoke/MethodHandle" ∧ yX5_init.cls ≠ "java/lang/invoke/VarHandle" ∧ (parseMethodDescriptor yX5_init.desc).map (fun d => d.parameters.length) = some 0 := by decide +kernel
theorem in_X5_init_5 : ∀ w ∈ wsX50, w ∈ wsX5_init := by decide +kernel
def rX5_init : Room := { frames := 1, cells := 1, slots := 24, locals := 12 }
set_option maxHeartbeats 4000000 in
set_option maxRecDepth 100000 in
theorem k_X5_init {l : Launch} {Z : gZ} {B : gB} {C0 : gC} {k i : Nat} (h0 : C0 k i = some (.inr (5, [.null, .int (zI 0)]))) (hno : C0 (k + 1) i = none) : Met l yX5_init wsX5_init rX5_init (gPc Z B C0 [.ref (B k i)]) (gQvB Z (fun B1 C1 => tx Z B1 C1 k i [] ∧ (∀ k' i', ¬ (k' = k + 1 ∧ i' = i) → B1 k' i' = B k' i') ∧ fr2 k i C0 C1)) 1 24 (gA Z) := by
  refine g_ofVB (cc := cX5_init) (maxL := 1) (by decide) rfl (Nat.le_of_ble_eq_true rfl) ?_
  intro p e s m args below meth c Q X hin kret hW hS ls hl
  have hx := X.1.1
  have hb := X.1.2.1
  have hts := X.1.2.2.2.2
  have hl : lv_has ls 1 [(0, .ref (B k i))] := hl
  refine lv_aload_n hx hb dX5_init_0 rfl (lv_at hl 0 rfl) ?_
  refine W.objInit hx hb X.1.2.2.2.1 (hts (.methodLink RX5 3 objectInit) (List.mem_of_getElem? (i := 1) rfl)) (hts (.instanceMethod objectInit) (List.mem_of_getElem? (i := 2) rfl)) (hts _ (List.mem_of_getElem? (i := 3) rfl)) rfl (by rw [X.1.2.2.1]; exact hl.1) rfl dX5_init_1 (Nat.le_of_ble_eq_true rfl) (Nat.le_of_ble_eq_true rfl) ?_
  refine W.eq (g2 := F0 m 4 ls []) rfl ?_
  refine lv_aload_n hx hb dX5_init_4 rfl (lv_at hl 0 rfl) ?_
  refine lv_bipush (v := zI (24)) hx hb dX5_init_5 (by decide) ?_
  refine g_newI (N := 24) (k + 1) i X (hts _ (List.mem_of_getElem? (i := 4) rfl)) hW hS hno (by decide) (by decide) (by decide) (Nat.le_of_ble_eq_true rfl) (Nat.le_of_ble_eq_true rfl) dX5_init_7 (fun a1 B2 C3 H hB4 hBn5 hs6 hn7 hW hS => ?_)
  subst hB4
  have hl : lv_has ls 1 [(0, .ref (B2 k i))] := by rw [hBn5 k i (by omega)]; exact hl
  rw [← hBn5 k i (by omega)]
  have f8 : C3 k i = some (.inr (5, [.null, .int (zI 0)])) := ((hn7 k i (by omega)).trans h0)
  have hs9 : C3 (k + 1) i = some (gJ Z 24 (fun _ => 0)) := hs6
  refine g_putF (ci := 5) (ty := .array .int) X in_X5_init_5 tyX5 tyX5_ok nmX5 rfl hW hS f8 0 (by decide) (hts _ (List.mem_of_getElem? (i := 5) rfl)) rfl hin rfl (by decide +kernel) (rfl) (rfl) (Nat.le_of_ble_eq_true rfl) dX5_init_9 (fun C10 H locs hs11 hn12 hW hS => ?_)
  exact kret _ _ _ _ _ _ _ _ (⟨⟨by simp, by simp, hs11, _, ((hn12 (k + 1) i (by omega)).trans (hs9)), fun j hj => absurd hj (by simp)⟩, fun k' i' h => (hBn5 k' i' (by omega)), fun k' i' h => (hn12 k' i' (by omega)).trans ((hn7 k' i' (by omega)))⟩) hW hS (Nat.le_of_ble_eq_true rfl) (Nat.le_of_ble_eq_true rfl) dX5_init_12

theorem ds_X4_init : yX4_init.cls ≠ "java/lang/invoke/MethodHandle" ∧ yX4_init.cls ≠ "java/lang/invoke/VarHandle" ∧ (parseMethodDescriptor yX4_init.desc).map (fun d => d.parameters.length) = some 0 := by decide +kernel
theorem in_X4_init_4 : ∀ w ∈ wsX40, w ∈ wsX4_init := by decide +kernel
def rX4_init : Room := { frames := 1, cells := 3, slots := 205, locals := 12 }
set_option maxHeartbeats 4000000 in
set_option maxRecDepth 100000 in
theorem k_X4_init {l : Launch} {Z : gZ} {B : gB} {C0 : gC} {k i : Nat} (h0 : C0 k i = some (.inr (4, [.null, .null, .null, .int (zI 0)]))) (hn1 : C0 (k + 1) i = none) (hn2 : C0 (k + 2) i = none) (hn3 : C0 (k + 3) i = none) : Met l yX4_init wsX4_init rX4_init (gPc Z B C0 [.ref (B k i)]) (gQvB Z (fun B1 C1 => so Z B1 C1 k i ∧ (∀ k' i', ¬ (k + 1 ≤ k' ∧ k' ≤ k + 3 ∧ i' = i) → B1 k' i' = B k' i') ∧ fr4 k i C0 C1)) 3 205 (gA Z) := by
  refine g_ofVB (cc := cX4_init) (maxL := 1) (by decide) rfl (Nat.le_of_ble_eq_true rfl) ?_
  intro p e s m args below meth c Q X hin kret hW hS ls hl
  have hx := X.1.1
  have hb := X.1.2.1
  have hts := X.1.2.2.2.2
  have hl : lv_has ls 1 [(0, .ref (B k i))] := hl
  refine lv_aload_n hx hb dX4_init_0 rfl (lv_at hl 0 rfl) ?_
  refine W.objInit hx hb X.1.2.2.2.1 (hts (.methodLink RX4 3 objectInit) (List.mem_of_getElem? (i := 1) rfl)) (hts (.instanceMethod objectInit) (List.mem_of_getElem? (i := 2) rfl)) (hts _ (List.mem_of_getElem? (i := 3) rfl)) rfl (by rw [X.1.2.2.1]; exact hl.1) rfl dX4_init_1 (Nat.le_of_ble_eq_true rfl) (Nat.le_of_ble_eq_true rfl) ?_
  refine W.eq (g2 := F0 m 4 ls []) rfl ?_
  refine lv_aload_n hx hb dX4_init_4 rfl (lv_at hl 0 rfl) ?_
  refine lv_sipush (v := zI (169)) hx hb dX4_init_5 (by decide) ?_
  refine g_newI (N := 169) (k + 1) i X (hts _ (List.mem_of_getElem? (i := 4) rfl)) hW hS hn1 (by decide) (by decide) (by decide) (Nat.le_of_ble_eq_true rfl) (Nat.le_of_ble_eq_true rfl) dX4_init_8 (fun a1 B2 C3 H hB4 hBn5 hs6 hn7 hW hS => ?_)
  subst hB4
  have hl : lv_has ls 1 [(0, .ref (B2 k i))] := by rw [hBn5 k i (by omega)]; exact hl
  rw [← hBn5 k i (by omega)]
  have f8 : C3 k i = some (.inr (4, [.null, .null, .null, .int (zI 0)])) := ((hn7 k i (by omega)).trans h0)
  have hs9 : C3 (k + 1) i = some (gJ Z 169 (fun _ => 0)) := hs6
  refine g_putF (ci := 4) (ty := .array .int) X in_X4_init_4 tyX4 tyX4_ok nmX4 rfl hW hS f8 0 (by decide) (hts _ (List.mem_of_getElem? (i := 5) rfl)) rfl hin rfl (by decide +kernel) (rfl) (rfl) (Nat.le_of_ble_eq_true rfl) dX4_init_10 (fun C10 H locs hs11 hn12 hW hS => ?_)
  refine lv_aload_n hx hb dX4_init_13 rfl (lv_at hl 0 rfl) ?_
  refine lv_bipush (v := zI (12)) hx hb dX4_init_14 (by decide) ?_
  refine g_newI (N := 12) (k + 2) i X (hts _ (List.mem_of_getElem? (i := 4) rfl)) hW hS ((hn12 (k + 2) i (by omega)).trans ((hn7 (k + 2) i (by omega)).trans hn2)) (by decide) (by decide) (by decide) (Nat.le_of_ble_eq_true rfl) (Nat.le_of_ble_eq_true rfl) dX4_init_16 (fun a13 B14 C15 H hB16 hBn17 hs18 hn19 hW hS => ?_)
  subst hB16
  have hl : lv_has ls 1 [(0, .ref (B14 k i))] := by rw [hBn17 k i (by omega)]; exact hl
  rw [← hBn17 k i (by omega)]
  have f20 : C15 k i = some (.inr (4, [.ref (B2 (k + 1) i), .null, .null, .int (zI 0)])) := ((hn19 k i (by omega)).trans hs11)
  have f21 : C15 k i = some (.inr (4, [.ref (B14 (k + 1) i), .null, .null, .int (zI 0)])) := by rw [hBn17 (k + 1) i (by omega)]; exact f20
  have f22 : C15 (k + 1) i = some (gJ Z 169 (fun _ => 0)) := ((hn19 (k + 1) i (by omega)).trans ((hn12 (k + 1) i (by omega)).trans hs9))
  have hs23 : C15 (k + 2) i = some (gJ Z 12 (fun _ => 0)) := hs18
  refine g_putF (ci := 4) (ty := .array .int) X in_X4_init_4 tyX4 tyX4_ok nmX4 rfl hW hS f21 1 (by decide) (hts _ (List.mem_of_getElem? (i := 6) rfl)) rfl hin rfl (by decide +kernel) (rfl) (rfl) (Nat.le_of_ble_eq_true rfl) dX4_init_18 (fun C24 H locs hs25 hn26 hW hS => ?_)
  refine lv_aload_n hx hb dX4_init_21 rfl (lv_at hl 0 rfl) ?_
  refine lv_bipush (v := zI (24)) hx hb dX4_init_22 (by decide) ?_
  refine g_newI (N := 24) (k + 3) i X (hts _ (List.mem_of_getElem? (i := 4) rfl)) hW hS ((hn26 (k + 3) i (by omega)).trans ((hn19 (k + 3) i (by omega)).trans ((hn12 (k + 3) i (by omega)).trans ((hn7 (k + 3) i (by omega)).trans hn3)))) (by decide) (by decide) (by decide) (Nat.le_of_ble_eq_true rfl) (Nat.le_of_ble_eq_true rfl) dX4_init_24 (fun a27 B28 C29 H hB30 hBn31 hs32 hn33 hW hS => ?_)
  subst hB30
  have hl : lv_has ls 1 [(0, .ref (B28 k i))] := by rw [hBn31 k i (by omega)]; exact hl
  rw [← hBn31 k i (by omega)]
  have f34 : C29 k i = some (.inr (4, [.ref (B14 (k + 1) i), .ref (B14 (k + 2) i), .null, .int (zI 0)])) := ((hn33 k i (by omega)).trans hs25)
  have f35 : C29 k i = some (.inr (4, [.ref (B28 (k + 1) i), .ref (B28 (k + 2) i), .null, .int (zI 0)])) := by rw [hBn31 (k + 1) i (by omega), hBn31 (k + 2) i (by omega)]; exact f34
  have f36 : C29 (k + 1) i = some (gJ Z 169 (fun _ => 0)) := ((hn33 (k + 1) i (by omega)).trans ((hn26 (k + 1) i (by omega)).trans f22))
  have f37 : C29 (k + 2) i = some (gJ Z 12 (fun _ => 0)) := ((hn33 (k + 2) i (by omega)).trans ((hn26 (k + 2) i (by omega)).trans hs23))
  have hs38 : C29 (k + 3) i = some (gJ Z 24 (fun _ => 0)) := hs32
  refine g_putF (ci := 4) (ty := .array .int) X in_X4_init_4 tyX4 tyX4_ok nmX4 rfl hW hS f35 2 (by decide) (hts _ (List.mem_of_getElem? (i := 7) rfl)) rfl hin rfl (by decide +kernel) (rfl) (rfl) (Nat.le_of_ble_eq_true rfl) dX4_init_26 (fun C39 H locs hs40 hn41 hW hS => ?_)
  exact kret _ _ _ _ _ _ _ _ (⟨⟨0, _, _, _, hs40, ((hn41 (k + 1) i (by omega)).trans (f36)), ((hn41 (k + 2) i (by omega)).trans (f37)), ((hn41 (k + 3) i (by omega)).trans (hs38))⟩, fun k' i' h => (hBn31 k' i' (by omega)).trans ((hBn17 k' i' (by omega)).trans ((hBn5 k' i' (by omega)))), fun k' i' h => (hn41 k' i' (by omega)).trans ((hn33 k' i' (by omega)).trans ((hn26 k' i' (by omega)).trans ((hn19 k' i' (by omega)).trans ((hn12 k' i' (by omega)).trans ((hn7 k' i' (by omega)))))))⟩) hW hS (Nat.le_of_ble_eq_true rfl) (Nat.le_of_ble_eq_true rfl) dX4_init_29

theorem ds_X0_init : yX0_init.cls ≠ "java/lang/invoke/MethodHandle" ∧ yX0_init.cls ≠ "java/lang/invoke/VarHandle" ∧ (parseMethodDescriptor yX0_init.desc).map (fun d => d.parameters.length) = some 0 := by decide +kernel
theorem in_X0_init_0 : ∀ w ∈ wsX00, w ∈ wsX0_init := by decide +kernel
def rX0_init : Room := { frames := 1, cells := 1, slots := 169, locals := 12 }
set_option maxHeartbeats 4000000 in
set_option maxRecDepth 100000 in
theorem k_X0_init {l : Launch} {Z : gZ} {B : gB} {C0 : gC} {k i : Nat} (h0 : C0 k i = some (.inr (0, [.null]))) (hn1 : C0 (k + 1) i = none) : Met l yX0_init wsX0_init rX0_init (gPc Z B C0 [.ref (B k i)]) (gQvB Z (fun B1 C1 => ao Z B1 C1 k i ∧ (∀ k' i', ¬ (k' = k + 1 ∧ i' = i) → B1 k' i' = B k' i') ∧ fr2 k i C0 C1)) 1 169 (gA Z) := by
  refine g_ofVB (cc := cX0_init) (maxL := 1) (by decide) rfl (Nat.le_of_ble_eq_true rfl) ?_
  intro p e s m args below meth c Q X hin kret hW hS ls hl
  have hx := X.1.1
  have hb := X.1.2.1
  have hts := X.1.2.2.2.2
  have hl : lv_has ls 1 [(0, .ref (B k i))] := hl
  refine lv_aload_n hx hb dX0_init_0 rfl (lv_at hl 0 rfl) ?_
  refine W.objInit hx hb X.1.2.2.2.1 (hts (.methodLink RX0 3 objectInit) (List.mem_of_getElem? (i := 1) rfl)) (hts (.instanceMethod objectInit) (List.mem_of_getElem? (i := 2) rfl)) (hts _ (List.mem_of_getElem? (i := 3) rfl)) rfl (by rw [X.1.2.2.1]; exact hl.1) rfl dX0_init_1 (Nat.le_of_ble_eq_true rfl) (Nat.le_of_ble_eq_true rfl) ?_
  refine W.eq (g2 := F0 m 4 ls []) rfl ?_
  refine lv_aload_n hx hb dX0_init_4 rfl (lv_at hl 0 rfl) ?_
  refine lv_sipush (v := zI (169)) hx hb dX0_init_5 (by decide) ?_
  refine g_newI (N := 169) (k + 1) i X (hts _ (List.mem_of_getElem? (i := 4) rfl)) hW hS hn1 (by decide) (by decide) (by decide) (Nat.le_of_ble_eq_true rfl) (Nat.le_of_ble_eq_true rfl) dX0_init_8 (fun a1 B2 C3 H hB4 hBn5 hs6 hn7 hW hS => ?_)
  subst hB4
  have hl : lv_has ls 1 [(0, .ref (B2 k i))] := by rw [hBn5 k i (by omega)]; exact hl
  rw [← hBn5 k i (by omega)]
  have f8 : C3 k i = some (.inr (0, [.null])) := ((hn7 k i (by omega)).trans h0)
  have hs9 : C3 (k + 1) i = some (gJ Z 169 (fun _ => 0)) := hs6
  refine g_putF (ci := 0) (ty := .array .int) X in_X0_init_0 tyX0 tyX0_ok nmX0 rfl hW hS f8 0 (by decide) (hts _ (List.mem_of_getElem? (i := 5) rfl)) rfl hin rfl (by decide +kernel) (rfl) (rfl) (Nat.le_of_ble_eq_true rfl) dX0_init_10 (fun C10 H locs hs11 hn12 hW hS => ?_)
  exact kret _ _ _ _ _ _ _ _ (⟨⟨_, hs11, ((hn12 (k + 1) i (by omega)).trans (hs9))⟩, fun k' i' h => (hBn5 k' i' (by omega)), fun k' i' h => (hn12 k' i' (by omega)).trans ((hn7 k' i' (by omega)))⟩) hW hS (Nat.le_of_ble_eq_true rfl) (Nat.le_of_ble_eq_true rfl) dX0_init_13

theorem ds_X6_init : yX6_init.cls ≠ "java/lang/invoke/MethodHandle" ∧ yX6_init.cls ≠ "java/lang/invoke/VarHandle" ∧ (parseMethodDescriptor yX6_init.desc).map (fun d => d.parameters.length) = some 0 := by decide +kernel
theorem in_X6_init_6 : ∀ w ∈ wsX60, w ∈ wsX6_init := by decide +kernel
def rX6_init : Room := { frames := 1, cells := 1, slots := 51, locals := 12 }
set_option maxHeartbeats 4000000 in
set_option maxRecDepth 100000 in
theorem k_X6_init {l : Launch} {Z : gZ} {B : gB} {C0 : gC} {k i : Nat} (h0 : C0 k i = some (.inr (6, [.null]))) (hn1 : C0 (k + 1) i = none) : Met l yX6_init wsX6_init rX6_init (gPc Z B C0 [.ref (B k i)]) (gQvB Z (fun B1 C1 => wo Z B1 C1 k i ∧ (∀ k' i', ¬ (k' = k + 1 ∧ i' = i) → B1 k' i' = B k' i') ∧ fr2 k i C0 C1)) 1 51 (gA Z) := by
  refine g_ofVB (cc := cX6_init) (maxL := 1) (by decide) rfl (Nat.le_of_ble_eq_true rfl) ?_
  intro p e s m args below meth c Q X hin kret hW hS ls hl
  have hx := X.1.1
  have hb := X.1.2.1
  have hts := X.1.2.2.2.2
  have hl : lv_has ls 1 [(0, .ref (B k i))] := hl
  refine lv_aload_n hx hb dX6_init_0 rfl (lv_at hl 0 rfl) ?_
  refine W.objInit hx hb X.1.2.2.2.1 (hts (.methodLink RX6 3 objectInit) (List.mem_of_getElem? (i := 1) rfl)) (hts (.instanceMethod objectInit) (List.mem_of_getElem? (i := 2) rfl)) (hts _ (List.mem_of_getElem? (i := 3) rfl)) rfl (by rw [X.1.2.2.1]; exact hl.1) rfl dX6_init_1 (Nat.le_of_ble_eq_true rfl) (Nat.le_of_ble_eq_true rfl) ?_
  refine W.eq (g2 := F0 m 4 ls []) rfl ?_
  refine lv_aload_n hx hb dX6_init_4 rfl (lv_at hl 0 rfl) ?_
  refine lv_bipush (v := zI (51)) hx hb dX6_init_5 (by decide) ?_
  refine g_newI (N := 51) (k + 1) i X (hts _ (List.mem_of_getElem? (i := 4) rfl)) hW hS hn1 (by decide) (by decide) (by decide) (Nat.le_of_ble_eq_true rfl) (Nat.le_of_ble_eq_true rfl) dX6_init_7 (fun a1 B2 C3 H hB4 hBn5 hs6 hn7 hW hS => ?_)
  subst hB4
  have hl : lv_has ls 1 [(0, .ref (B2 k i))] := by rw [hBn5 k i (by omega)]; exact hl
  rw [← hBn5 k i (by omega)]
  have f8 : C3 k i = some (.inr (6, [.null])) := ((hn7 k i (by omega)).trans h0)
  have hs9 : C3 (k + 1) i = some (gJ Z 51 (fun _ => 0)) := hs6
  refine g_putF (ci := 6) (ty := .array .int) X in_X6_init_6 tyX6 tyX6_ok nmX6 rfl hW hS f8 0 (by decide) (hts _ (List.mem_of_getElem? (i := 5) rfl)) rfl hin rfl (by decide +kernel) (rfl) (rfl) (Nat.le_of_ble_eq_true rfl) dX6_init_9 (fun C10 H locs hs11 hn12 hW hS => ?_)
  exact kret _ _ _ _ _ _ _ _ (⟨⟨_, hs11, ((hn12 (k + 1) i (by omega)).trans (hs9))⟩, fun k' i' h => (hBn5 k' i' (by omega)), fun k' i' h => (hn12 k' i' (by omega)).trans ((hn7 k' i' (by omega)))⟩) hW hS (Nat.le_of_ble_eq_true rfl) (Nat.le_of_ble_eq_true rfl) dX6_init_12

theorem ds_X2_init : yX2_init.cls ≠ "java/lang/invoke/MethodHandle" ∧ yX2_init.cls ≠ "java/lang/invoke/VarHandle" ∧ (parseMethodDescriptor yX2_init.desc).map (fun d => d.parameters.length) = some 0 := by decide +kernel
theorem in_X2_init_2 : ∀ w ∈ wsX20, w ∈ wsX2_init := by decide +kernel
theorem in_X2_init_4 : ∀ w ∈ wsX40, w ∈ wsX2_init := by decide +kernel
theorem in_X2_init_5 : ∀ w ∈ wsX50, w ∈ wsX2_init := by decide +kernel
def rX2_init : Room := { frames := 2, cells := 16, slots := 522, locals := 32 }
set_option maxHeartbeats 4000000 in
set_option maxRecDepth 100000 in
theorem k_X2_init {l : Launch} {Z : gZ} {B : gB} {C0 : gC}  (h0 : C0 18 0 = some (.inr (2, [.null, .null, .null, .null, .null, .null, .int (zI 0)]))) (hno : ∀ k', 19 ≤ k' → k' ≤ 37 → C0 k' 0 = none) : Met l yX2_init wsX2_init rX2_init (gPc Z B C0 [.ref (B 18 0)]) (gQvB Z (fun B1 C1 => (∃ (cf : Int) (mt : List Int), moq Z B1 C1 cf mt) ∧ (∀ k' i', ¬ (19 ≤ k' ∧ k' ≤ 37 ∧ i' = 0) → B1 k' i' = B k' i') ∧ ∀ k' i', ¬ (18 ≤ k' ∧ k' ≤ 37 ∧ i' = 0) → C1 k' i' = C0 k' i')) 16 522 (gA Z) := by
  refine g_ofVB (cc := cX2_init) (maxL := 1) (by decide) rfl (Nat.le_of_ble_eq_true rfl) ?_
  intro p e s m args below meth c Q X hin kret hW hS ls hl
  have hx := X.1.1
  have hb := X.1.2.1
  have hts := X.1.2.2.2.2
  have hl : lv_has ls 1 [(0, .ref (B 18 0))] := hl
  refine lv_aload_n hx hb dX2_init_0 rfl (lv_at hl 0 rfl) ?_
  refine W.objInit hx hb X.1.2.2.2.1 (hts (.methodLink RX2 3 objectInit) (List.mem_of_getElem? (i := 1) rfl)) (hts (.instanceMethod objectInit) (List.mem_of_getElem? (i := 2) rfl)) (hts _ (List.mem_of_getElem? (i := 3) rfl)) rfl (by rw [X.1.2.2.1]; exact hl.1) rfl dX2_init_1 (Nat.le_of_ble_eq_true rfl) (Nat.le_of_ble_eq_true rfl) ?_
  refine W.eq (g2 := F0 m 4 ls []) rfl ?_
  refine lv_aload_n hx hb dX2_init_4 rfl (lv_at hl 0 rfl) ?_
  refine g_new (ci := 4) (fs := [.null, .null, .null, .int (zI 0)]) 20 0 X in_X2_init_4 tyX4 tyX4_ok (hts _ (List.mem_of_getElem? (i := 4) rfl)) (hts _ (List.mem_of_getElem? (i := 5) rfl)) (hts _ (List.mem_of_getElem? (i := 6) rfl)) rfl hW hS (hno 20 (by decide) (by decide)) (fun j hj => by rcases j with _ | _ | _ | _ | j; rfl; rfl; rfl; rfl; omega) (Nat.le_of_ble_eq_true rfl) (Nat.le_of_ble_eq_true rfl) dX2_init_5 (fun a1 B2 C3 H hB4 hBn5 hs6 hn7 hW hS => ?_)
  subst hB4
  have hl : lv_has ls 1 [(0, .ref (B2 18 0))] := by rw [hBn5 18 0 (gk (by decide))]; exact hl
  rw [← hBn5 18 0 (gk (by decide))]
  have f8 : C3 18 0 = some (.inr (2, [.null, .null, .null, .null, .null, .null, .int (zI 0)])) := ((hn7 18 0 (gk (by decide))).trans h0)
  refine lv_dup hx hb dX2_init_8 rfl ?_
  refine g_cvB (g_runIN X (k_X4_init hs6 (((hn7 21 0 (gk (by decide))).trans (hno 21 (by decide) (by decide)))) (((hn7 22 0 (gk (by decide))).trans (hno 22 (by decide) (by decide)))) (((hn7 23 0 (gk (by decide))).trans (hno 23 (by decide) (by decide))))) ⟨va_cnB 0 hts gX2_init_X4_init_n11 rfl rfl rfl (nmw_11 X.2.2.1) (hts _ (List.mem_of_getElem? (i := 6) rfl)) ds_X4_init ⟨Nat.le_of_ble_eq_true rfl, Nat.le_of_ble_eq_true rfl⟩, rfl, hts _ (List.mem_of_getElem? (i := 16) rfl)⟩ hW hS rfl hl.1 rfl (Nat.le_of_ble_eq_true rfl) dX2_init_9 ⟨Nat.le_of_ble_eq_true rfl, Nat.le_of_ble_eq_true rfl⟩) hS (fun B11 C9 H locs hp10 hW hS => ?_)
  obtain ⟨ht12, hB13, hf14⟩ := hp10
  have hl : lv_has ls 1 [(0, .ref (B11 18 0))] := by rw [hB13 18 0 (by omega)]; exact hl
  rw [← hB13 18 0 (by omega), ← hB13 20 0 (by omega)]
  have f15 : C9 18 0 = some (.inr (2, [.null, .null, .null, .null, .null, .null, .int (zI 0)])) := ((hf14 18 0 (by omega)).trans f8)
  refine g_putF (ci := 2) (ty := .object "ReviewBench$Script") X in_X2_init_2 tyX2 tyX2_ok nmX2 rfl hW hS f15 0 (by decide) (hts _ (List.mem_of_getElem? (i := 7) rfl)) rfl hin rfl (by decide +kernel) (rfl) (rfl) (Nat.le_of_ble_eq_true rfl) dX2_init_12 (fun C16 H locs hs17 hn18 hW hS => ?_)
  refine lv_aload_n hx hb dX2_init_15 rfl (lv_at hl 0 rfl) ?_
  refine g_new (ci := 4) (fs := [.null, .null, .null, .int (zI 0)]) 24 0 X in_X2_init_4 tyX4 tyX4_ok (hts _ (List.mem_of_getElem? (i := 4) rfl)) (hts _ (List.mem_of_getElem? (i := 5) rfl)) (hts _ (List.mem_of_getElem? (i := 6) rfl)) rfl hW hS ((hn18 24 0 (gk (by decide))).trans ((hf14 24 0 (by omega)).trans ((hn7 24 0 (gk (by decide))).trans (hno 24 (by decide) (by decide))))) (fun j hj => by rcases j with _ | _ | _ | _ | j; rfl; rfl; rfl; rfl; omega) (Nat.le_of_ble_eq_true rfl) (Nat.le_of_ble_eq_true rfl) dX2_init_16 (fun a19 B20 C21 H hB22 hBn23 hs24 hn25 hW hS => ?_)
  subst hB22
  have hl : lv_has ls 1 [(0, .ref (B20 18 0))] := by rw [hBn23 18 0 (gk (by decide))]; exact hl
  rw [← hBn23 18 0 (gk (by decide))]
  have f26 : C21 18 0 = some (.inr (2, [.ref (B11 20 0), .null, .null, .null, .null, .null, .int (zI 0)])) := ((hn25 18 0 (gk (by decide))).trans hs17)
  have f27 : C21 18 0 = some (.inr (2, [.ref (B20 20 0), .null, .null, .null, .null, .null, .int (zI 0)])) := by rw [hBn23 20 0 (gk (by decide))]; exact f26
  have hp28 : so Z B11 C21 20 0 := (so.kept (so.kept ht12 (hn18 20 0 (gk (by decide))) (hn18 21 0 (gk (by decide))) (hn18 22 0 (gk (by decide))) (hn18 23 0 (gk (by decide)))) (hn25 20 0 (gk (by decide))) (hn25 21 0 (gk (by decide))) (hn25 22 0 (gk (by decide))) (hn25 23 0 (gk (by decide))))
  refine lv_dup hx hb dX2_init_19 rfl ?_
  refine g_cvB (g_runIN X (k_X4_init hs24 (((hn25 25 0 (gk (by decide))).trans ((hn18 25 0 (gk (by decide))).trans ((hf14 25 0 (by omega)).trans ((hn7 25 0 (gk (by decide))).trans (hno 25 (by decide) (by decide))))))) (((hn25 26 0 (gk (by decide))).trans ((hn18 26 0 (gk (by decide))).trans ((hf14 26 0 (by omega)).trans ((hn7 26 0 (gk (by decide))).trans (hno 26 (by decide) (by decide))))))) (((hn25 27 0 (gk (by decide))).trans ((hn18 27 0 (gk (by decide))).trans ((hf14 27 0 (by omega)).trans ((hn7 27 0 (gk (by decide))).trans (hno 27 (by decide) (by decide)))))))) ⟨va_cnB 0 hts gX2_init_X4_init_n11 rfl rfl rfl (nmw_11 X.2.2.1) (hts _ (List.mem_of_getElem? (i := 6) rfl)) ds_X4_init ⟨Nat.le_of_ble_eq_true rfl, Nat.le_of_ble_eq_true rfl⟩, rfl, hts _ (List.mem_of_getElem? (i := 16) rfl)⟩ hW hS rfl hl.1 rfl (Nat.le_of_ble_eq_true rfl) dX2_init_20 ⟨Nat.le_of_ble_eq_true rfl, Nat.le_of_ble_eq_true rfl⟩) hS (fun B31 C29 H locs hp30 hW hS => ?_)
  obtain ⟨ht32, hB33, hf34⟩ := hp30
  have hl : lv_has ls 1 [(0, .ref (B31 18 0))] := by rw [hB33 18 0 (by omega)]; exact hl
  rw [← hB33 18 0 (by omega), ← hB33 24 0 (by omega)]
  have f35 : C29 18 0 = some (.inr (2, [.ref (B20 20 0), .null, .null, .null, .null, .null, .int (zI 0)])) := ((hf34 18 0 (by omega)).trans f27)
  have f36 : C29 18 0 = some (.inr (2, [.ref (B31 20 0), .null, .null, .null, .null, .null, .int (zI 0)])) := by rw [hB33 20 0 (by omega)]; exact f35
  have hp37 : so Z B20 C29 20 0 := (so.kept (so.B hp28 (hBn23 21 0 (gk (by decide))) (hBn23 22 0 (gk (by decide))) (hBn23 23 0 (gk (by decide)))) (hf34 20 0 (by omega)) (hf34 21 0 (by omega)) (hf34 22 0 (by omega)) (hf34 23 0 (by omega)))
  refine g_putF (ci := 2) (ty := .object "ReviewBench$Script") X in_X2_init_2 tyX2 tyX2_ok nmX2 rfl hW hS f36 1 (by decide) (hts _ (List.mem_of_getElem? (i := 8) rfl)) rfl hin rfl (by decide +kernel) (rfl) (rfl) (Nat.le_of_ble_eq_true rfl) dX2_init_23 (fun C38 H locs hs39 hn40 hW hS => ?_)
  refine lv_aload_n hx hb dX2_init_26 rfl (lv_at hl 0 rfl) ?_
  refine g_new (ci := 5) (fs := [.null, .int (zI 0)]) 30 0 X in_X2_init_5 tyX5 tyX5_ok (hts _ (List.mem_of_getElem? (i := 9) rfl)) (hts _ (List.mem_of_getElem? (i := 10) rfl)) (hts _ (List.mem_of_getElem? (i := 11) rfl)) rfl hW hS ((hn40 30 0 (gk (by decide))).trans ((hf34 30 0 (by omega)).trans ((hn25 30 0 (gk (by decide))).trans ((hn18 30 0 (gk (by decide))).trans ((hf14 30 0 (by omega)).trans ((hn7 30 0 (gk (by decide))).trans (hno 30 (by decide) (by decide)))))))) (fun j hj => by rcases j with _ | _ | j; rfl; rfl; omega) (Nat.le_of_ble_eq_true rfl) (Nat.le_of_ble_eq_true rfl) dX2_init_27 (fun a41 B42 C43 H hB44 hBn45 hs46 hn47 hW hS => ?_)
  subst hB44
  have hl : lv_has ls 1 [(0, .ref (B42 18 0))] := by rw [hBn45 18 0 (gk (by decide))]; exact hl
  rw [← hBn45 18 0 (gk (by decide))]
  have f48 : C43 18 0 = some (.inr (2, [.ref (B31 20 0), .ref (B31 24 0), .null, .null, .null, .null, .int (zI 0)])) := ((hn47 18 0 (gk (by decide))).trans hs39)
  have f49 : C43 18 0 = some (.inr (2, [.ref (B42 20 0), .ref (B42 24 0), .null, .null, .null, .null, .int (zI 0)])) := by rw [hBn45 20 0 (gk (by decide)), hBn45 24 0 (gk (by decide))]; exact f48
  have hp50 : so Z B31 C43 20 0 := (so.kept (so.kept (so.B hp37 (hB33 21 0 (by omega)) (hB33 22 0 (by omega)) (hB33 23 0 (by omega))) (hn40 20 0 (gk (by decide))) (hn40 21 0 (gk (by decide))) (hn40 22 0 (gk (by decide))) (hn40 23 0 (gk (by decide)))) (hn47 20 0 (gk (by decide))) (hn47 21 0 (gk (by decide))) (hn47 22 0 (gk (by decide))) (hn47 23 0 (gk (by decide))))
  have hp51 : so Z B31 C43 24 0 := (so.kept (so.kept ht32 (hn40 24 0 (gk (by decide))) (hn40 25 0 (gk (by decide))) (hn40 26 0 (gk (by decide))) (hn40 27 0 (gk (by decide)))) (hn47 24 0 (gk (by decide))) (hn47 25 0 (gk (by decide))) (hn47 26 0 (gk (by decide))) (hn47 27 0 (gk (by decide))))
  refine lv_dup hx hb dX2_init_30 rfl ?_
  refine g_cvB (g_runIN X (k_X5_init hs46 (((hn47 31 0 (gk (by decide))).trans ((hn40 31 0 (gk (by decide))).trans ((hf34 31 0 (by omega)).trans ((hn25 31 0 (gk (by decide))).trans ((hn18 31 0 (gk (by decide))).trans ((hf14 31 0 (by omega)).trans ((hn7 31 0 (gk (by decide))).trans (hno 31 (by decide) (by decide))))))))))) ⟨va_cnB 0 hts gX2_init_X5_init_n23 rfl rfl rfl (nmw_12 X.2.2.1) (hts _ (List.mem_of_getElem? (i := 11) rfl)) ds_X5_init ⟨Nat.le_of_ble_eq_true rfl, Nat.le_of_ble_eq_true rfl⟩, rfl, hts _ (List.mem_of_getElem? (i := 23) rfl)⟩ hW hS rfl hl.1 rfl (Nat.le_of_ble_eq_true rfl) dX2_init_31 ⟨Nat.le_of_ble_eq_true rfl, Nat.le_of_ble_eq_true rfl⟩) hS (fun B54 C52 H locs hp53 hW hS => ?_)
  obtain ⟨ht55, hB56, hf57⟩ := hp53
  have hl : lv_has ls 1 [(0, .ref (B54 18 0))] := by rw [hB56 18 0 (by omega)]; exact hl
  rw [← hB56 18 0 (by omega), ← hB56 30 0 (by omega)]
  have f58 : C52 18 0 = some (.inr (2, [.ref (B42 20 0), .ref (B42 24 0), .null, .null, .null, .null, .int (zI 0)])) := ((hf57 18 0 (by omega)).trans f49)
  have f59 : C52 18 0 = some (.inr (2, [.ref (B54 20 0), .ref (B54 24 0), .null, .null, .null, .null, .int (zI 0)])) := by rw [hB56 20 0 (by omega), hB56 24 0 (by omega)]; exact f58
  have hp60 : so Z B42 C52 20 0 := (so.kept (so.B hp50 (hBn45 21 0 (gk (by decide))) (hBn45 22 0 (gk (by decide))) (hBn45 23 0 (gk (by decide)))) (hf57 20 0 (by omega)) (hf57 21 0 (by omega)) (hf57 22 0 (by omega)) (hf57 23 0 (by omega)))
  have hp61 : so Z B42 C52 24 0 := (so.kept (so.B hp51 (hBn45 25 0 (gk (by decide))) (hBn45 26 0 (gk (by decide))) (hBn45 27 0 (gk (by decide)))) (hf57 24 0 (by omega)) (hf57 25 0 (by omega)) (hf57 26 0 (by omega)) (hf57 27 0 (by omega)))
  refine g_putF (ci := 2) (ty := .object "ReviewBench$Text") X in_X2_init_2 tyX2 tyX2_ok nmX2 rfl hW hS f59 2 (by decide) (hts _ (List.mem_of_getElem? (i := 12) rfl)) rfl hin rfl (by decide +kernel) (rfl) (rfl) (Nat.le_of_ble_eq_true rfl) dX2_init_34 (fun C62 H locs hs63 hn64 hW hS => ?_)
  refine lv_aload_n hx hb dX2_init_37 rfl (lv_at hl 0 rfl) ?_
  refine g_new (ci := 5) (fs := [.null, .int (zI 0)]) 32 0 X in_X2_init_5 tyX5 tyX5_ok (hts _ (List.mem_of_getElem? (i := 9) rfl)) (hts _ (List.mem_of_getElem? (i := 10) rfl)) (hts _ (List.mem_of_getElem? (i := 11) rfl)) rfl hW hS ((hn64 32 0 (gk (by decide))).trans ((hf57 32 0 (by omega)).trans ((hn47 32 0 (gk (by decide))).trans ((hn40 32 0 (gk (by decide))).trans ((hf34 32 0 (by omega)).trans ((hn25 32 0 (gk (by decide))).trans ((hn18 32 0 (gk (by decide))).trans ((hf14 32 0 (by omega)).trans ((hn7 32 0 (gk (by decide))).trans (hno 32 (by decide) (by decide))))))))))) (fun j hj => by rcases j with _ | _ | j; rfl; rfl; omega) (Nat.le_of_ble_eq_true rfl) (Nat.le_of_ble_eq_true rfl) dX2_init_38 (fun a65 B66 C67 H hB68 hBn69 hs70 hn71 hW hS => ?_)
  subst hB68
  have hl : lv_has ls 1 [(0, .ref (B66 18 0))] := by rw [hBn69 18 0 (gk (by decide))]; exact hl
  rw [← hBn69 18 0 (gk (by decide))]
  have f72 : C67 18 0 = some (.inr (2, [.ref (B54 20 0), .ref (B54 24 0), .ref (B54 30 0), .null, .null, .null, .int (zI 0)])) := ((hn71 18 0 (gk (by decide))).trans hs63)
  have f73 : C67 18 0 = some (.inr (2, [.ref (B66 20 0), .ref (B66 24 0), .ref (B66 30 0), .null, .null, .null, .int (zI 0)])) := by rw [hBn69 20 0 (gk (by decide)), hBn69 24 0 (gk (by decide)), hBn69 30 0 (gk (by decide))]; exact f72
  have hp74 : so Z B54 C67 20 0 := (so.kept (so.kept (so.B hp60 (hB56 21 0 (by omega)) (hB56 22 0 (by omega)) (hB56 23 0 (by omega))) (hn64 20 0 (gk (by decide))) (hn64 21 0 (gk (by decide))) (hn64 22 0 (gk (by decide))) (hn64 23 0 (gk (by decide)))) (hn71 20 0 (gk (by decide))) (hn71 21 0 (gk (by decide))) (hn71 22 0 (gk (by decide))) (hn71 23 0 (gk (by decide))))
  have hp75 : so Z B54 C67 24 0 := (so.kept (so.kept (so.B hp61 (hB56 25 0 (by omega)) (hB56 26 0 (by omega)) (hB56 27 0 (by omega))) (hn64 24 0 (gk (by decide))) (hn64 25 0 (gk (by decide))) (hn64 26 0 (gk (by decide))) (hn64 27 0 (gk (by decide)))) (hn71 24 0 (gk (by decide))) (hn71 25 0 (gk (by decide))) (hn71 26 0 (gk (by decide))) (hn71 27 0 (gk (by decide))))
  have ht76 : tx Z B54 C67 30 0 ([]) := (tx.kept (tx.kept ht55 (hn64 30 0 (gk (by decide))) (hn64 31 0 (gk (by decide)))) (hn71 30 0 (gk (by decide))) (hn71 31 0 (gk (by decide))))
  refine lv_dup hx hb dX2_init_41 rfl ?_
  refine g_cvB (g_runIN X (k_X5_init hs70 (((hn71 33 0 (gk (by decide))).trans ((hn64 33 0 (gk (by decide))).trans ((hf57 33 0 (by omega)).trans ((hn47 33 0 (gk (by decide))).trans ((hn40 33 0 (gk (by decide))).trans ((hf34 33 0 (by omega)).trans ((hn25 33 0 (gk (by decide))).trans ((hn18 33 0 (gk (by decide))).trans ((hf14 33 0 (by omega)).trans ((hn7 33 0 (gk (by decide))).trans (hno 33 (by decide) (by decide)))))))))))))) ⟨va_cnB 0 hts gX2_init_X5_init_n23 rfl rfl rfl (nmw_12 X.2.2.1) (hts _ (List.mem_of_getElem? (i := 11) rfl)) ds_X5_init ⟨Nat.le_of_ble_eq_true rfl, Nat.le_of_ble_eq_true rfl⟩, rfl, hts _ (List.mem_of_getElem? (i := 23) rfl)⟩ hW hS rfl hl.1 rfl (Nat.le_of_ble_eq_true rfl) dX2_init_42 ⟨Nat.le_of_ble_eq_true rfl, Nat.le_of_ble_eq_true rfl⟩) hS (fun B80 C78 H locs hp79 hW hS => ?_)
  obtain ⟨ht81, hB82, hf83⟩ := hp79
  have hl : lv_has ls 1 [(0, .ref (B80 18 0))] := by rw [hB82 18 0 (by omega)]; exact hl
  rw [← hB82 18 0 (by omega), ← hB82 32 0 (by omega)]
  have f84 : C78 18 0 = some (.inr (2, [.ref (B66 20 0), .ref (B66 24 0), .ref (B66 30 0), .null, .null, .null, .int (zI 0)])) := ((hf83 18 0 (by omega)).trans f73)
  have f85 : C78 18 0 = some (.inr (2, [.ref (B80 20 0), .ref (B80 24 0), .ref (B80 30 0), .null, .null, .null, .int (zI 0)])) := by rw [hB82 20 0 (by omega), hB82 24 0 (by omega), hB82 30 0 (by omega)]; exact f84
  have hp86 : so Z B66 C78 20 0 := (so.kept (so.B hp74 (hBn69 21 0 (gk (by decide))) (hBn69 22 0 (gk (by decide))) (hBn69 23 0 (gk (by decide)))) (hf83 20 0 (by omega)) (hf83 21 0 (by omega)) (hf83 22 0 (by omega)) (hf83 23 0 (by omega)))
  have hp87 : so Z B66 C78 24 0 := (so.kept (so.B hp75 (hBn69 25 0 (gk (by decide))) (hBn69 26 0 (gk (by decide))) (hBn69 27 0 (gk (by decide)))) (hf83 24 0 (by omega)) (hf83 25 0 (by omega)) (hf83 26 0 (by omega)) (hf83 27 0 (by omega)))
  have ht88 : tx Z B66 C78 30 0 ([]) := (tx.kept (tx.B ht76 (hBn69 31 0 (gk (by decide)))) (hf83 30 0 (by omega)) (hf83 31 0 (by omega)))
  refine g_putF (ci := 2) (ty := .object "ReviewBench$Text") X in_X2_init_2 tyX2 tyX2_ok nmX2 rfl hW hS f85 3 (by decide) (hts _ (List.mem_of_getElem? (i := 13) rfl)) rfl hin rfl (by decide +kernel) (rfl) (rfl) (Nat.le_of_ble_eq_true rfl) dX2_init_45 (fun C90 H locs hs91 hn92 hW hS => ?_)
  refine lv_aload_n hx hb dX2_init_48 rfl (lv_at hl 0 rfl) ?_
  refine g_new (ci := 5) (fs := [.null, .int (zI 0)]) 34 0 X in_X2_init_5 tyX5 tyX5_ok (hts _ (List.mem_of_getElem? (i := 9) rfl)) (hts _ (List.mem_of_getElem? (i := 10) rfl)) (hts _ (List.mem_of_getElem? (i := 11) rfl)) rfl hW hS ((hn92 34 0 (gk (by decide))).trans ((hf83 34 0 (by omega)).trans ((hn71 34 0 (gk (by decide))).trans ((hn64 34 0 (gk (by decide))).trans ((hf57 34 0 (by omega)).trans ((hn47 34 0 (gk (by decide))).trans ((hn40 34 0 (gk (by decide))).trans ((hf34 34 0 (by omega)).trans ((hn25 34 0 (gk (by decide))).trans ((hn18 34 0 (gk (by decide))).trans ((hf14 34 0 (by omega)).trans ((hn7 34 0 (gk (by decide))).trans (hno 34 (by decide) (by decide)))))))))))))) (fun j hj => by rcases j with _ | _ | j; rfl; rfl; omega) (Nat.le_of_ble_eq_true rfl) (Nat.le_of_ble_eq_true rfl) dX2_init_49 (fun a93 B94 C95 H hB96 hBn97 hs98 hn99 hW hS => ?_)
  subst hB96
  have hl : lv_has ls 1 [(0, .ref (B94 18 0))] := by rw [hBn97 18 0 (gk (by decide))]; exact hl
  rw [← hBn97 18 0 (gk (by decide))]
  have f100 : C95 18 0 = some (.inr (2, [.ref (B80 20 0), .ref (B80 24 0), .ref (B80 30 0), .ref (B80 32 0), .null, .null, .int (zI 0)])) := ((hn99 18 0 (gk (by decide))).trans hs91)
  have f101 : C95 18 0 = some (.inr (2, [.ref (B94 20 0), .ref (B94 24 0), .ref (B94 30 0), .ref (B94 32 0), .null, .null, .int (zI 0)])) := by rw [hBn97 20 0 (gk (by decide)), hBn97 24 0 (gk (by decide)), hBn97 30 0 (gk (by decide)), hBn97 32 0 (gk (by decide))]; exact f100
  have hp102 : so Z B80 C95 20 0 := (so.kept (so.kept (so.B hp86 (hB82 21 0 (by omega)) (hB82 22 0 (by omega)) (hB82 23 0 (by omega))) (hn92 20 0 (gk (by decide))) (hn92 21 0 (gk (by decide))) (hn92 22 0 (gk (by decide))) (hn92 23 0 (gk (by decide)))) (hn99 20 0 (gk (by decide))) (hn99 21 0 (gk (by decide))) (hn99 22 0 (gk (by decide))) (hn99 23 0 (gk (by decide))))
  have hp103 : so Z B80 C95 24 0 := (so.kept (so.kept (so.B hp87 (hB82 25 0 (by omega)) (hB82 26 0 (by omega)) (hB82 27 0 (by omega))) (hn92 24 0 (gk (by decide))) (hn92 25 0 (gk (by decide))) (hn92 26 0 (gk (by decide))) (hn92 27 0 (gk (by decide)))) (hn99 24 0 (gk (by decide))) (hn99 25 0 (gk (by decide))) (hn99 26 0 (gk (by decide))) (hn99 27 0 (gk (by decide))))
  have ht104 : tx Z B80 C95 30 0 ([]) := (tx.kept (tx.kept (tx.B ht88 (hB82 31 0 (by omega))) (hn92 30 0 (gk (by decide))) (hn92 31 0 (gk (by decide)))) (hn99 30 0 (gk (by decide))) (hn99 31 0 (gk (by decide))))
  have ht106 : tx Z B80 C95 32 0 ([]) := (tx.kept (tx.kept ht81 (hn92 32 0 (gk (by decide))) (hn92 33 0 (gk (by decide)))) (hn99 32 0 (gk (by decide))) (hn99 33 0 (gk (by decide))))
  refine lv_dup hx hb dX2_init_52 rfl ?_
  refine g_cvB (g_runIN X (k_X5_init hs98 (((hn99 35 0 (gk (by decide))).trans ((hn92 35 0 (gk (by decide))).trans ((hf83 35 0 (by omega)).trans ((hn71 35 0 (gk (by decide))).trans ((hn64 35 0 (gk (by decide))).trans ((hf57 35 0 (by omega)).trans ((hn47 35 0 (gk (by decide))).trans ((hn40 35 0 (gk (by decide))).trans ((hf34 35 0 (by omega)).trans ((hn25 35 0 (gk (by decide))).trans ((hn18 35 0 (gk (by decide))).trans ((hf14 35 0 (by omega)).trans ((hn7 35 0 (gk (by decide))).trans (hno 35 (by decide) (by decide))))))))))))))))) ⟨va_cnB 0 hts gX2_init_X5_init_n23 rfl rfl rfl (nmw_12 X.2.2.1) (hts _ (List.mem_of_getElem? (i := 11) rfl)) ds_X5_init ⟨Nat.le_of_ble_eq_true rfl, Nat.le_of_ble_eq_true rfl⟩, rfl, hts _ (List.mem_of_getElem? (i := 23) rfl)⟩ hW hS rfl hl.1 rfl (Nat.le_of_ble_eq_true rfl) dX2_init_53 ⟨Nat.le_of_ble_eq_true rfl, Nat.le_of_ble_eq_true rfl⟩) hS (fun B110 C108 H locs hp109 hW hS => ?_)
  obtain ⟨ht111, hB112, hf113⟩ := hp109
  have hl : lv_has ls 1 [(0, .ref (B110 18 0))] := by rw [hB112 18 0 (by omega)]; exact hl
  rw [← hB112 18 0 (by omega), ← hB112 34 0 (by omega)]
  have f114 : C108 18 0 = some (.inr (2, [.ref (B94 20 0), .ref (B94 24 0), .ref (B94 30 0), .ref (B94 32 0), .null, .null, .int (zI 0)])) := ((hf113 18 0 (by omega)).trans f101)
  have f115 : C108 18 0 = some (.inr (2, [.ref (B110 20 0), .ref (B110 24 0), .ref (B110 30 0), .ref (B110 32 0), .null, .null, .int (zI 0)])) := by rw [hB112 20 0 (by omega), hB112 24 0 (by omega), hB112 30 0 (by omega), hB112 32 0 (by omega)]; exact f114
  have hp116 : so Z B94 C108 20 0 := (so.kept (so.B hp102 (hBn97 21 0 (gk (by decide))) (hBn97 22 0 (gk (by decide))) (hBn97 23 0 (gk (by decide)))) (hf113 20 0 (by omega)) (hf113 21 0 (by omega)) (hf113 22 0 (by omega)) (hf113 23 0 (by omega)))
  have hp117 : so Z B94 C108 24 0 := (so.kept (so.B hp103 (hBn97 25 0 (gk (by decide))) (hBn97 26 0 (gk (by decide))) (hBn97 27 0 (gk (by decide)))) (hf113 24 0 (by omega)) (hf113 25 0 (by omega)) (hf113 26 0 (by omega)) (hf113 27 0 (by omega)))
  have ht118 : tx Z B94 C108 30 0 ([]) := (tx.kept (tx.B ht104 (hBn97 31 0 (gk (by decide)))) (hf113 30 0 (by omega)) (hf113 31 0 (by omega)))
  have ht120 : tx Z B94 C108 32 0 ([]) := (tx.kept (tx.B ht106 (hBn97 33 0 (gk (by decide)))) (hf113 32 0 (by omega)) (hf113 33 0 (by omega)))
  refine g_putF (ci := 2) (ty := .object "ReviewBench$Text") X in_X2_init_2 tyX2 tyX2_ok nmX2 rfl hW hS f115 4 (by decide) (hts _ (List.mem_of_getElem? (i := 14) rfl)) rfl hin rfl (by decide +kernel) (rfl) (rfl) (Nat.le_of_ble_eq_true rfl) dX2_init_56 (fun C122 H locs hs123 hn124 hW hS => ?_)
  refine lv_aload_n hx hb dX2_init_59 rfl (lv_at hl 0 rfl) ?_
  refine g_new (ci := 5) (fs := [.null, .int (zI 0)]) 36 0 X in_X2_init_5 tyX5 tyX5_ok (hts _ (List.mem_of_getElem? (i := 9) rfl)) (hts _ (List.mem_of_getElem? (i := 10) rfl)) (hts _ (List.mem_of_getElem? (i := 11) rfl)) rfl hW hS ((hn124 36 0 (gk (by decide))).trans ((hf113 36 0 (by omega)).trans ((hn99 36 0 (gk (by decide))).trans ((hn92 36 0 (gk (by decide))).trans ((hf83 36 0 (by omega)).trans ((hn71 36 0 (gk (by decide))).trans ((hn64 36 0 (gk (by decide))).trans ((hf57 36 0 (by omega)).trans ((hn47 36 0 (gk (by decide))).trans ((hn40 36 0 (gk (by decide))).trans ((hf34 36 0 (by omega)).trans ((hn25 36 0 (gk (by decide))).trans ((hn18 36 0 (gk (by decide))).trans ((hf14 36 0 (by omega)).trans ((hn7 36 0 (gk (by decide))).trans (hno 36 (by decide) (by decide))))))))))))))))) (fun j hj => by rcases j with _ | _ | j; rfl; rfl; omega) (Nat.le_of_ble_eq_true rfl) (Nat.le_of_ble_eq_true rfl) dX2_init_60 (fun a125 B126 C127 H hB128 hBn129 hs130 hn131 hW hS => ?_)
  subst hB128
  have hl : lv_has ls 1 [(0, .ref (B126 18 0))] := by rw [hBn129 18 0 (gk (by decide))]; exact hl
  rw [← hBn129 18 0 (gk (by decide))]
  have f132 : C127 18 0 = some (.inr (2, [.ref (B110 20 0), .ref (B110 24 0), .ref (B110 30 0), .ref (B110 32 0), .ref (B110 34 0), .null, .int (zI 0)])) := ((hn131 18 0 (gk (by decide))).trans hs123)
  have f133 : C127 18 0 = some (.inr (2, [.ref (B126 20 0), .ref (B126 24 0), .ref (B126 30 0), .ref (B126 32 0), .ref (B126 34 0), .null, .int (zI 0)])) := by rw [hBn129 20 0 (gk (by decide)), hBn129 24 0 (gk (by decide)), hBn129 30 0 (gk (by decide)), hBn129 32 0 (gk (by decide)), hBn129 34 0 (gk (by decide))]; exact f132
  have hp134 : so Z B110 C127 20 0 := (so.kept (so.kept (so.B hp116 (hB112 21 0 (by omega)) (hB112 22 0 (by omega)) (hB112 23 0 (by omega))) (hn124 20 0 (gk (by decide))) (hn124 21 0 (gk (by decide))) (hn124 22 0 (gk (by decide))) (hn124 23 0 (gk (by decide)))) (hn131 20 0 (gk (by decide))) (hn131 21 0 (gk (by decide))) (hn131 22 0 (gk (by decide))) (hn131 23 0 (gk (by decide))))
  have hp135 : so Z B110 C127 24 0 := (so.kept (so.kept (so.B hp117 (hB112 25 0 (by omega)) (hB112 26 0 (by omega)) (hB112 27 0 (by omega))) (hn124 24 0 (gk (by decide))) (hn124 25 0 (gk (by decide))) (hn124 26 0 (gk (by decide))) (hn124 27 0 (gk (by decide)))) (hn131 24 0 (gk (by decide))) (hn131 25 0 (gk (by decide))) (hn131 26 0 (gk (by decide))) (hn131 27 0 (gk (by decide))))
  have ht136 : tx Z B110 C127 30 0 ([]) := (tx.kept (tx.kept (tx.B ht118 (hB112 31 0 (by omega))) (hn124 30 0 (gk (by decide))) (hn124 31 0 (gk (by decide)))) (hn131 30 0 (gk (by decide))) (hn131 31 0 (gk (by decide))))
  have ht138 : tx Z B110 C127 32 0 ([]) := (tx.kept (tx.kept (tx.B ht120 (hB112 33 0 (by omega))) (hn124 32 0 (gk (by decide))) (hn124 33 0 (gk (by decide)))) (hn131 32 0 (gk (by decide))) (hn131 33 0 (gk (by decide))))
  have ht140 : tx Z B110 C127 34 0 ([]) := (tx.kept (tx.kept ht111 (hn124 34 0 (gk (by decide))) (hn124 35 0 (gk (by decide)))) (hn131 34 0 (gk (by decide))) (hn131 35 0 (gk (by decide))))
  refine lv_dup hx hb dX2_init_63 rfl ?_
  refine g_cvB (g_runIN X (k_X5_init hs130 (((hn131 37 0 (gk (by decide))).trans ((hn124 37 0 (gk (by decide))).trans ((hf113 37 0 (by omega)).trans ((hn99 37 0 (gk (by decide))).trans ((hn92 37 0 (gk (by decide))).trans ((hf83 37 0 (by omega)).trans ((hn71 37 0 (gk (by decide))).trans ((hn64 37 0 (gk (by decide))).trans ((hf57 37 0 (by omega)).trans ((hn47 37 0 (gk (by decide))).trans ((hn40 37 0 (gk (by decide))).trans ((hf34 37 0 (by omega)).trans ((hn25 37 0 (gk (by decide))).trans ((hn18 37 0 (gk (by decide))).trans ((hf14 37 0 (by omega)).trans ((hn7 37 0 (gk (by decide))).trans (hno 37 (by decide) (by decide)))))))))))))))))))) ⟨va_cnB 0 hts gX2_init_X5_init_n23 rfl rfl rfl (nmw_12 X.2.2.1) (hts _ (List.mem_of_getElem? (i := 11) rfl)) ds_X5_init ⟨Nat.le_of_ble_eq_true rfl, Nat.le_of_ble_eq_true rfl⟩, rfl, hts _ (List.mem_of_getElem? (i := 23) rfl)⟩ hW hS rfl hl.1 rfl (Nat.le_of_ble_eq_true rfl) dX2_init_64 ⟨Nat.le_of_ble_eq_true rfl, Nat.le_of_ble_eq_true rfl⟩) hS (fun B144 C142 H locs hp143 hW hS => ?_)
  obtain ⟨ht145, hB146, hf147⟩ := hp143
  have hl : lv_has ls 1 [(0, .ref (B144 18 0))] := by rw [hB146 18 0 (by omega)]; exact hl
  rw [← hB146 18 0 (by omega), ← hB146 36 0 (by omega)]
  have f148 : C142 18 0 = some (.inr (2, [.ref (B126 20 0), .ref (B126 24 0), .ref (B126 30 0), .ref (B126 32 0), .ref (B126 34 0), .null, .int (zI 0)])) := ((hf147 18 0 (by omega)).trans f133)
  have f149 : C142 18 0 = some (.inr (2, [.ref (B144 20 0), .ref (B144 24 0), .ref (B144 30 0), .ref (B144 32 0), .ref (B144 34 0), .null, .int (zI 0)])) := by rw [hB146 20 0 (by omega), hB146 24 0 (by omega), hB146 30 0 (by omega), hB146 32 0 (by omega), hB146 34 0 (by omega)]; exact f148
  have hp150 : so Z B126 C142 20 0 := (so.kept (so.B hp134 (hBn129 21 0 (gk (by decide))) (hBn129 22 0 (gk (by decide))) (hBn129 23 0 (gk (by decide)))) (hf147 20 0 (by omega)) (hf147 21 0 (by omega)) (hf147 22 0 (by omega)) (hf147 23 0 (by omega)))
  have hp151 : so Z B126 C142 24 0 := (so.kept (so.B hp135 (hBn129 25 0 (gk (by decide))) (hBn129 26 0 (gk (by decide))) (hBn129 27 0 (gk (by decide)))) (hf147 24 0 (by omega)) (hf147 25 0 (by omega)) (hf147 26 0 (by omega)) (hf147 27 0 (by omega)))
  have ht152 : tx Z B126 C142 30 0 ([]) := (tx.kept (tx.B ht136 (hBn129 31 0 (gk (by decide)))) (hf147 30 0 (by omega)) (hf147 31 0 (by omega)))
  have ht154 : tx Z B126 C142 32 0 ([]) := (tx.kept (tx.B ht138 (hBn129 33 0 (gk (by decide)))) (hf147 32 0 (by omega)) (hf147 33 0 (by omega)))
  have ht156 : tx Z B126 C142 34 0 ([]) := (tx.kept (tx.B ht140 (hBn129 35 0 (gk (by decide)))) (hf147 34 0 (by omega)) (hf147 35 0 (by omega)))
  refine g_putF (ci := 2) (ty := .object "ReviewBench$Text") X in_X2_init_2 tyX2 tyX2_ok nmX2 rfl hW hS f149 5 (by decide) (hts _ (List.mem_of_getElem? (i := 15) rfl)) rfl hin rfl (by decide +kernel) (rfl) (rfl) (Nat.le_of_ble_eq_true rfl) dX2_init_67 (fun C158 H locs hs159 hn160 hW hS => ?_)
  have hp161 : so Z B144 C158 20 0 := (so.kept (so.B hp150 (hB146 21 0 (by omega)) (hB146 22 0 (by omega)) (hB146 23 0 (by omega))) (hn160 20 0 (gk (by decide))) (hn160 21 0 (gk (by decide))) (hn160 22 0 (gk (by decide))) (hn160 23 0 (gk (by decide))))
  have hp162 : so Z B144 C158 24 0 := (so.kept (so.B hp151 (hB146 25 0 (by omega)) (hB146 26 0 (by omega)) (hB146 27 0 (by omega))) (hn160 24 0 (gk (by decide))) (hn160 25 0 (gk (by decide))) (hn160 26 0 (gk (by decide))) (hn160 27 0 (gk (by decide))))
  have ht163 : tx Z B144 C158 30 0 ([]) := (tx.kept (tx.B ht152 (hB146 31 0 (by omega))) (hn160 30 0 (gk (by decide))) (hn160 31 0 (gk (by decide))))
  have ht164 : tx Z B144 C158 32 0 ([]) := (tx.kept (tx.B ht154 (hB146 33 0 (by omega))) (hn160 32 0 (gk (by decide))) (hn160 33 0 (gk (by decide))))
  have ht165 : tx Z B144 C158 34 0 ([]) := (tx.kept (tx.B ht156 (hB146 35 0 (by omega))) (hn160 34 0 (gk (by decide))) (hn160 35 0 (gk (by decide))))
  have ht166 : tx Z B144 C158 36 0 ([]) := (tx.kept ht145 (hn160 36 0 (gk (by decide))) (hn160 37 0 (gk (by decide))))
  exact kret _ _ _ _ _ _ _ _ (⟨⟨_, _, hs159, hp161, hp162, ⟨_, ht163⟩, ⟨_, ht164⟩, ⟨_, ht165⟩, ht166⟩, fun k' i' h => (hB146 k' i' (by omega)).trans ((hBn129 k' i' (by omega)).trans ((hB112 k' i' (by omega)).trans ((hBn97 k' i' (by omega)).trans ((hB82 k' i' (by omega)).trans ((hBn69 k' i' (by omega)).trans ((hB56 k' i' (by omega)).trans ((hBn45 k' i' (by omega)).trans ((hB33 k' i' (by omega)).trans ((hBn23 k' i' (by omega)).trans ((hB13 k' i' (by omega)).trans ((hBn5 k' i' (by omega))))))))))))), fun k' i' h => (hn160 k' i' (by omega)).trans ((hf147 k' i' (by omega)).trans ((hn131 k' i' (by omega)).trans ((hn124 k' i' (by omega)).trans ((hf113 k' i' (by omega)).trans ((hn99 k' i' (by omega)).trans ((hn92 k' i' (by omega)).trans ((hf83 k' i' (by omega)).trans ((hn71 k' i' (by omega)).trans ((hn64 k' i' (by omega)).trans ((hf57 k' i' (by omega)).trans ((hn47 k' i' (by omega)).trans ((hn40 k' i' (by omega)).trans ((hf34 k' i' (by omega)).trans ((hn25 k' i' (by omega)).trans ((hn18 k' i' (by omega)).trans ((hf14 k' i' (by omega)).trans ((hn7 k' i' (by omega)))))))))))))))))))⟩) hW hS (Nat.le_of_ble_eq_true rfl) (Nat.le_of_ble_eq_true rfl) dX2_init_70

theorem ds_X3_init : yX3_init.cls ≠ "java/lang/invoke/MethodHandle" ∧ yX3_init.cls ≠ "java/lang/invoke/VarHandle" ∧ (parseMethodDescriptor yX3_init.desc).map (fun d => d.parameters.length) = some 3 := by decide +kernel
theorem in_X3_init_3 : ∀ w ∈ wsX30, w ∈ wsX3_init := by decide +kernel
def rX3_init : Room := { frames := 1, cells := 0, slots := 0, locals := 12 }
set_option maxHeartbeats 4000000 in
set_option maxRecDepth 100000 in
theorem k_X3_init {l : Launch} {Z : gZ} {B : gB} {C0 : gC} {i ch : Nat} {rd li : Int} (h0 : C0 60 i = some (.inr (3, [.null, .int (zI 0), .int (zI 0), .int (zI 0)]))) : Met l yX3_init wsX3_init rX3_init (gPc Z B C0 [.ref (B 60 i), .ref (B 40 ch), .int (zI rd), .int (zI li)]) (gQvB Z (fun B1 C1 => B1 = B ∧ C1 60 i = rmO B ch rd li 0 ∧ ∀ k' i', ¬ (k' = 60 ∧ i' = i) → C1 k' i' = C0 k' i')) 0 0 (gA Z) := by
  refine g_ofVB (cc := cX3_init) (maxL := 4) (by decide) rfl (Nat.le_of_ble_eq_true rfl) ?_
  intro p e s m args below meth c Q X hin kret hW hS ls hl
  have hx := X.1.1
  have hb := X.1.2.1
  have hts := X.1.2.2.2.2
  have hl : lv_has ls 4 [(0, .ref (B 60 i)), (1, .ref (B 40 ch)), (2, .int (zI rd)), (3, .int (zI li))] := hl
  refine lv_aload_n hx hb dX3_init_0 rfl (lv_at hl 0 rfl) ?_
  refine W.objInit hx hb X.1.2.2.2.1 (hts (.methodLink RX3 1 objectInit) (List.mem_of_getElem? (i := 1) rfl)) (hts (.instanceMethod objectInit) (List.mem_of_getElem? (i := 2) rfl)) (hts _ (List.mem_of_getElem? (i := 3) rfl)) rfl (by rw [X.1.2.2.1]; exact hl.1) rfl dX3_init_1 (Nat.le_of_ble_eq_true rfl) (Nat.le_of_ble_eq_true rfl) ?_
  refine W.eq (g2 := F0 m 4 ls []) rfl ?_
  refine lv_aload_n hx hb dX3_init_4 rfl (lv_at hl 0 rfl) ?_
  refine lv_aload_n hx hb dX3_init_5 rfl (lv_at hl 1 rfl) ?_
  refine g_putF (ci := 3) (ty := .object "ReviewBench$Change") X in_X3_init_3 tyX3 tyX3_ok nmX3 rfl hW hS h0 0 (by decide) (hts _ (List.mem_of_getElem? (i := 4) rfl)) rfl hin rfl (by decide +kernel) (rfl) (rfl) (Nat.le_of_ble_eq_true rfl) dX3_init_6 (fun C1 H locs hs2 hn3 hW hS => ?_)
  refine lv_aload_n hx hb dX3_init_9 rfl (lv_at hl 0 rfl) ?_
  refine lv_iload_n hx hb dX3_init_10 rfl (lv_at hl 2 rfl) ?_
  refine g_putF (ci := 3) (ty := .int) X in_X3_init_3 tyX3 tyX3_ok nmX3 rfl hW hS hs2 1 (by decide) (hts _ (List.mem_of_getElem? (i := 5) rfl)) rfl hin rfl (by decide +kernel) (rfl) (rfl) (Nat.le_of_ble_eq_true rfl) dX3_init_11 (fun C4 H locs hs5 hn6 hW hS => ?_)
  refine lv_aload_n hx hb dX3_init_14 rfl (lv_at hl 0 rfl) ?_
  refine lv_iload_n hx hb dX3_init_15 rfl (lv_at hl 3 rfl) ?_
  refine g_putF (ci := 3) (ty := .int) X in_X3_init_3 tyX3 tyX3_ok nmX3 rfl hW hS hs5 2 (by decide) (hts _ (List.mem_of_getElem? (i := 6) rfl)) rfl hin rfl (by decide +kernel) (rfl) (rfl) (Nat.le_of_ble_eq_true rfl) dX3_init_16 (fun C7 H locs hs8 hn9 hW hS => ?_)
  exact kret _ _ _ _ _ _ _ _ (⟨rfl, hs8, fun k' i' h => (hn9 k' i' (by omega)).trans ((hn6 k' i' (by omega)).trans ((hn3 k' i' (by omega))))⟩) hW hS (Nat.le_of_ble_eq_true rfl) (Nat.le_of_ble_eq_true rfl) dX3_init_19

theorem ds_X1_init : yX1_init.cls ≠ "java/lang/invoke/MethodHandle" ∧ yX1_init.cls ≠ "java/lang/invoke/VarHandle" ∧ (parseMethodDescriptor yX1_init.desc).map (fun d => d.parameters.length) = some 3 := by decide +kernel
theorem in_X1_init_1 : ∀ w ∈ wsX10, w ∈ wsX1_init := by decide +kernel
theorem in_X1_init_5 : ∀ w ∈ wsX50, w ∈ wsX1_init := by decide +kernel
def rX1_init : Room := { frames := 5, cells := 8, slots := 87, locals := 111 }
set_option maxHeartbeats 4000000 in
set_option maxRecDepth 100000 in
theorem k_X1_init {l : Launch} {Z : gZ} {B : gB} {C0 : gC} {i km um : Nat} {nm au : Int} {t : List Int} (h0 : C0 40 i = some (.inr (1, [.int (zI 0), .int (zI 0), .null, .null, .null, .null, .int (zI 0), .int (zI 0), .int (zI 0), .int (zI 0), .null]))) (hno : ∀ k', 41 ≤ k' → k' ≤ 50 → k' ≠ 46 → k' ≠ 47 → C0 k' i = none) (ht : tx Z B C0 km um t) (hkm : km + 1 < 40) : Met l yX1_init wsX1_init rX1_init (gPc Z B C0 [.ref (B 40 i), .int (zI nm), .int (zI au), .ref (B km um)]) (gQvB Z (fun B1 C1 => C1 40 i = chO B1 i nm au 0 0 0 0 ∧ tx Z B1 C1 41 i t ∧ tx Z B1 C1 43 i [] ∧ C1 45 i = some (gR Z 3 4 (fun _ => none)) ∧ tx Z B1 C1 48 i [] ∧ (∃ F, C1 50 i = some (gJ Z 5 F) ∧ ∀ u, u < 5 → F u = -1) ∧ (∀ k' i', ¬ (41 ≤ k' ∧ k' ≤ 50 ∧ k' ≠ 46 ∧ k' ≠ 47 ∧ i' = i) → B1 k' i' = B k' i') ∧ ∀ k' i', ¬ (40 ≤ k' ∧ k' ≤ 50 ∧ k' ≠ 46 ∧ k' ≠ 47 ∧ i' = i) → C1 k' i' = C0 k' i')) 8 87 (gA Z) := by
  refine g_ofVB (cc := cX1_init) (maxL := 4) (by decide) rfl (Nat.le_of_ble_eq_true rfl) ?_
  intro p e s m args below meth c Q X hin kret hW hS ls hl
  have hx := X.1.1
  have hb := X.1.2.1
  have hts := X.1.2.2.2.2
  have hl : lv_has ls 4 [(0, .ref (B 40 i)), (1, .int (zI nm)), (2, .int (zI au)), (3, .ref (B km um))] := hl
  refine lv_aload_n hx hb dX1_init_0 rfl (lv_at hl 0 rfl) ?_
  refine W.objInit hx hb X.1.2.2.2.1 (hts (.methodLink RX1 3 objectInit) (List.mem_of_getElem? (i := 1) rfl)) (hts (.instanceMethod objectInit) (List.mem_of_getElem? (i := 2) rfl)) (hts _ (List.mem_of_getElem? (i := 3) rfl)) rfl (by rw [X.1.2.2.1]; exact hl.1) rfl dX1_init_1 (Nat.le_of_ble_eq_true rfl) (Nat.le_of_ble_eq_true rfl) ?_
  refine W.eq (g2 := F0 m 4 ls []) rfl ?_
  refine lv_aload_n hx hb dX1_init_4 rfl (lv_at hl 0 rfl) ?_
  refine g_new (ci := 5) (fs := [.null, .int (zI 0)]) 41 i X in_X1_init_5 tyX5 tyX5_ok (hts _ (List.mem_of_getElem? (i := 4) rfl)) (hts _ (List.mem_of_getElem? (i := 5) rfl)) (hts _ (List.mem_of_getElem? (i := 6) rfl)) rfl hW hS (hno 41 (by decide) (by decide) (by decide) (by decide)) (fun j hj => by rcases j with _ | _ | j; rfl; rfl; omega) (Nat.le_of_ble_eq_true rfl) (Nat.le_of_ble_eq_true rfl) dX1_init_5 (fun a1 B2 C3 H hB4 hBn5 hs6 hn7 hW hS => ?_)
  subst hB4
  have hl : lv_has ls 4 [(0, .ref (B2 40 i)), (1, .int (zI nm)), (2, .int (zI au)), (3, .ref (B2 km um))] := by rw [hBn5 40 i (gk (by decide)), hBn5 km um (by omega)]; exact hl
  rw [← hBn5 40 i (gk (by decide))]
  have f8 : C3 40 i = some (.inr (1, [.int (zI 0), .int (zI 0), .null, .null, .null, .null, .int (zI 0), .int (zI 0), .int (zI 0), .int (zI 0), .null])) := ((hn7 40 i (gk (by decide))).trans h0)
  have ht9 : tx Z B C3 km um t := (tx.kept ht (hn7 km um (by omega)) (hn7 (km + 1) um (by omega)))
  refine lv_dup hx hb dX1_init_8 rfl ?_
  refine g_cvB (g_runIN X (k_X5_init hs6 (((hn7 42 i (gk (by decide))).trans (hno 42 (by decide) (by decide) (by decide) (by decide))))) ⟨va_cnB 0 hts gX1_init_X5_init_n11 rfl rfl rfl (nmw_8 X.2.2.1) (hts _ (List.mem_of_getElem? (i := 6) rfl)) ds_X5_init ⟨Nat.le_of_ble_eq_true rfl, Nat.le_of_ble_eq_true rfl⟩, rfl, hts _ (List.mem_of_getElem? (i := 15) rfl)⟩ hW hS rfl hl.1 rfl (Nat.le_of_ble_eq_true rfl) dX1_init_9 ⟨Nat.le_of_ble_eq_true rfl, Nat.le_of_ble_eq_true rfl⟩) hS (fun B13 C11 H locs hp12 hW hS => ?_)
  obtain ⟨ht14, hB15, hf16⟩ := hp12
  have hl : lv_has ls 4 [(0, .ref (B13 40 i)), (1, .int (zI nm)), (2, .int (zI au)), (3, .ref (B13 km um))] := by rw [hB15 40 i (by omega), hB15 km um (by omega)]; exact hl
  rw [← hB15 40 i (by omega), ← hB15 41 i (by omega)]
  have f17 : C11 40 i = some (.inr (1, [.int (zI 0), .int (zI 0), .null, .null, .null, .null, .int (zI 0), .int (zI 0), .int (zI 0), .int (zI 0), .null])) := ((hf16 40 i (by omega)).trans f8)
  have ht18 : tx Z B2 C11 km um t := (tx.kept (tx.B ht9 (hBn5 (km + 1) um (by omega))) (hf16 km um (by omega)) (hf16 (km + 1) um (by omega)))
  refine g_putF (ci := 1) (ty := .object "ReviewBench$Text") X in_X1_init_1 tyX1 tyX1_ok nmX1 rfl hW hS f17 2 (by decide) (hts _ (List.mem_of_getElem? (i := 7) rfl)) rfl hin rfl (by decide +kernel) (rfl) (rfl) (Nat.le_of_ble_eq_true rfl) dX1_init_12 (fun C20 H locs hs21 hn22 hW hS => ?_)
  refine lv_aload_n hx hb dX1_init_15 rfl (lv_at hl 0 rfl) ?_
  refine g_new (ci := 5) (fs := [.null, .int (zI 0)]) 43 i X in_X1_init_5 tyX5 tyX5_ok (hts _ (List.mem_of_getElem? (i := 4) rfl)) (hts _ (List.mem_of_getElem? (i := 5) rfl)) (hts _ (List.mem_of_getElem? (i := 6) rfl)) rfl hW hS ((hn22 43 i (gk (by decide))).trans ((hf16 43 i (by omega)).trans ((hn7 43 i (gk (by decide))).trans (hno 43 (by decide) (by decide) (by decide) (by decide))))) (fun j hj => by rcases j with _ | _ | j; rfl; rfl; omega) (Nat.le_of_ble_eq_true rfl) (Nat.le_of_ble_eq_true rfl) dX1_init_16 (fun a23 B24 C25 H hB26 hBn27 hs28 hn29 hW hS => ?_)
  subst hB26
  have hl : lv_has ls 4 [(0, .ref (B24 40 i)), (1, .int (zI nm)), (2, .int (zI au)), (3, .ref (B24 km um))] := by rw [hBn27 40 i (gk (by decide)), hBn27 km um (by omega)]; exact hl
  rw [← hBn27 40 i (gk (by decide))]
  have f30 : C25 40 i = some (.inr (1, [.int (zI 0), .int (zI 0), .ref (B13 41 i), .null, .null, .null, .int (zI 0), .int (zI 0), .int (zI 0), .int (zI 0), .null])) := ((hn29 40 i (gk (by decide))).trans hs21)
  have f31 : C25 40 i = some (.inr (1, [.int (zI 0), .int (zI 0), .ref (B24 41 i), .null, .null, .null, .int (zI 0), .int (zI 0), .int (zI 0), .int (zI 0), .null])) := by rw [hBn27 41 i (gk (by decide))]; exact f30
  have ht32 : tx Z B13 C25 km um t := (tx.kept (tx.kept (tx.B ht18 (hB15 (km + 1) um (by omega))) (hn22 km um (by omega)) (hn22 (km + 1) um (by omega))) (hn29 km um (by omega)) (hn29 (km + 1) um (by omega)))
  have ht34 : tx Z B13 C25 41 i ([]) := (tx.kept (tx.kept ht14 (hn22 41 i (gk (by decide))) (hn22 42 i (gk (by decide)))) (hn29 41 i (gk (by decide))) (hn29 42 i (gk (by decide))))
  refine lv_dup hx hb dX1_init_19 rfl ?_
  refine g_cvB (g_runIN X (k_X5_init hs28 (((hn29 44 i (gk (by decide))).trans ((hn22 44 i (gk (by decide))).trans ((hf16 44 i (by omega)).trans ((hn7 44 i (gk (by decide))).trans (hno 44 (by decide) (by decide) (by decide) (by decide)))))))) ⟨va_cnB 0 hts gX1_init_X5_init_n11 rfl rfl rfl (nmw_8 X.2.2.1) (hts _ (List.mem_of_getElem? (i := 6) rfl)) ds_X5_init ⟨Nat.le_of_ble_eq_true rfl, Nat.le_of_ble_eq_true rfl⟩, rfl, hts _ (List.mem_of_getElem? (i := 15) rfl)⟩ hW hS rfl hl.1 rfl (Nat.le_of_ble_eq_true rfl) dX1_init_20 ⟨Nat.le_of_ble_eq_true rfl, Nat.le_of_ble_eq_true rfl⟩) hS (fun B38 C36 H locs hp37 hW hS => ?_)
  obtain ⟨ht39, hB40, hf41⟩ := hp37
  have hl : lv_has ls 4 [(0, .ref (B38 40 i)), (1, .int (zI nm)), (2, .int (zI au)), (3, .ref (B38 km um))] := by rw [hB40 40 i (by omega), hB40 km um (by omega)]; exact hl
  rw [← hB40 40 i (by omega), ← hB40 43 i (by omega)]
  have f42 : C36 40 i = some (.inr (1, [.int (zI 0), .int (zI 0), .ref (B24 41 i), .null, .null, .null, .int (zI 0), .int (zI 0), .int (zI 0), .int (zI 0), .null])) := ((hf41 40 i (by omega)).trans f31)
  have f43 : C36 40 i = some (.inr (1, [.int (zI 0), .int (zI 0), .ref (B38 41 i), .null, .null, .null, .int (zI 0), .int (zI 0), .int (zI 0), .int (zI 0), .null])) := by rw [hB40 41 i (by omega)]; exact f42
  have ht44 : tx Z B24 C36 km um t := (tx.kept (tx.B ht32 (hBn27 (km + 1) um (by omega))) (hf41 km um (by omega)) (hf41 (km + 1) um (by omega)))
  have ht46 : tx Z B24 C36 41 i ([]) := (tx.kept (tx.B ht34 (hBn27 42 i (gk (by decide)))) (hf41 41 i (by omega)) (hf41 42 i (by omega)))
  refine g_putF (ci := 1) (ty := .object "ReviewBench$Text") X in_X1_init_1 tyX1 tyX1_ok nmX1 rfl hW hS f43 3 (by decide) (hts _ (List.mem_of_getElem? (i := 8) rfl)) rfl hin rfl (by decide +kernel) (rfl) (rfl) (Nat.le_of_ble_eq_true rfl) dX1_init_23 (fun C48 H locs hs49 hn50 hW hS => ?_)
  refine lv_aload_n hx hb dX1_init_26 rfl (lv_at hl 0 rfl) ?_
  refine lv_iconst (v := zI (4)) hx hb dX1_init_27 rfl ?_
  refine g_newR (N := 4) (t := 3) (Cn := RX5) 45 i X (hts _ (List.mem_of_getElem? (i := 4) rfl)) (by decide) rfl hW hS ((hn50 45 i (gk (by decide))).trans ((hf41 45 i (by omega)).trans ((hn29 45 i (gk (by decide))).trans ((hn22 45 i (gk (by decide))).trans ((hf16 45 i (by omega)).trans ((hn7 45 i (gk (by decide))).trans (hno 45 (by decide) (by decide) (by decide) (by decide)))))))) (by decide) (by decide) (by decide) (Nat.le_of_ble_eq_true rfl) (Nat.le_of_ble_eq_true rfl) dX1_init_28 (fun a51 B52 C53 H hB54 hBn55 hs56 hn57 hW hS => ?_)
  subst hB54
  have hl : lv_has ls 4 [(0, .ref (B52 40 i)), (1, .int (zI nm)), (2, .int (zI au)), (3, .ref (B52 km um))] := by rw [hBn55 40 i (gk (by decide)), hBn55 km um (by omega)]; exact hl
  rw [← hBn55 40 i (gk (by decide))]
  have f58 : C53 40 i = some (.inr (1, [.int (zI 0), .int (zI 0), .ref (B38 41 i), .ref (B38 43 i), .null, .null, .int (zI 0), .int (zI 0), .int (zI 0), .int (zI 0), .null])) := ((hn57 40 i (gk (by decide))).trans hs49)
  have f59 : C53 40 i = some (.inr (1, [.int (zI 0), .int (zI 0), .ref (B52 41 i), .ref (B52 43 i), .null, .null, .int (zI 0), .int (zI 0), .int (zI 0), .int (zI 0), .null])) := by rw [hBn55 41 i (gk (by decide)), hBn55 43 i (gk (by decide))]; exact f58
  have ht60 : tx Z B38 C53 km um t := (tx.kept (tx.kept (tx.B ht44 (hB40 (km + 1) um (by omega))) (hn50 km um (by omega)) (hn50 (km + 1) um (by omega))) (hn57 km um (by omega)) (hn57 (km + 1) um (by omega)))
  have ht62 : tx Z B38 C53 41 i ([]) := (tx.kept (tx.kept (tx.B ht46 (hB40 42 i (by omega))) (hn50 41 i (gk (by decide))) (hn50 42 i (gk (by decide)))) (hn57 41 i (gk (by decide))) (hn57 42 i (gk (by decide))))
  have ht64 : tx Z B38 C53 43 i ([]) := (tx.kept (tx.kept ht39 (hn50 43 i (gk (by decide))) (hn50 44 i (gk (by decide)))) (hn57 43 i (gk (by decide))) (hn57 44 i (gk (by decide))))
  refine g_putF (ci := 1) (ty := .array (.object "ReviewBench$Text")) X in_X1_init_1 tyX1 tyX1_ok nmX1 rfl hW hS f59 4 (by decide) (hts _ (List.mem_of_getElem? (i := 9) rfl)) rfl hin rfl (by decide +kernel) (rfl) (rfl) (Nat.le_of_ble_eq_true rfl) dX1_init_31 (fun C66 H locs hs67 hn68 hW hS => ?_)
  refine lv_aload_n hx hb dX1_init_34 rfl (lv_at hl 0 rfl) ?_
  refine g_new (ci := 5) (fs := [.null, .int (zI 0)]) 48 i X in_X1_init_5 tyX5 tyX5_ok (hts _ (List.mem_of_getElem? (i := 4) rfl)) (hts _ (List.mem_of_getElem? (i := 5) rfl)) (hts _ (List.mem_of_getElem? (i := 6) rfl)) rfl hW hS ((hn68 48 i (gk (by decide))).trans ((hn57 48 i (gk (by decide))).trans ((hn50 48 i (gk (by decide))).trans ((hf41 48 i (by omega)).trans ((hn29 48 i (gk (by decide))).trans ((hn22 48 i (gk (by decide))).trans ((hf16 48 i (by omega)).trans ((hn7 48 i (gk (by decide))).trans (hno 48 (by decide) (by decide) (by decide) (by decide)))))))))) (fun j hj => by rcases j with _ | _ | j; rfl; rfl; omega) (Nat.le_of_ble_eq_true rfl) (Nat.le_of_ble_eq_true rfl) dX1_init_35 (fun a69 B70 C71 H hB72 hBn73 hs74 hn75 hW hS => ?_)
  subst hB72
  have hl : lv_has ls 4 [(0, .ref (B70 40 i)), (1, .int (zI nm)), (2, .int (zI au)), (3, .ref (B70 km um))] := by rw [hBn73 40 i (gk (by decide)), hBn73 km um (by omega)]; exact hl
  rw [← hBn73 40 i (gk (by decide))]
  have f76 : C71 40 i = some (.inr (1, [.int (zI 0), .int (zI 0), .ref (B52 41 i), .ref (B52 43 i), .ref (B52 45 i), .null, .int (zI 0), .int (zI 0), .int (zI 0), .int (zI 0), .null])) := ((hn75 40 i (gk (by decide))).trans hs67)
  have f77 : C71 40 i = some (.inr (1, [.int (zI 0), .int (zI 0), .ref (B70 41 i), .ref (B70 43 i), .ref (B70 45 i), .null, .int (zI 0), .int (zI 0), .int (zI 0), .int (zI 0), .null])) := by rw [hBn73 41 i (gk (by decide)), hBn73 43 i (gk (by decide)), hBn73 45 i (gk (by decide))]; exact f76
  have ht78 : tx Z B52 C71 km um t := (tx.kept (tx.kept (tx.B ht60 (hBn55 (km + 1) um (by omega))) (hn68 km um (by omega)) (hn68 (km + 1) um (by omega))) (hn75 km um (by omega)) (hn75 (km + 1) um (by omega)))
  have ht80 : tx Z B52 C71 41 i ([]) := (tx.kept (tx.kept (tx.B ht62 (hBn55 42 i (gk (by decide)))) (hn68 41 i (gk (by decide))) (hn68 42 i (gk (by decide)))) (hn75 41 i (gk (by decide))) (hn75 42 i (gk (by decide))))
  have ht82 : tx Z B52 C71 43 i ([]) := (tx.kept (tx.kept (tx.B ht64 (hBn55 44 i (gk (by decide)))) (hn68 43 i (gk (by decide))) (hn68 44 i (gk (by decide)))) (hn75 43 i (gk (by decide))) (hn75 44 i (gk (by decide))))
  have f84 : C71 45 i = some (gR Z 3 4 (fun _ => none)) := ((hn75 45 i (gk (by decide))).trans ((hn68 45 i (gk (by decide))).trans hs56))
  refine lv_dup hx hb dX1_init_38 rfl ?_
  refine g_cvB (g_runIN X (k_X5_init hs74 (((hn75 49 i (gk (by decide))).trans ((hn68 49 i (gk (by decide))).trans ((hn57 49 i (gk (by decide))).trans ((hn50 49 i (gk (by decide))).trans ((hf41 49 i (by omega)).trans ((hn29 49 i (gk (by decide))).trans ((hn22 49 i (gk (by decide))).trans ((hf16 49 i (by omega)).trans ((hn7 49 i (gk (by decide))).trans (hno 49 (by decide) (by decide) (by decide) (by decide))))))))))))) ⟨va_cnB 0 hts gX1_init_X5_init_n11 rfl rfl rfl (nmw_8 X.2.2.1) (hts _ (List.mem_of_getElem? (i := 6) rfl)) ds_X5_init ⟨Nat.le_of_ble_eq_true rfl, Nat.le_of_ble_eq_true rfl⟩, rfl, hts _ (List.mem_of_getElem? (i := 15) rfl)⟩ hW hS rfl hl.1 rfl (Nat.le_of_ble_eq_true rfl) dX1_init_39 ⟨Nat.le_of_ble_eq_true rfl, Nat.le_of_ble_eq_true rfl⟩) hS (fun B87 C85 H locs hp86 hW hS => ?_)
  obtain ⟨ht88, hB89, hf90⟩ := hp86
  have hl : lv_has ls 4 [(0, .ref (B87 40 i)), (1, .int (zI nm)), (2, .int (zI au)), (3, .ref (B87 km um))] := by rw [hB89 40 i (by omega), hB89 km um (by omega)]; exact hl
  rw [← hB89 40 i (by omega), ← hB89 48 i (by omega)]
  have f91 : C85 40 i = some (.inr (1, [.int (zI 0), .int (zI 0), .ref (B70 41 i), .ref (B70 43 i), .ref (B70 45 i), .null, .int (zI 0), .int (zI 0), .int (zI 0), .int (zI 0), .null])) := ((hf90 40 i (by omega)).trans f77)
  have f92 : C85 40 i = some (.inr (1, [.int (zI 0), .int (zI 0), .ref (B87 41 i), .ref (B87 43 i), .ref (B87 45 i), .null, .int (zI 0), .int (zI 0), .int (zI 0), .int (zI 0), .null])) := by rw [hB89 41 i (by omega), hB89 43 i (by omega), hB89 45 i (by omega)]; exact f91
  have ht93 : tx Z B70 C85 km um t := (tx.kept (tx.B ht78 (hBn73 (km + 1) um (by omega))) (hf90 km um (by omega)) (hf90 (km + 1) um (by omega)))
  have ht95 : tx Z B70 C85 41 i ([]) := (tx.kept (tx.B ht80 (hBn73 42 i (gk (by decide)))) (hf90 41 i (by omega)) (hf90 42 i (by omega)))
  have ht97 : tx Z B70 C85 43 i ([]) := (tx.kept (tx.B ht82 (hBn73 44 i (gk (by decide)))) (hf90 43 i (by omega)) (hf90 44 i (by omega)))
  have f99 : C85 45 i = some (gR Z 3 4 (fun _ => none)) := ((hf90 45 i (by omega)).trans f84)
  refine g_putF (ci := 1) (ty := .object "ReviewBench$Text") X in_X1_init_1 tyX1 tyX1_ok nmX1 rfl hW hS f92 5 (by decide) (hts _ (List.mem_of_getElem? (i := 10) rfl)) rfl hin rfl (by decide +kernel) (rfl) (rfl) (Nat.le_of_ble_eq_true rfl) dX1_init_42 (fun C100 H locs hs101 hn102 hW hS => ?_)
  refine lv_aload_n hx hb dX1_init_45 rfl (lv_at hl 0 rfl) ?_
  refine lv_iconst (v := zI (5)) hx hb dX1_init_46 rfl ?_
  refine g_newI (N := 5) 50 i X (hts _ (List.mem_of_getElem? (i := 11) rfl)) hW hS ((hn102 50 i (gk (by decide))).trans ((hf90 50 i (by omega)).trans ((hn75 50 i (gk (by decide))).trans ((hn68 50 i (gk (by decide))).trans ((hn57 50 i (gk (by decide))).trans ((hn50 50 i (gk (by decide))).trans ((hf41 50 i (by omega)).trans ((hn29 50 i (gk (by decide))).trans ((hn22 50 i (gk (by decide))).trans ((hf16 50 i (by omega)).trans ((hn7 50 i (gk (by decide))).trans (hno 50 (by decide) (by decide) (by decide) (by decide))))))))))))) (by decide) (by decide) (by decide) (Nat.le_of_ble_eq_true rfl) (Nat.le_of_ble_eq_true rfl) dX1_init_47 (fun a103 B104 C105 H hB106 hBn107 hs108 hn109 hW hS => ?_)
  subst hB106
  have hl : lv_has ls 4 [(0, .ref (B104 40 i)), (1, .int (zI nm)), (2, .int (zI au)), (3, .ref (B104 km um))] := by rw [hBn107 40 i (gk (by decide)), hBn107 km um (by omega)]; exact hl
  rw [← hBn107 40 i (gk (by decide))]
  have f110 : C105 40 i = some (.inr (1, [.int (zI 0), .int (zI 0), .ref (B87 41 i), .ref (B87 43 i), .ref (B87 45 i), .ref (B87 48 i), .int (zI 0), .int (zI 0), .int (zI 0), .int (zI 0), .null])) := ((hn109 40 i (gk (by decide))).trans hs101)
  have f111 : C105 40 i = some (.inr (1, [.int (zI 0), .int (zI 0), .ref (B104 41 i), .ref (B104 43 i), .ref (B104 45 i), .ref (B104 48 i), .int (zI 0), .int (zI 0), .int (zI 0), .int (zI 0), .null])) := by rw [hBn107 41 i (gk (by decide)), hBn107 43 i (gk (by decide)), hBn107 45 i (gk (by decide)), hBn107 48 i (gk (by decide))]; exact f110
  have ht112 : tx Z B87 C105 km um t := (tx.kept (tx.kept (tx.B ht93 (hB89 (km + 1) um (by omega))) (hn102 km um (by omega)) (hn102 (km + 1) um (by omega))) (hn109 km um (by omega)) (hn109 (km + 1) um (by omega)))
  have ht114 : tx Z B87 C105 41 i ([]) := (tx.kept (tx.kept (tx.B ht95 (hB89 42 i (by omega))) (hn102 41 i (gk (by decide))) (hn102 42 i (gk (by decide)))) (hn109 41 i (gk (by decide))) (hn109 42 i (gk (by decide))))
  have ht116 : tx Z B87 C105 43 i ([]) := (tx.kept (tx.kept (tx.B ht97 (hB89 44 i (by omega))) (hn102 43 i (gk (by decide))) (hn102 44 i (gk (by decide)))) (hn109 43 i (gk (by decide))) (hn109 44 i (gk (by decide))))
  have f118 : C105 45 i = some (gR Z 3 4 (fun _ => none)) := ((hn109 45 i (gk (by decide))).trans ((hn102 45 i (gk (by decide))).trans f99))
  have ht119 : tx Z B87 C105 48 i ([]) := (tx.kept (tx.kept ht88 (hn102 48 i (gk (by decide))) (hn102 49 i (gk (by decide)))) (hn109 48 i (gk (by decide))) (hn109 49 i (gk (by decide))))
  have hs121 : C105 50 i = some (gJ Z 5 (fun _ => 0)) := hs108
  refine g_putF (ci := 1) (ty := .array .int) X in_X1_init_1 tyX1 tyX1_ok nmX1 rfl hW hS f111 10 (by decide) (hts _ (List.mem_of_getElem? (i := 12) rfl)) rfl hin rfl (by decide +kernel) (rfl) (rfl) (Nat.le_of_ble_eq_true rfl) dX1_init_49 (fun C122 H locs hs123 hn124 hW hS => ?_)
  refine lv_aload_n hx hb dX1_init_52 rfl (lv_at hl 0 rfl) ?_
  refine lv_iload_n hx hb dX1_init_53 rfl (lv_at hl 1 rfl) ?_
  refine g_putF (ci := 1) (ty := .int) X in_X1_init_1 tyX1 tyX1_ok nmX1 rfl hW hS hs123 0 (by decide) (hts _ (List.mem_of_getElem? (i := 13) rfl)) rfl hin rfl (by decide +kernel) (rfl) (rfl) (Nat.le_of_ble_eq_true rfl) dX1_init_54 (fun C125 H locs hs126 hn127 hW hS => ?_)
  refine lv_aload_n hx hb dX1_init_57 rfl (lv_at hl 0 rfl) ?_
  refine lv_iload_n hx hb dX1_init_58 rfl (lv_at hl 2 rfl) ?_
  refine g_putF (ci := 1) (ty := .int) X in_X1_init_1 tyX1 tyX1_ok nmX1 rfl hW hS hs126 1 (by decide) (hts _ (List.mem_of_getElem? (i := 14) rfl)) rfl hin rfl (by decide +kernel) (rfl) (rfl) (Nat.le_of_ble_eq_true rfl) dX1_init_59 (fun C128 H locs hs129 hn130 hW hS => ?_)
  refine lv_aload_n hx hb dX1_init_62 rfl (lv_at hl 0 rfl) ?_
  refine g_get (ci := 1) X in_X1_init_1 rfl hW hs129 2 (by decide) (hts _ (List.mem_of_getElem? (i := 7) rfl)) rfl dX1_init_63 ?_
  refine lv_aload_n hx hb dX1_init_66 rfl (lv_at hl 3 rfl) ?_
  have ht131 : tx Z B104 C128 41 i ([]) := (tx.kept (tx.kept (tx.kept (tx.B ht114 (hBn107 42 i (gk (by decide)))) (hn124 41 i (gk (by decide))) (hn124 42 i (gk (by decide)))) (hn127 41 i (gk (by decide))) (hn127 42 i (gk (by decide)))) (hn130 41 i (gk (by decide))) (hn130 42 i (gk (by decide))))
  have ht132 : tx Z B104 C128 km um t := (tx.kept (tx.kept (tx.kept (tx.B ht112 (hBn107 (km + 1) um (by omega))) (hn124 km um (by omega)) (hn124 (km + 1) um (by omega))) (hn127 km um (by omega)) (hn127 (km + 1) um (by omega))) (hn130 km um (by omega)) (hn130 (km + 1) um (by omega)))
  refine g_cv (g_runV X (k_X5_copy (t := []) (t2 := t) ht131 ht132 (by omega) ) (cwV 1 hts gX1_init_X5_copy rfl rfl rfl ⟨rfl, ds_X5_copy⟩ ⟨Nat.le_of_ble_eq_true rfl, Nat.le_of_ble_eq_true rfl⟩) hW hS ht131.2.2.1 rfl rfl hl.1 rfl (Nat.le_of_ble_eq_true rfl) dX1_init_67 ⟨Nat.le_of_ble_eq_true rfl, Nat.le_of_ble_eq_true rfl⟩) hS (fun C133 H locs hp134 hW hS => ?_)
  obtain ⟨ht135, hf136⟩ := hp134
  refine lv_aload_n hx hb dX1_init_70 rfl (lv_at hl 0 rfl) ?_
  have f137 : C133 40 i = some (.inr (1, [.int (zI nm), .int (zI au), .ref (B104 41 i), .ref (B104 43 i), .ref (B104 45 i), .ref (B104 48 i), .int (zI 0), .int (zI 0), .int (zI 0), .int (zI 0), .ref (B104 50 i)])) := ((hf136 40 i (by omega)).trans hs129)
  refine g_get (ci := 1) X in_X1_init_1 rfl hW f137 10 (by decide) (hts _ (List.mem_of_getElem? (i := 12) rfl)) rfl dX1_init_71 ?_
  refine lv_iconst (v := zI (-1)) hx hb dX1_init_74 rfl ?_
  have f138 : C133 50 i = some (gJ Z 5 (fun _ => 0)) := ((hf136 50 i (by omega)).trans ((hn130 50 i (gk (by decide))).trans ((hn127 50 i (gk (by decide))).trans ((hn124 50 i (gk (by decide))).trans hs121))))
  refine g_cv (g_runS X (k_J7_fill_53178 (v := (-1)) f138 (by decide)) (va_cwS 2 hts gX1_init_J7_fill_53178 rfl rfl rfl ds_J7_fill_53178 ⟨Nat.le_of_ble_eq_true rfl, Nat.le_of_ble_eq_true rfl⟩) hW hS rfl hl.1 rfl (Nat.le_of_ble_eq_true rfl) dX1_init_75 ⟨Nat.le_of_ble_eq_true rfl, Nat.le_of_ble_eq_true rfl⟩) hS (fun C139 H locs hp140 hW hS => ?_)
  obtain ⟨⟨F141, hs142, hv143⟩, hn144⟩ := hp140
  have f145 : C139 40 i = some (.inr (1, [.int (zI nm), .int (zI au), .ref (B104 41 i), .ref (B104 43 i), .ref (B104 45 i), .ref (B104 48 i), .int (zI 0), .int (zI 0), .int (zI 0), .int (zI 0), .ref (B104 50 i)])) := ((hn144 40 i (gk (by decide))).trans f137)
  have ht146 : tx Z B104 C139 41 i t := (tx.kept ht135 (hn144 41 i (gk (by decide))) (hn144 42 i (gk (by decide))))
  have ht147 : tx Z B104 C139 43 i ([]) := (tx.kept (tx.kept (tx.kept (tx.kept (tx.kept (tx.B ht116 (hBn107 44 i (gk (by decide)))) (hn124 43 i (gk (by decide))) (hn124 44 i (gk (by decide)))) (hn127 43 i (gk (by decide))) (hn127 44 i (gk (by decide)))) (hn130 43 i (gk (by decide))) (hn130 44 i (gk (by decide)))) (hf136 43 i (by omega)) (hf136 44 i (by omega))) (hn144 43 i (gk (by decide))) (hn144 44 i (gk (by decide))))
  have f148 : C139 45 i = some (gR Z 3 4 (fun _ => none)) := ((hn144 45 i (gk (by decide))).trans ((hf136 45 i (by omega)).trans ((hn130 45 i (gk (by decide))).trans ((hn127 45 i (gk (by decide))).trans ((hn124 45 i (gk (by decide))).trans f118)))))
  have ht149 : tx Z B104 C139 48 i ([]) := (tx.kept (tx.kept (tx.kept (tx.kept (tx.kept (tx.B ht119 (hBn107 49 i (gk (by decide)))) (hn124 48 i (gk (by decide))) (hn124 49 i (gk (by decide)))) (hn127 48 i (gk (by decide))) (hn127 49 i (gk (by decide)))) (hn130 48 i (gk (by decide))) (hn130 49 i (gk (by decide)))) (hf136 48 i (by omega)) (hf136 49 i (by omega))) (hn144 48 i (gk (by decide))) (hn144 49 i (gk (by decide))))
  exact kret _ _ _ _ _ _ _ _ (⟨f145, ht146, ht147, f148, ht149, ⟨_, hs142, fun u hu => hv143 u (by omega)⟩, fun k' i' h => (hBn107 k' i' (by omega)).trans ((hB89 k' i' (by omega)).trans ((hBn73 k' i' (by omega)).trans ((hBn55 k' i' (by omega)).trans ((hB40 k' i' (by omega)).trans ((hBn27 k' i' (by omega)).trans ((hB15 k' i' (by omega)).trans ((hBn5 k' i' (by omega))))))))), fun k' i' h => (hn144 k' i' (by omega)).trans ((hf136 k' i' (by omega)).trans ((hn130 k' i' (by omega)).trans ((hn127 k' i' (by omega)).trans ((hn124 k' i' (by omega)).trans ((hn109 k' i' (by omega)).trans ((hn102 k' i' (by omega)).trans ((hf90 k' i' (by omega)).trans ((hn75 k' i' (by omega)).trans ((hn68 k' i' (by omega)).trans ((hn57 k' i' (by omega)).trans ((hn50 k' i' (by omega)).trans ((hf41 k' i' (by omega)).trans ((hn29 k' i' (by omega)).trans ((hn22 k' i' (by omega)).trans ((hf16 k' i' (by omega)).trans ((hn7 k' i' (by omega))))))))))))))))))⟩) hW hS (Nat.le_of_ble_eq_true rfl) (Nat.le_of_ble_eq_true rfl) dX1_init_78

def S00 : gS := fun _ _ => 0
def T00 : gTx := fun _ => []

theorem ds_X7_init : yX7_init.cls ≠ "java/lang/invoke/MethodHandle" ∧ yX7_init.cls ≠ "java/lang/invoke/VarHandle" ∧ (parseMethodDescriptor yX7_init.desc).map (fun d => d.parameters.length) = some 0 := by decide +kernel
theorem in_X7_init_0 : ∀ w ∈ wsX00, w ∈ wsX7_init := by decide +kernel
theorem in_X7_init_2 : ∀ w ∈ wsX20, w ∈ wsX7_init := by decide +kernel
theorem in_X7_init_4 : ∀ w ∈ wsX40, w ∈ wsX7_init := by decide +kernel
theorem in_X7_init_5 : ∀ w ∈ wsX50, w ∈ wsX7_init := by decide +kernel
theorem in_X7_init_6 : ∀ w ∈ wsX60, w ∈ wsX7_init := by decide +kernel
theorem in_X7_init_7 : ∀ w ∈ wsX70, w ∈ wsX7_init := by decide +kernel
def rX7_init : Room := { frames := 3, cells := 31, slots := 1106, locals := 52 }
set_option maxHeartbeats 4000000 in
set_option maxRecDepth 100000 in
theorem k_X7_init {l : Launch} {Z : gZ} {B : gB} {C0 : gC}  (h0 : C0 0 0 = some (.inr (7, [.null, .null, .int (zI 0), .null, .int (zI 0), .null, .int (zI 0), .null, .int (zI 0), .null, .null, .null, .null]))) (hno : ∀ k' i', k' ≤ 63 → ¬ (k' = 0 ∧ i' = 0) → C0 k' i' = none) : Met l yX7_init wsX7_init rX7_init (gPc Z B C0 [.ref (B 0 0)]) (gQvB Z (fun B1 C1 => cs Z B1 C1 S00 T00 ∧ cx Z B1 C1 ∧ (∀ k' i', 38 ≤ k' → C1 k' i' = C0 k' i') ∧ ∀ k' i', 38 ≤ k' → B1 k' i' = B k' i')) 31 1106 (gA Z) := by
  refine g_ofVB (cc := cX7_init) (maxL := 1) (by decide) rfl (Nat.le_of_ble_eq_true rfl) ?_
  intro p e s m args below meth c Q X hin kret hW hS ls hl
  have hx := X.1.1
  have hb := X.1.2.1
  have hts := X.1.2.2.2.2
  have hl : lv_has ls 1 [(0, .ref (B 0 0))] := hl
  refine lv_aload_n hx hb dX7_init_0 rfl (lv_at hl 0 rfl) ?_
  refine W.objInit hx hb X.1.2.2.2.1 (hts (.methodLink RX7 3 objectInit) (List.mem_of_getElem? (i := 1) rfl)) (hts (.instanceMethod objectInit) (List.mem_of_getElem? (i := 2) rfl)) (hts _ (List.mem_of_getElem? (i := 3) rfl)) rfl (by rw [X.1.2.2.1]; exact hl.1) rfl dX7_init_1 (Nat.le_of_ble_eq_true rfl) (Nat.le_of_ble_eq_true rfl) ?_
  refine W.eq (g2 := F0 m 4 ls []) rfl ?_
  refine lv_aload_n hx hb dX7_init_4 rfl (lv_at hl 0 rfl) ?_
  refine g_new (ci := 5) (fs := [.null, .int (zI 0)]) 1 0 X in_X7_init_5 tyX5 tyX5_ok (hts _ (List.mem_of_getElem? (i := 4) rfl)) (hts _ (List.mem_of_getElem? (i := 5) rfl)) (hts _ (List.mem_of_getElem? (i := 6) rfl)) rfl hW hS (hno 1 0 (by decide) (by decide)) (fun j hj => by rcases j with _ | _ | j; rfl; rfl; omega) (Nat.le_of_ble_eq_true rfl) (Nat.le_of_ble_eq_true rfl) dX7_init_5 (fun a1 B2 C3 H hB4 hBn5 hs6 hn7 hW hS => ?_)
  subst hB4
  have hl : lv_has ls 1 [(0, .ref (B2 0 0))] := by rw [hBn5 0 0 (gk (by decide))]; exact hl
  rw [← hBn5 0 0 (gk (by decide))]
  have f8 : C3 0 0 = some (.inr (7, [.null, .null, .int (zI 0), .null, .int (zI 0), .null, .int (zI 0), .null, .int (zI 0), .null, .null, .null, .null])) := ((hn7 0 0 (gk (by decide))).trans h0)
  refine lv_dup hx hb dX7_init_8 rfl ?_
  refine g_cvB (g_runIN X (k_X5_init hs6 (((hn7 2 0 (gk (by decide))).trans (hno 2 0 (by decide) (by decide))))) ⟨va_cnB 0 hts gX7_init_X5_init_n11 rfl rfl rfl (nmw_0 X.2.2.1) (hts _ (List.mem_of_getElem? (i := 6) rfl)) ds_X5_init ⟨Nat.le_of_ble_eq_true rfl, Nat.le_of_ble_eq_true rfl⟩, rfl, hts _ (List.mem_of_getElem? (i := 31) rfl)⟩ hW hS rfl hl.1 rfl (Nat.le_of_ble_eq_true rfl) dX7_init_9 ⟨Nat.le_of_ble_eq_true rfl, Nat.le_of_ble_eq_true rfl⟩) hS (fun B11 C9 H locs hp10 hW hS => ?_)
  obtain ⟨ht12, hB13, hf14⟩ := hp10
  have hl : lv_has ls 1 [(0, .ref (B11 0 0))] := by rw [hB13 0 0 (by omega)]; exact hl
  rw [← hB13 0 0 (by omega), ← hB13 1 0 (by omega)]
  have f15 : C9 0 0 = some (.inr (7, [.null, .null, .int (zI 0), .null, .int (zI 0), .null, .int (zI 0), .null, .int (zI 0), .null, .null, .null, .null])) := ((hf14 0 0 (by omega)).trans f8)
  refine g_putF (ci := 7) (ty := .object "ReviewBench$Text") X in_X7_init_7 tyX7 tyX7_ok nmX7 rfl hW hS f15 0 (by decide) (hts _ (List.mem_of_getElem? (i := 7) rfl)) rfl hin rfl (by decide +kernel) (rfl) (rfl) (Nat.le_of_ble_eq_true rfl) dX7_init_12 (fun C16 H locs hs17 hn18 hW hS => ?_)
  refine lv_aload_n hx hb dX7_init_15 rfl (lv_at hl 0 rfl) ?_
  refine lv_bipush (v := zI (100)) hx hb dX7_init_16 (by decide) ?_
  refine g_newI (N := 100) 3 0 X (hts _ (List.mem_of_getElem? (i := 8) rfl)) hW hS ((hn18 3 0 (gk (by decide))).trans ((hf14 3 0 (by omega)).trans ((hn7 3 0 (gk (by decide))).trans (hno 3 0 (by decide) (by decide))))) (by decide) (by decide) (by decide) (Nat.le_of_ble_eq_true rfl) (Nat.le_of_ble_eq_true rfl) dX7_init_18 (fun a19 B20 C21 H hB22 hBn23 hs24 hn25 hW hS => ?_)
  subst hB22
  have hl : lv_has ls 1 [(0, .ref (B20 0 0))] := by rw [hBn23 0 0 (gk (by decide))]; exact hl
  rw [← hBn23 0 0 (gk (by decide))]
  have f26 : C21 0 0 = some (.inr (7, [.ref (B11 1 0), .null, .int (zI 0), .null, .int (zI 0), .null, .int (zI 0), .null, .int (zI 0), .null, .null, .null, .null])) := ((hn25 0 0 (gk (by decide))).trans hs17)
  have f27 : C21 0 0 = some (.inr (7, [.ref (B20 1 0), .null, .int (zI 0), .null, .int (zI 0), .null, .int (zI 0), .null, .int (zI 0), .null, .null, .null, .null])) := by rw [hBn23 1 0 (gk (by decide))]; exact f26
  have ht28 : tx Z B11 C21 1 0 ([]) := (tx.kept (tx.kept ht12 (hn18 1 0 (gk (by decide))) (hn18 2 0 (gk (by decide)))) (hn25 1 0 (gk (by decide))) (hn25 2 0 (gk (by decide))))
  have hs30 : C21 3 0 = some (gJ Z 100 (fun _ => 0)) := hs24
  refine g_putF (ci := 7) (ty := .array .int) X in_X7_init_7 tyX7 tyX7_ok nmX7 rfl hW hS f27 1 (by decide) (hts _ (List.mem_of_getElem? (i := 9) rfl)) rfl hin rfl (by decide +kernel) (rfl) (rfl) (Nat.le_of_ble_eq_true rfl) dX7_init_20 (fun C31 H locs hs32 hn33 hW hS => ?_)
  refine lv_aload_n hx hb dX7_init_23 rfl (lv_at hl 0 rfl) ?_
  refine lv_iconst (v := zI (4)) hx hb dX7_init_24 rfl ?_
  refine g_newR (N := 4) (t := 1) (Cn := RX1) 4 0 X (hts _ (List.mem_of_getElem? (i := 10) rfl)) (by decide) rfl hW hS ((hn33 4 0 (gk (by decide))).trans ((hn25 4 0 (gk (by decide))).trans ((hn18 4 0 (gk (by decide))).trans ((hf14 4 0 (by omega)).trans ((hn7 4 0 (gk (by decide))).trans (hno 4 0 (by decide) (by decide))))))) (by decide) (by decide) (by decide) (Nat.le_of_ble_eq_true rfl) (Nat.le_of_ble_eq_true rfl) dX7_init_25 (fun a34 B35 C36 H hB37 hBn38 hs39 hn40 hW hS => ?_)
  subst hB37
  have hl : lv_has ls 1 [(0, .ref (B35 0 0))] := by rw [hBn38 0 0 (gk (by decide))]; exact hl
  rw [← hBn38 0 0 (gk (by decide))]
  have f41 : C36 0 0 = some (.inr (7, [.ref (B20 1 0), .ref (B20 3 0), .int (zI 0), .null, .int (zI 0), .null, .int (zI 0), .null, .int (zI 0), .null, .null, .null, .null])) := ((hn40 0 0 (gk (by decide))).trans hs32)
  have f42 : C36 0 0 = some (.inr (7, [.ref (B35 1 0), .ref (B35 3 0), .int (zI 0), .null, .int (zI 0), .null, .int (zI 0), .null, .int (zI 0), .null, .null, .null, .null])) := by rw [hBn38 1 0 (gk (by decide)), hBn38 3 0 (gk (by decide))]; exact f41
  have ht43 : tx Z B20 C36 1 0 ([]) := (tx.kept (tx.kept (tx.B ht28 (hBn23 2 0 (gk (by decide)))) (hn33 1 0 (gk (by decide))) (hn33 2 0 (gk (by decide)))) (hn40 1 0 (gk (by decide))) (hn40 2 0 (gk (by decide))))
  have f45 : C36 3 0 = some (gJ Z 100 (fun _ => 0)) := ((hn40 3 0 (gk (by decide))).trans ((hn33 3 0 (gk (by decide))).trans hs30))
  refine g_putF (ci := 7) (ty := .array (.object "ReviewBench$Change")) X in_X7_init_7 tyX7 tyX7_ok nmX7 rfl hW hS f42 3 (by decide) (hts _ (List.mem_of_getElem? (i := 11) rfl)) rfl hin rfl (by decide +kernel) (rfl) (rfl) (Nat.le_of_ble_eq_true rfl) dX7_init_28 (fun C46 H locs hs47 hn48 hW hS => ?_)
  refine lv_aload_n hx hb dX7_init_31 rfl (lv_at hl 0 rfl) ?_
  refine lv_bipush (v := zI (12)) hx hb dX7_init_32 (by decide) ?_
  refine g_newR (N := 12) (t := 2) (Cn := RX3) 5 0 X (hts _ (List.mem_of_getElem? (i := 12) rfl)) (by decide) rfl hW hS ((hn48 5 0 (gk (by decide))).trans ((hn40 5 0 (gk (by decide))).trans ((hn33 5 0 (gk (by decide))).trans ((hn25 5 0 (gk (by decide))).trans ((hn18 5 0 (gk (by decide))).trans ((hf14 5 0 (by omega)).trans ((hn7 5 0 (gk (by decide))).trans (hno 5 0 (by decide) (by decide))))))))) (by decide) (by decide) (by decide) (Nat.le_of_ble_eq_true rfl) (Nat.le_of_ble_eq_true rfl) dX7_init_34 (fun a49 B50 C51 H hB52 hBn53 hs54 hn55 hW hS => ?_)
  subst hB52
  have hl : lv_has ls 1 [(0, .ref (B50 0 0))] := by rw [hBn53 0 0 (gk (by decide))]; exact hl
  rw [← hBn53 0 0 (gk (by decide))]
  have f56 : C51 0 0 = some (.inr (7, [.ref (B35 1 0), .ref (B35 3 0), .int (zI 0), .ref (B35 4 0), .int (zI 0), .null, .int (zI 0), .null, .int (zI 0), .null, .null, .null, .null])) := ((hn55 0 0 (gk (by decide))).trans hs47)
  have f57 : C51 0 0 = some (.inr (7, [.ref (B50 1 0), .ref (B50 3 0), .int (zI 0), .ref (B50 4 0), .int (zI 0), .null, .int (zI 0), .null, .int (zI 0), .null, .null, .null, .null])) := by rw [hBn53 1 0 (gk (by decide)), hBn53 3 0 (gk (by decide)), hBn53 4 0 (gk (by decide))]; exact f56
  have ht58 : tx Z B35 C51 1 0 ([]) := (tx.kept (tx.kept (tx.B ht43 (hBn38 2 0 (gk (by decide)))) (hn48 1 0 (gk (by decide))) (hn48 2 0 (gk (by decide)))) (hn55 1 0 (gk (by decide))) (hn55 2 0 (gk (by decide))))
  have f60 : C51 3 0 = some (gJ Z 100 (fun _ => 0)) := ((hn55 3 0 (gk (by decide))).trans ((hn48 3 0 (gk (by decide))).trans f45))
  have f61 : C51 4 0 = some (gR Z 1 4 (fun _ => none)) := ((hn55 4 0 (gk (by decide))).trans ((hn48 4 0 (gk (by decide))).trans hs39))
  refine g_putF (ci := 7) (ty := .array (.object "ReviewBench$Remark")) X in_X7_init_7 tyX7 tyX7_ok nmX7 rfl hW hS f57 5 (by decide) (hts _ (List.mem_of_getElem? (i := 13) rfl)) rfl hin rfl (by decide +kernel) (rfl) (rfl) (Nat.le_of_ble_eq_true rfl) dX7_init_37 (fun C62 H locs hs63 hn64 hW hS => ?_)
  refine lv_aload_n hx hb dX7_init_40 rfl (lv_at hl 0 rfl) ?_
  refine lv_iconst (v := zI (4)) hx hb dX7_init_41 rfl ?_
  refine g_newI (N := 4) 6 0 X (hts _ (List.mem_of_getElem? (i := 8) rfl)) hW hS ((hn64 6 0 (gk (by decide))).trans ((hn55 6 0 (gk (by decide))).trans ((hn48 6 0 (gk (by decide))).trans ((hn40 6 0 (gk (by decide))).trans ((hn33 6 0 (gk (by decide))).trans ((hn25 6 0 (gk (by decide))).trans ((hn18 6 0 (gk (by decide))).trans ((hf14 6 0 (by omega)).trans ((hn7 6 0 (gk (by decide))).trans (hno 6 0 (by decide) (by decide))))))))))) (by decide) (by decide) (by decide) (Nat.le_of_ble_eq_true rfl) (Nat.le_of_ble_eq_true rfl) dX7_init_42 (fun a65 B66 C67 H hB68 hBn69 hs70 hn71 hW hS => ?_)
  subst hB68
  have hl : lv_has ls 1 [(0, .ref (B66 0 0))] := by rw [hBn69 0 0 (gk (by decide))]; exact hl
  rw [← hBn69 0 0 (gk (by decide))]
  have f72 : C67 0 0 = some (.inr (7, [.ref (B50 1 0), .ref (B50 3 0), .int (zI 0), .ref (B50 4 0), .int (zI 0), .ref (B50 5 0), .int (zI 0), .null, .int (zI 0), .null, .null, .null, .null])) := ((hn71 0 0 (gk (by decide))).trans hs63)
  have f73 : C67 0 0 = some (.inr (7, [.ref (B66 1 0), .ref (B66 3 0), .int (zI 0), .ref (B66 4 0), .int (zI 0), .ref (B66 5 0), .int (zI 0), .null, .int (zI 0), .null, .null, .null, .null])) := by rw [hBn69 1 0 (gk (by decide)), hBn69 3 0 (gk (by decide)), hBn69 4 0 (gk (by decide)), hBn69 5 0 (gk (by decide))]; exact f72
  have ht74 : tx Z B50 C67 1 0 ([]) := (tx.kept (tx.kept (tx.B ht58 (hBn53 2 0 (gk (by decide)))) (hn64 1 0 (gk (by decide))) (hn64 2 0 (gk (by decide)))) (hn71 1 0 (gk (by decide))) (hn71 2 0 (gk (by decide))))
  have f76 : C67 3 0 = some (gJ Z 100 (fun _ => 0)) := ((hn71 3 0 (gk (by decide))).trans ((hn64 3 0 (gk (by decide))).trans f60))
  have f77 : C67 4 0 = some (gR Z 1 4 (fun _ => none)) := ((hn71 4 0 (gk (by decide))).trans ((hn64 4 0 (gk (by decide))).trans f61))
  have f78 : C67 5 0 = some (gR Z 2 12 (fun _ => none)) := ((hn71 5 0 (gk (by decide))).trans ((hn64 5 0 (gk (by decide))).trans hs54))
  have hs79 : C67 6 0 = some (gJ Z 4 (fun _ => 0)) := hs70
  refine g_putF (ci := 7) (ty := .array .int) X in_X7_init_7 tyX7 tyX7_ok nmX7 rfl hW hS f73 7 (by decide) (hts _ (List.mem_of_getElem? (i := 14) rfl)) rfl hin rfl (by decide +kernel) (rfl) (rfl) (Nat.le_of_ble_eq_true rfl) dX7_init_44 (fun C80 H locs hs81 hn82 hW hS => ?_)
  refine lv_aload_n hx hb dX7_init_47 rfl (lv_at hl 0 rfl) ?_
  refine g_new (ci := 4) (fs := [.null, .null, .null, .int (zI 0)]) 10 0 X in_X7_init_4 tyX4 tyX4_ok (hts _ (List.mem_of_getElem? (i := 15) rfl)) (hts _ (List.mem_of_getElem? (i := 16) rfl)) (hts _ (List.mem_of_getElem? (i := 17) rfl)) rfl hW hS ((hn82 10 0 (gk (by decide))).trans ((hn71 10 0 (gk (by decide))).trans ((hn64 10 0 (gk (by decide))).trans ((hn55 10 0 (gk (by decide))).trans ((hn48 10 0 (gk (by decide))).trans ((hn40 10 0 (gk (by decide))).trans ((hn33 10 0 (gk (by decide))).trans ((hn25 10 0 (gk (by decide))).trans ((hn18 10 0 (gk (by decide))).trans ((hf14 10 0 (by omega)).trans ((hn7 10 0 (gk (by decide))).trans (hno 10 0 (by decide) (by decide))))))))))))) (fun j hj => by rcases j with _ | _ | _ | _ | j; rfl; rfl; rfl; rfl; omega) (Nat.le_of_ble_eq_true rfl) (Nat.le_of_ble_eq_true rfl) dX7_init_48 (fun a83 B84 C85 H hB86 hBn87 hs88 hn89 hW hS => ?_)
  subst hB86
  have hl : lv_has ls 1 [(0, .ref (B84 0 0))] := by rw [hBn87 0 0 (gk (by decide))]; exact hl
  rw [← hBn87 0 0 (gk (by decide))]
  have f90 : C85 0 0 = some (.inr (7, [.ref (B66 1 0), .ref (B66 3 0), .int (zI 0), .ref (B66 4 0), .int (zI 0), .ref (B66 5 0), .int (zI 0), .ref (B66 6 0), .int (zI 0), .null, .null, .null, .null])) := ((hn89 0 0 (gk (by decide))).trans hs81)
  have f91 : C85 0 0 = some (.inr (7, [.ref (B84 1 0), .ref (B84 3 0), .int (zI 0), .ref (B84 4 0), .int (zI 0), .ref (B84 5 0), .int (zI 0), .ref (B84 6 0), .int (zI 0), .null, .null, .null, .null])) := by rw [hBn87 1 0 (gk (by decide)), hBn87 3 0 (gk (by decide)), hBn87 4 0 (gk (by decide)), hBn87 5 0 (gk (by decide)), hBn87 6 0 (gk (by decide))]; exact f90
  have ht92 : tx Z B66 C85 1 0 ([]) := (tx.kept (tx.kept (tx.B ht74 (hBn69 2 0 (gk (by decide)))) (hn82 1 0 (gk (by decide))) (hn82 2 0 (gk (by decide)))) (hn89 1 0 (gk (by decide))) (hn89 2 0 (gk (by decide))))
  have f94 : C85 3 0 = some (gJ Z 100 (fun _ => 0)) := ((hn89 3 0 (gk (by decide))).trans ((hn82 3 0 (gk (by decide))).trans f76))
  have f95 : C85 4 0 = some (gR Z 1 4 (fun _ => none)) := ((hn89 4 0 (gk (by decide))).trans ((hn82 4 0 (gk (by decide))).trans f77))
  have f96 : C85 5 0 = some (gR Z 2 12 (fun _ => none)) := ((hn89 5 0 (gk (by decide))).trans ((hn82 5 0 (gk (by decide))).trans f78))
  have f97 : C85 6 0 = some (gJ Z 4 (fun _ => 0)) := ((hn89 6 0 (gk (by decide))).trans ((hn82 6 0 (gk (by decide))).trans hs79))
  refine lv_dup hx hb dX7_init_51 rfl ?_
  refine g_cvB (g_runIN X (k_X4_init hs88 (((hn89 11 0 (gk (by decide))).trans ((hn82 11 0 (gk (by decide))).trans ((hn71 11 0 (gk (by decide))).trans ((hn64 11 0 (gk (by decide))).trans ((hn55 11 0 (gk (by decide))).trans ((hn48 11 0 (gk (by decide))).trans ((hn40 11 0 (gk (by decide))).trans ((hn33 11 0 (gk (by decide))).trans ((hn25 11 0 (gk (by decide))).trans ((hn18 11 0 (gk (by decide))).trans ((hf14 11 0 (by omega)).trans ((hn7 11 0 (gk (by decide))).trans (hno 11 0 (by decide) (by decide))))))))))))))) (((hn89 12 0 (gk (by decide))).trans ((hn82 12 0 (gk (by decide))).trans ((hn71 12 0 (gk (by decide))).trans ((hn64 12 0 (gk (by decide))).trans ((hn55 12 0 (gk (by decide))).trans ((hn48 12 0 (gk (by decide))).trans ((hn40 12 0 (gk (by decide))).trans ((hn33 12 0 (gk (by decide))).trans ((hn25 12 0 (gk (by decide))).trans ((hn18 12 0 (gk (by decide))).trans ((hf14 12 0 (by omega)).trans ((hn7 12 0 (gk (by decide))).trans (hno 12 0 (by decide) (by decide))))))))))))))) (((hn89 13 0 (gk (by decide))).trans ((hn82 13 0 (gk (by decide))).trans ((hn71 13 0 (gk (by decide))).trans ((hn64 13 0 (gk (by decide))).trans ((hn55 13 0 (gk (by decide))).trans ((hn48 13 0 (gk (by decide))).trans ((hn40 13 0 (gk (by decide))).trans ((hn33 13 0 (gk (by decide))).trans ((hn25 13 0 (gk (by decide))).trans ((hn18 13 0 (gk (by decide))).trans ((hf14 13 0 (by omega)).trans ((hn7 13 0 (gk (by decide))).trans (hno 13 0 (by decide) (by decide)))))))))))))))) ⟨va_cnB 0 hts gX7_init_X4_init_n37 rfl rfl rfl (nmw_1 X.2.2.1) (hts _ (List.mem_of_getElem? (i := 17) rfl)) ds_X4_init ⟨Nat.le_of_ble_eq_true rfl, Nat.le_of_ble_eq_true rfl⟩, rfl, hts _ (List.mem_of_getElem? (i := 35) rfl)⟩ hW hS rfl hl.1 rfl (Nat.le_of_ble_eq_true rfl) dX7_init_52 ⟨Nat.le_of_ble_eq_true rfl, Nat.le_of_ble_eq_true rfl⟩) hS (fun B100 C98 H locs hp99 hW hS => ?_)
  obtain ⟨ht101, hB102, hf103⟩ := hp99
  have hl : lv_has ls 1 [(0, .ref (B100 0 0))] := by rw [hB102 0 0 (by omega)]; exact hl
  rw [← hB102 0 0 (by omega), ← hB102 10 0 (by omega)]
  have f104 : C98 0 0 = some (.inr (7, [.ref (B84 1 0), .ref (B84 3 0), .int (zI 0), .ref (B84 4 0), .int (zI 0), .ref (B84 5 0), .int (zI 0), .ref (B84 6 0), .int (zI 0), .null, .null, .null, .null])) := ((hf103 0 0 (by omega)).trans f91)
  have f105 : C98 0 0 = some (.inr (7, [.ref (B100 1 0), .ref (B100 3 0), .int (zI 0), .ref (B100 4 0), .int (zI 0), .ref (B100 5 0), .int (zI 0), .ref (B100 6 0), .int (zI 0), .null, .null, .null, .null])) := by rw [hB102 1 0 (by omega), hB102 3 0 (by omega), hB102 4 0 (by omega), hB102 5 0 (by omega), hB102 6 0 (by omega)]; exact f104
  have ht106 : tx Z B84 C98 1 0 ([]) := (tx.kept (tx.B ht92 (hBn87 2 0 (gk (by decide)))) (hf103 1 0 (by omega)) (hf103 2 0 (by omega)))
  have f108 : C98 3 0 = some (gJ Z 100 (fun _ => 0)) := ((hf103 3 0 (by omega)).trans f94)
  have f109 : C98 4 0 = some (gR Z 1 4 (fun _ => none)) := ((hf103 4 0 (by omega)).trans f95)
  have f110 : C98 5 0 = some (gR Z 2 12 (fun _ => none)) := ((hf103 5 0 (by omega)).trans f96)
  have f111 : C98 6 0 = some (gJ Z 4 (fun _ => 0)) := ((hf103 6 0 (by omega)).trans f97)
  refine g_putF (ci := 7) (ty := .object "ReviewBench$Script") X in_X7_init_7 tyX7 tyX7_ok nmX7 rfl hW hS f105 9 (by decide) (hts _ (List.mem_of_getElem? (i := 18) rfl)) rfl hin rfl (by decide +kernel) (rfl) (rfl) (Nat.le_of_ble_eq_true rfl) dX7_init_55 (fun C112 H locs hs113 hn114 hW hS => ?_)
  refine lv_aload_n hx hb dX7_init_58 rfl (lv_at hl 0 rfl) ?_
  refine g_new (ci := 6) (fs := [.null]) 14 0 X in_X7_init_6 tyX6 tyX6_ok (hts _ (List.mem_of_getElem? (i := 19) rfl)) (hts _ (List.mem_of_getElem? (i := 20) rfl)) (hts _ (List.mem_of_getElem? (i := 21) rfl)) rfl hW hS ((hn114 14 0 (gk (by decide))).trans ((hf103 14 0 (by omega)).trans ((hn89 14 0 (gk (by decide))).trans ((hn82 14 0 (gk (by decide))).trans ((hn71 14 0 (gk (by decide))).trans ((hn64 14 0 (gk (by decide))).trans ((hn55 14 0 (gk (by decide))).trans ((hn48 14 0 (gk (by decide))).trans ((hn40 14 0 (gk (by decide))).trans ((hn33 14 0 (gk (by decide))).trans ((hn25 14 0 (gk (by decide))).trans ((hn18 14 0 (gk (by decide))).trans ((hf14 14 0 (by omega)).trans ((hn7 14 0 (gk (by decide))).trans (hno 14 0 (by decide) (by decide)))))))))))))))) (fun j hj => by rcases j with _ | j; rfl; omega) (Nat.le_of_ble_eq_true rfl) (Nat.le_of_ble_eq_true rfl) dX7_init_59 (fun a115 B116 C117 H hB118 hBn119 hs120 hn121 hW hS => ?_)
  subst hB118
  have hl : lv_has ls 1 [(0, .ref (B116 0 0))] := by rw [hBn119 0 0 (gk (by decide))]; exact hl
  rw [← hBn119 0 0 (gk (by decide))]
  have f122 : C117 0 0 = some (.inr (7, [.ref (B100 1 0), .ref (B100 3 0), .int (zI 0), .ref (B100 4 0), .int (zI 0), .ref (B100 5 0), .int (zI 0), .ref (B100 6 0), .int (zI 0), .ref (B100 10 0), .null, .null, .null])) := ((hn121 0 0 (gk (by decide))).trans hs113)
  have f123 : C117 0 0 = some (.inr (7, [.ref (B116 1 0), .ref (B116 3 0), .int (zI 0), .ref (B116 4 0), .int (zI 0), .ref (B116 5 0), .int (zI 0), .ref (B116 6 0), .int (zI 0), .ref (B116 10 0), .null, .null, .null])) := by rw [hBn119 1 0 (gk (by decide)), hBn119 10 0 (gk (by decide)), hBn119 3 0 (gk (by decide)), hBn119 4 0 (gk (by decide)), hBn119 5 0 (gk (by decide)), hBn119 6 0 (gk (by decide))]; exact f122
  have ht124 : tx Z B100 C117 1 0 ([]) := (tx.kept (tx.kept (tx.B ht106 (hB102 2 0 (by omega))) (hn114 1 0 (gk (by decide))) (hn114 2 0 (gk (by decide)))) (hn121 1 0 (gk (by decide))) (hn121 2 0 (gk (by decide))))
  have f126 : C117 3 0 = some (gJ Z 100 (fun _ => 0)) := ((hn121 3 0 (gk (by decide))).trans ((hn114 3 0 (gk (by decide))).trans f108))
  have f127 : C117 4 0 = some (gR Z 1 4 (fun _ => none)) := ((hn121 4 0 (gk (by decide))).trans ((hn114 4 0 (gk (by decide))).trans f109))
  have f128 : C117 5 0 = some (gR Z 2 12 (fun _ => none)) := ((hn121 5 0 (gk (by decide))).trans ((hn114 5 0 (gk (by decide))).trans f110))
  have f129 : C117 6 0 = some (gJ Z 4 (fun _ => 0)) := ((hn121 6 0 (gk (by decide))).trans ((hn114 6 0 (gk (by decide))).trans f111))
  have hp130 : so Z B100 C117 10 0 := (so.kept (so.kept ht101 (hn114 10 0 (gk (by decide))) (hn114 11 0 (gk (by decide))) (hn114 12 0 (gk (by decide))) (hn114 13 0 (gk (by decide)))) (hn121 10 0 (gk (by decide))) (hn121 11 0 (gk (by decide))) (hn121 12 0 (gk (by decide))) (hn121 13 0 (gk (by decide))))
  refine lv_dup hx hb dX7_init_62 rfl ?_
  refine g_cvB (g_runIN X (k_X6_init hs120 (((hn121 15 0 (gk (by decide))).trans ((hn114 15 0 (gk (by decide))).trans ((hf103 15 0 (by omega)).trans ((hn89 15 0 (gk (by decide))).trans ((hn82 15 0 (gk (by decide))).trans ((hn71 15 0 (gk (by decide))).trans ((hn64 15 0 (gk (by decide))).trans ((hn55 15 0 (gk (by decide))).trans ((hn48 15 0 (gk (by decide))).trans ((hn40 15 0 (gk (by decide))).trans ((hn33 15 0 (gk (by decide))).trans ((hn25 15 0 (gk (by decide))).trans ((hn18 15 0 (gk (by decide))).trans ((hf14 15 0 (by omega)).trans ((hn7 15 0 (gk (by decide))).trans (hno 15 0 (by decide) (by decide))))))))))))))))))) ⟨va_cnB 0 hts gX7_init_X6_init_n44 rfl rfl rfl (nmw_2 X.2.2.1) (hts _ (List.mem_of_getElem? (i := 21) rfl)) ds_X6_init ⟨Nat.le_of_ble_eq_true rfl, Nat.le_of_ble_eq_true rfl⟩, rfl, hts _ (List.mem_of_getElem? (i := 41) rfl)⟩ hW hS rfl hl.1 rfl (Nat.le_of_ble_eq_true rfl) dX7_init_63 ⟨Nat.le_of_ble_eq_true rfl, Nat.le_of_ble_eq_true rfl⟩) hS (fun B133 C131 H locs hp132 hW hS => ?_)
  obtain ⟨ht134, hB135, hf136⟩ := hp132
  have hl : lv_has ls 1 [(0, .ref (B133 0 0))] := by rw [hB135 0 0 (by omega)]; exact hl
  rw [← hB135 0 0 (by omega), ← hB135 14 0 (by omega)]
  have f137 : C131 0 0 = some (.inr (7, [.ref (B116 1 0), .ref (B116 3 0), .int (zI 0), .ref (B116 4 0), .int (zI 0), .ref (B116 5 0), .int (zI 0), .ref (B116 6 0), .int (zI 0), .ref (B116 10 0), .null, .null, .null])) := ((hf136 0 0 (by omega)).trans f123)
  have f138 : C131 0 0 = some (.inr (7, [.ref (B133 1 0), .ref (B133 3 0), .int (zI 0), .ref (B133 4 0), .int (zI 0), .ref (B133 5 0), .int (zI 0), .ref (B133 6 0), .int (zI 0), .ref (B133 10 0), .null, .null, .null])) := by rw [hB135 1 0 (by omega), hB135 10 0 (by omega), hB135 3 0 (by omega), hB135 4 0 (by omega), hB135 5 0 (by omega), hB135 6 0 (by omega)]; exact f137
  have ht139 : tx Z B116 C131 1 0 ([]) := (tx.kept (tx.B ht124 (hBn119 2 0 (gk (by decide)))) (hf136 1 0 (by omega)) (hf136 2 0 (by omega)))
  have f141 : C131 3 0 = some (gJ Z 100 (fun _ => 0)) := ((hf136 3 0 (by omega)).trans f126)
  have f142 : C131 4 0 = some (gR Z 1 4 (fun _ => none)) := ((hf136 4 0 (by omega)).trans f127)
  have f143 : C131 5 0 = some (gR Z 2 12 (fun _ => none)) := ((hf136 5 0 (by omega)).trans f128)
  have f144 : C131 6 0 = some (gJ Z 4 (fun _ => 0)) := ((hf136 6 0 (by omega)).trans f129)
  have hp145 : so Z B116 C131 10 0 := (so.kept (so.B hp130 (hBn119 11 0 (gk (by decide))) (hBn119 12 0 (gk (by decide))) (hBn119 13 0 (gk (by decide)))) (hf136 10 0 (by omega)) (hf136 11 0 (by omega)) (hf136 12 0 (by omega)) (hf136 13 0 (by omega)))
  refine g_putF (ci := 7) (ty := .object "ReviewBench$Ways") X in_X7_init_7 tyX7 tyX7_ok nmX7 rfl hW hS f138 10 (by decide) (hts _ (List.mem_of_getElem? (i := 22) rfl)) rfl hin rfl (by decide +kernel) (rfl) (rfl) (Nat.le_of_ble_eq_true rfl) dX7_init_66 (fun C146 H locs hs147 hn148 hW hS => ?_)
  refine lv_aload_n hx hb dX7_init_69 rfl (lv_at hl 0 rfl) ?_
  refine g_new (ci := 0) (fs := [.null]) 16 0 X in_X7_init_0 tyX0 tyX0_ok (hts _ (List.mem_of_getElem? (i := 23) rfl)) (hts _ (List.mem_of_getElem? (i := 24) rfl)) (hts _ (List.mem_of_getElem? (i := 25) rfl)) rfl hW hS ((hn148 16 0 (gk (by decide))).trans ((hf136 16 0 (by omega)).trans ((hn121 16 0 (gk (by decide))).trans ((hn114 16 0 (gk (by decide))).trans ((hf103 16 0 (by omega)).trans ((hn89 16 0 (gk (by decide))).trans ((hn82 16 0 (gk (by decide))).trans ((hn71 16 0 (gk (by decide))).trans ((hn64 16 0 (gk (by decide))).trans ((hn55 16 0 (gk (by decide))).trans ((hn48 16 0 (gk (by decide))).trans ((hn40 16 0 (gk (by decide))).trans ((hn33 16 0 (gk (by decide))).trans ((hn25 16 0 (gk (by decide))).trans ((hn18 16 0 (gk (by decide))).trans ((hf14 16 0 (by omega)).trans ((hn7 16 0 (gk (by decide))).trans (hno 16 0 (by decide) (by decide))))))))))))))))))) (fun j hj => by rcases j with _ | j; rfl; omega) (Nat.le_of_ble_eq_true rfl) (Nat.le_of_ble_eq_true rfl) dX7_init_70 (fun a149 B150 C151 H hB152 hBn153 hs154 hn155 hW hS => ?_)
  subst hB152
  have hl : lv_has ls 1 [(0, .ref (B150 0 0))] := by rw [hBn153 0 0 (gk (by decide))]; exact hl
  rw [← hBn153 0 0 (gk (by decide))]
  have f156 : C151 0 0 = some (.inr (7, [.ref (B133 1 0), .ref (B133 3 0), .int (zI 0), .ref (B133 4 0), .int (zI 0), .ref (B133 5 0), .int (zI 0), .ref (B133 6 0), .int (zI 0), .ref (B133 10 0), .ref (B133 14 0), .null, .null])) := ((hn155 0 0 (gk (by decide))).trans hs147)
  have f157 : C151 0 0 = some (.inr (7, [.ref (B150 1 0), .ref (B150 3 0), .int (zI 0), .ref (B150 4 0), .int (zI 0), .ref (B150 5 0), .int (zI 0), .ref (B150 6 0), .int (zI 0), .ref (B150 10 0), .ref (B150 14 0), .null, .null])) := by rw [hBn153 1 0 (gk (by decide)), hBn153 10 0 (gk (by decide)), hBn153 14 0 (gk (by decide)), hBn153 3 0 (gk (by decide)), hBn153 4 0 (gk (by decide)), hBn153 5 0 (gk (by decide)), hBn153 6 0 (gk (by decide))]; exact f156
  have ht158 : tx Z B133 C151 1 0 ([]) := (tx.kept (tx.kept (tx.B ht139 (hB135 2 0 (by omega))) (hn148 1 0 (gk (by decide))) (hn148 2 0 (gk (by decide)))) (hn155 1 0 (gk (by decide))) (hn155 2 0 (gk (by decide))))
  have f160 : C151 3 0 = some (gJ Z 100 (fun _ => 0)) := ((hn155 3 0 (gk (by decide))).trans ((hn148 3 0 (gk (by decide))).trans f141))
  have f161 : C151 4 0 = some (gR Z 1 4 (fun _ => none)) := ((hn155 4 0 (gk (by decide))).trans ((hn148 4 0 (gk (by decide))).trans f142))
  have f162 : C151 5 0 = some (gR Z 2 12 (fun _ => none)) := ((hn155 5 0 (gk (by decide))).trans ((hn148 5 0 (gk (by decide))).trans f143))
  have f163 : C151 6 0 = some (gJ Z 4 (fun _ => 0)) := ((hn155 6 0 (gk (by decide))).trans ((hn148 6 0 (gk (by decide))).trans f144))
  have hp164 : so Z B133 C151 10 0 := (so.kept (so.kept (so.B hp145 (hB135 11 0 (by omega)) (hB135 12 0 (by omega)) (hB135 13 0 (by omega))) (hn148 10 0 (gk (by decide))) (hn148 11 0 (gk (by decide))) (hn148 12 0 (gk (by decide))) (hn148 13 0 (gk (by decide)))) (hn155 10 0 (gk (by decide))) (hn155 11 0 (gk (by decide))) (hn155 12 0 (gk (by decide))) (hn155 13 0 (gk (by decide))))
  have hp165 : wo Z B133 C151 14 0 := (wo.kept (wo.kept ht134 (hn148 14 0 (gk (by decide))) (hn148 15 0 (gk (by decide)))) (hn155 14 0 (gk (by decide))) (hn155 15 0 (gk (by decide))))
  refine lv_dup hx hb dX7_init_73 rfl ?_
  refine g_cvB (g_runIN X (k_X0_init hs154 (((hn155 17 0 (gk (by decide))).trans ((hn148 17 0 (gk (by decide))).trans ((hf136 17 0 (by omega)).trans ((hn121 17 0 (gk (by decide))).trans ((hn114 17 0 (gk (by decide))).trans ((hf103 17 0 (by omega)).trans ((hn89 17 0 (gk (by decide))).trans ((hn82 17 0 (gk (by decide))).trans ((hn71 17 0 (gk (by decide))).trans ((hn64 17 0 (gk (by decide))).trans ((hn55 17 0 (gk (by decide))).trans ((hn48 17 0 (gk (by decide))).trans ((hn40 17 0 (gk (by decide))).trans ((hn33 17 0 (gk (by decide))).trans ((hn25 17 0 (gk (by decide))).trans ((hn18 17 0 (gk (by decide))).trans ((hf14 17 0 (by omega)).trans ((hn7 17 0 (gk (by decide))).trans (hno 17 0 (by decide) (by decide)))))))))))))))))))))) ⟨va_cnB 0 hts gX7_init_X0_init_n51 rfl rfl rfl (nmw_3 X.2.2.1) (hts _ (List.mem_of_getElem? (i := 25) rfl)) ds_X0_init ⟨Nat.le_of_ble_eq_true rfl, Nat.le_of_ble_eq_true rfl⟩, rfl, hts _ (List.mem_of_getElem? (i := 45) rfl)⟩ hW hS rfl hl.1 rfl (Nat.le_of_ble_eq_true rfl) dX7_init_74 ⟨Nat.le_of_ble_eq_true rfl, Nat.le_of_ble_eq_true rfl⟩) hS (fun B168 C166 H locs hp167 hW hS => ?_)
  obtain ⟨ht169, hB170, hf171⟩ := hp167
  have hl : lv_has ls 1 [(0, .ref (B168 0 0))] := by rw [hB170 0 0 (by omega)]; exact hl
  rw [← hB170 0 0 (by omega), ← hB170 16 0 (by omega)]
  have f172 : C166 0 0 = some (.inr (7, [.ref (B150 1 0), .ref (B150 3 0), .int (zI 0), .ref (B150 4 0), .int (zI 0), .ref (B150 5 0), .int (zI 0), .ref (B150 6 0), .int (zI 0), .ref (B150 10 0), .ref (B150 14 0), .null, .null])) := ((hf171 0 0 (by omega)).trans f157)
  have f173 : C166 0 0 = some (.inr (7, [.ref (B168 1 0), .ref (B168 3 0), .int (zI 0), .ref (B168 4 0), .int (zI 0), .ref (B168 5 0), .int (zI 0), .ref (B168 6 0), .int (zI 0), .ref (B168 10 0), .ref (B168 14 0), .null, .null])) := by rw [hB170 1 0 (by omega), hB170 10 0 (by omega), hB170 14 0 (by omega), hB170 3 0 (by omega), hB170 4 0 (by omega), hB170 5 0 (by omega), hB170 6 0 (by omega)]; exact f172
  have ht174 : tx Z B150 C166 1 0 ([]) := (tx.kept (tx.B ht158 (hBn153 2 0 (gk (by decide)))) (hf171 1 0 (by omega)) (hf171 2 0 (by omega)))
  have f176 : C166 3 0 = some (gJ Z 100 (fun _ => 0)) := ((hf171 3 0 (by omega)).trans f160)
  have f177 : C166 4 0 = some (gR Z 1 4 (fun _ => none)) := ((hf171 4 0 (by omega)).trans f161)
  have f178 : C166 5 0 = some (gR Z 2 12 (fun _ => none)) := ((hf171 5 0 (by omega)).trans f162)
  have f179 : C166 6 0 = some (gJ Z 4 (fun _ => 0)) := ((hf171 6 0 (by omega)).trans f163)
  have hp180 : so Z B150 C166 10 0 := (so.kept (so.B hp164 (hBn153 11 0 (gk (by decide))) (hBn153 12 0 (gk (by decide))) (hBn153 13 0 (gk (by decide)))) (hf171 10 0 (by omega)) (hf171 11 0 (by omega)) (hf171 12 0 (by omega)) (hf171 13 0 (by omega)))
  have hp181 : wo Z B150 C166 14 0 := (wo.kept (wo.B hp165 (hBn153 15 0 (gk (by decide)))) (hf171 14 0 (by omega)) (hf171 15 0 (by omega)))
  refine g_putF (ci := 7) (ty := .object "ReviewBench$Ancestry") X in_X7_init_7 tyX7 tyX7_ok nmX7 rfl hW hS f173 11 (by decide) (hts _ (List.mem_of_getElem? (i := 26) rfl)) rfl hin rfl (by decide +kernel) (rfl) (rfl) (Nat.le_of_ble_eq_true rfl) dX7_init_77 (fun C182 H locs hs183 hn184 hW hS => ?_)
  refine lv_aload_n hx hb dX7_init_80 rfl (lv_at hl 0 rfl) ?_
  refine g_new (ci := 2) (fs := [.null, .null, .null, .null, .null, .null, .int (zI 0)]) 18 0 X in_X7_init_2 tyX2 tyX2_ok (hts _ (List.mem_of_getElem? (i := 27) rfl)) (hts _ (List.mem_of_getElem? (i := 28) rfl)) (hts _ (List.mem_of_getElem? (i := 29) rfl)) rfl hW hS ((hn184 18 0 (gk (by decide))).trans ((hf171 18 0 (by omega)).trans ((hn155 18 0 (gk (by decide))).trans ((hn148 18 0 (gk (by decide))).trans ((hf136 18 0 (by omega)).trans ((hn121 18 0 (gk (by decide))).trans ((hn114 18 0 (gk (by decide))).trans ((hf103 18 0 (by omega)).trans ((hn89 18 0 (gk (by decide))).trans ((hn82 18 0 (gk (by decide))).trans ((hn71 18 0 (gk (by decide))).trans ((hn64 18 0 (gk (by decide))).trans ((hn55 18 0 (gk (by decide))).trans ((hn48 18 0 (gk (by decide))).trans ((hn40 18 0 (gk (by decide))).trans ((hn33 18 0 (gk (by decide))).trans ((hn25 18 0 (gk (by decide))).trans ((hn18 18 0 (gk (by decide))).trans ((hf14 18 0 (by omega)).trans ((hn7 18 0 (gk (by decide))).trans (hno 18 0 (by decide) (by decide)))))))))))))))))))))) (fun j hj => by rcases j with _ | _ | _ | _ | _ | _ | _ | j; rfl; rfl; rfl; rfl; rfl; rfl; rfl; omega) (Nat.le_of_ble_eq_true rfl) (Nat.le_of_ble_eq_true rfl) dX7_init_81 (fun a185 B186 C187 H hB188 hBn189 hs190 hn191 hW hS => ?_)
  subst hB188
  have hl : lv_has ls 1 [(0, .ref (B186 0 0))] := by rw [hBn189 0 0 (gk (by decide))]; exact hl
  rw [← hBn189 0 0 (gk (by decide))]
  have f192 : C187 0 0 = some (.inr (7, [.ref (B168 1 0), .ref (B168 3 0), .int (zI 0), .ref (B168 4 0), .int (zI 0), .ref (B168 5 0), .int (zI 0), .ref (B168 6 0), .int (zI 0), .ref (B168 10 0), .ref (B168 14 0), .ref (B168 16 0), .null])) := ((hn191 0 0 (gk (by decide))).trans hs183)
  have f193 : C187 0 0 = some (.inr (7, [.ref (B186 1 0), .ref (B186 3 0), .int (zI 0), .ref (B186 4 0), .int (zI 0), .ref (B186 5 0), .int (zI 0), .ref (B186 6 0), .int (zI 0), .ref (B186 10 0), .ref (B186 14 0), .ref (B186 16 0), .null])) := by rw [hBn189 1 0 (gk (by decide)), hBn189 10 0 (gk (by decide)), hBn189 14 0 (gk (by decide)), hBn189 16 0 (gk (by decide)), hBn189 3 0 (gk (by decide)), hBn189 4 0 (gk (by decide)), hBn189 5 0 (gk (by decide)), hBn189 6 0 (gk (by decide))]; exact f192
  have ht194 : tx Z B168 C187 1 0 ([]) := (tx.kept (tx.kept (tx.B ht174 (hB170 2 0 (by omega))) (hn184 1 0 (gk (by decide))) (hn184 2 0 (gk (by decide)))) (hn191 1 0 (gk (by decide))) (hn191 2 0 (gk (by decide))))
  have f196 : C187 3 0 = some (gJ Z 100 (fun _ => 0)) := ((hn191 3 0 (gk (by decide))).trans ((hn184 3 0 (gk (by decide))).trans f176))
  have f197 : C187 4 0 = some (gR Z 1 4 (fun _ => none)) := ((hn191 4 0 (gk (by decide))).trans ((hn184 4 0 (gk (by decide))).trans f177))
  have f198 : C187 5 0 = some (gR Z 2 12 (fun _ => none)) := ((hn191 5 0 (gk (by decide))).trans ((hn184 5 0 (gk (by decide))).trans f178))
  have f199 : C187 6 0 = some (gJ Z 4 (fun _ => 0)) := ((hn191 6 0 (gk (by decide))).trans ((hn184 6 0 (gk (by decide))).trans f179))
  have hp200 : so Z B168 C187 10 0 := (so.kept (so.kept (so.B hp180 (hB170 11 0 (by omega)) (hB170 12 0 (by omega)) (hB170 13 0 (by omega))) (hn184 10 0 (gk (by decide))) (hn184 11 0 (gk (by decide))) (hn184 12 0 (gk (by decide))) (hn184 13 0 (gk (by decide)))) (hn191 10 0 (gk (by decide))) (hn191 11 0 (gk (by decide))) (hn191 12 0 (gk (by decide))) (hn191 13 0 (gk (by decide))))
  have hp201 : wo Z B168 C187 14 0 := (wo.kept (wo.kept (wo.B hp181 (hB170 15 0 (by omega))) (hn184 14 0 (gk (by decide))) (hn184 15 0 (gk (by decide)))) (hn191 14 0 (gk (by decide))) (hn191 15 0 (gk (by decide))))
  have hp202 : ao Z B168 C187 16 0 := (ao.kept (ao.kept ht169 (hn184 16 0 (gk (by decide))) (hn184 17 0 (gk (by decide)))) (hn191 16 0 (gk (by decide))) (hn191 17 0 (gk (by decide))))
  refine lv_dup hx hb dX7_init_84 rfl ?_
  refine g_cvB (g_runIN X (k_X2_init hs190 (fun k' a1 b1 => ((hn191 k' 0 (by omega)).trans ((hn184 k' 0 (by omega)).trans ((hf171 k' 0 (by omega)).trans ((hn155 k' 0 (by omega)).trans ((hn148 k' 0 (by omega)).trans ((hf136 k' 0 (by omega)).trans ((hn121 k' 0 (by omega)).trans ((hn114 k' 0 (by omega)).trans ((hf103 k' 0 (by omega)).trans ((hn89 k' 0 (by omega)).trans ((hn82 k' 0 (by omega)).trans ((hn71 k' 0 (by omega)).trans ((hn64 k' 0 (by omega)).trans ((hn55 k' 0 (by omega)).trans ((hn48 k' 0 (by omega)).trans ((hn40 k' 0 (by omega)).trans ((hn33 k' 0 (by omega)).trans ((hn25 k' 0 (by omega)).trans ((hn18 k' 0 (by omega)).trans ((hf14 k' 0 (by omega)).trans ((hn7 k' 0 (by omega)).trans (hno k' 0 (by omega) (by omega))))))))))))))))))))))))) ⟨va_cnB 0 hts gX7_init_X2_init_n58 rfl rfl rfl (nmw_4 X.2.2.1) (hts _ (List.mem_of_getElem? (i := 29) rfl)) ds_X2_init ⟨Nat.le_of_ble_eq_true rfl, Nat.le_of_ble_eq_true rfl⟩, rfl, hts _ (List.mem_of_getElem? (i := 49) rfl)⟩ hW hS rfl hl.1 rfl (Nat.le_of_ble_eq_true rfl) dX7_init_85 ⟨Nat.le_of_ble_eq_true rfl, Nat.le_of_ble_eq_true rfl⟩) hS (fun B205 C203 H locs hp204 hW hS => ?_)
  obtain ⟨ht206, hB207, hf208⟩ := hp204
  have hl : lv_has ls 1 [(0, .ref (B205 0 0))] := by rw [hB207 0 0 (by omega)]; exact hl
  rw [← hB207 0 0 (by omega), ← hB207 18 0 (by omega)]
  have f209 : C203 0 0 = some (.inr (7, [.ref (B186 1 0), .ref (B186 3 0), .int (zI 0), .ref (B186 4 0), .int (zI 0), .ref (B186 5 0), .int (zI 0), .ref (B186 6 0), .int (zI 0), .ref (B186 10 0), .ref (B186 14 0), .ref (B186 16 0), .null])) := ((hf208 0 0 (by omega)).trans f193)
  have f210 : C203 0 0 = some (.inr (7, [.ref (B205 1 0), .ref (B205 3 0), .int (zI 0), .ref (B205 4 0), .int (zI 0), .ref (B205 5 0), .int (zI 0), .ref (B205 6 0), .int (zI 0), .ref (B205 10 0), .ref (B205 14 0), .ref (B205 16 0), .null])) := by rw [hB207 1 0 (by omega), hB207 10 0 (by omega), hB207 14 0 (by omega), hB207 16 0 (by omega), hB207 3 0 (by omega), hB207 4 0 (by omega), hB207 5 0 (by omega), hB207 6 0 (by omega)]; exact f209
  have ht211 : tx Z B186 C203 1 0 ([]) := (tx.kept (tx.B ht194 (hBn189 2 0 (gk (by decide)))) (hf208 1 0 (by omega)) (hf208 2 0 (by omega)))
  have f213 : C203 3 0 = some (gJ Z 100 (fun _ => 0)) := ((hf208 3 0 (by omega)).trans f196)
  have f214 : C203 4 0 = some (gR Z 1 4 (fun _ => none)) := ((hf208 4 0 (by omega)).trans f197)
  have f215 : C203 5 0 = some (gR Z 2 12 (fun _ => none)) := ((hf208 5 0 (by omega)).trans f198)
  have f216 : C203 6 0 = some (gJ Z 4 (fun _ => 0)) := ((hf208 6 0 (by omega)).trans f199)
  have hp217 : so Z B186 C203 10 0 := (so.kept (so.B hp200 (hBn189 11 0 (gk (by decide))) (hBn189 12 0 (gk (by decide))) (hBn189 13 0 (gk (by decide)))) (hf208 10 0 (by omega)) (hf208 11 0 (by omega)) (hf208 12 0 (by omega)) (hf208 13 0 (by omega)))
  have hp218 : wo Z B186 C203 14 0 := (wo.kept (wo.B hp201 (hBn189 15 0 (gk (by decide)))) (hf208 14 0 (by omega)) (hf208 15 0 (by omega)))
  have hp219 : ao Z B186 C203 16 0 := (ao.kept (ao.B hp202 (hBn189 17 0 (gk (by decide)))) (hf208 16 0 (by omega)) (hf208 17 0 (by omega)))
  refine g_putF (ci := 7) (ty := .object "ReviewBench$Merger") X in_X7_init_7 tyX7 tyX7_ok nmX7 rfl hW hS f210 12 (by decide) (hts _ (List.mem_of_getElem? (i := 30) rfl)) rfl hin rfl (by decide +kernel) (rfl) (rfl) (Nat.le_of_ble_eq_true rfl) dX7_init_88 (fun C220 H locs hs221 hn222 hW hS => ?_)
  refine lv_aload_n hx hb dX7_init_91 rfl (lv_at hl 0 rfl) ?_
  refine g_get (ci := 7) X in_X7_init_7 rfl hW hs221 1 (by decide) (hts _ (List.mem_of_getElem? (i := 9) rfl)) rfl dX7_init_92 ?_
  refine lv_iconst (v := zI (-1)) hx hb dX7_init_95 rfl ?_
  have f223 : C220 3 0 = some (gJ Z 100 (fun _ => 0)) := ((hn222 3 0 (gk (by decide))).trans f213)
  refine g_cv (g_runS X (k_J7_fill_53178 (v := (-1)) f223 (by decide)) (va_cwS 2 hts gX7_init_J7_fill_53178 rfl rfl rfl ds_J7_fill_53178 ⟨Nat.le_of_ble_eq_true rfl, Nat.le_of_ble_eq_true rfl⟩) hW hS rfl hl.1 rfl (Nat.le_of_ble_eq_true rfl) dX7_init_96 ⟨Nat.le_of_ble_eq_true rfl, Nat.le_of_ble_eq_true rfl⟩) hS (fun C224 H locs hp225 hW hS => ?_)
  obtain ⟨⟨F226, hs227, hv228⟩, hn229⟩ := hp225
  have hfr : ∀ k' i', 38 ≤ k' → C224 k' i' = C0 k' i' := fun k' i' h => ((hn229 k' i' (by omega)).trans ((hn222 k' i' (by omega)).trans ((hf208 k' i' (by omega)).trans ((hn191 k' i' (by omega)).trans ((hn184 k' i' (by omega)).trans ((hf171 k' i' (by omega)).trans ((hn155 k' i' (by omega)).trans ((hn148 k' i' (by omega)).trans ((hf136 k' i' (by omega)).trans ((hn121 k' i' (by omega)).trans ((hn114 k' i' (by omega)).trans ((hf103 k' i' (by omega)).trans ((hn89 k' i' (by omega)).trans ((hn82 k' i' (by omega)).trans ((hn71 k' i' (by omega)).trans ((hn64 k' i' (by omega)).trans ((hn55 k' i' (by omega)).trans ((hn48 k' i' (by omega)).trans ((hn40 k' i' (by omega)).trans ((hn33 k' i' (by omega)).trans ((hn25 k' i' (by omega)).trans ((hn18 k' i' (by omega)).trans ((hf14 k' i' (by omega)).trans ((hn7 k' i' (by omega)).trans rfl))))))))))))))))))))))))
  have hbr : ∀ k' i', 38 ≤ k' → B205 k' i' = B k' i' := fun k' i' h => (hB207 k' i' (by omega)).trans ((hBn189 k' i' (by omega)).trans ((hB170 k' i' (by omega)).trans ((hBn153 k' i' (by omega)).trans ((hB135 k' i' (by omega)).trans ((hBn119 k' i' (by omega)).trans ((hB102 k' i' (by omega)).trans ((hBn87 k' i' (by omega)).trans ((hBn69 k' i' (by omega)).trans ((hBn53 k' i' (by omega)).trans ((hBn38 k' i' (by omega)).trans ((hBn23 k' i' (by omega)).trans ((hB13 k' i' (by omega)).trans ((hBn5 k' i' (by omega)))))))))))))))
  have f230 : C224 0 0 = some (.inr (7, [.ref (B205 1 0), .ref (B205 3 0), .int (zI 0), .ref (B205 4 0), .int (zI 0), .ref (B205 5 0), .int (zI 0), .ref (B205 6 0), .int (zI 0), .ref (B205 10 0), .ref (B205 14 0), .ref (B205 16 0), .ref (B205 18 0)])) := ((hn229 0 0 (gk (by decide))).trans hs221)
  have ht231 : tx Z B205 C224 1 0 ([]) := (tx.kept (tx.kept (tx.B ht211 (hB207 2 0 (by omega))) (hn222 1 0 (gk (by decide))) (hn222 2 0 (gk (by decide)))) (hn229 1 0 (gk (by decide))) (hn229 2 0 (gk (by decide))))
  have f232 : C224 4 0 = some (gR Z 1 4 (fun _ => none)) := ((hn229 4 0 (gk (by decide))).trans ((hn222 4 0 (gk (by decide))).trans f214))
  have f233 : C224 5 0 = some (gR Z 2 12 (fun _ => none)) := ((hn229 5 0 (gk (by decide))).trans ((hn222 5 0 (gk (by decide))).trans f215))
  have f234 : C224 6 0 = some (gJ Z 4 (fun _ => 0)) := ((hn229 6 0 (gk (by decide))).trans ((hn222 6 0 (gk (by decide))).trans f216))
  obtain ⟨cf9, mt9, hmq235⟩ := ht206
  have hp236 : so Z B205 C224 10 0 := (so.kept (so.kept (so.B hp217 (hB207 11 0 (by omega)) (hB207 12 0 (by omega)) (hB207 13 0 (by omega))) (hn222 10 0 (gk (by decide))) (hn222 11 0 (gk (by decide))) (hn222 12 0 (gk (by decide))) (hn222 13 0 (gk (by decide)))) (hn229 10 0 (gk (by decide))) (hn229 11 0 (gk (by decide))) (hn229 12 0 (gk (by decide))) (hn229 13 0 (gk (by decide))))
  have hp237 : wo Z B205 C224 14 0 := (wo.kept (wo.kept (wo.B hp218 (hB207 15 0 (by omega))) (hn222 14 0 (gk (by decide))) (hn222 15 0 (gk (by decide)))) (hn229 14 0 (gk (by decide))) (hn229 15 0 (gk (by decide))))
  have hp238 : ao Z B205 C224 16 0 := (ao.kept (ao.kept (ao.B hp219 (hB207 17 0 (by omega))) (hn222 16 0 (gk (by decide))) (hn222 17 0 (gk (by decide)))) (hn229 16 0 (gk (by decide))) (hn229 17 0 (gk (by decide))))
  exact kret _ _ _ _ _ _ _ _ (⟨⟨f230, ht231, ⟨_, hs227, fun x hx => (hv228 x hx)⟩, ⟨_, f232, fun i hi => absurd hi (Nat.not_lt_zero _), fun _ _ => rfl⟩, ⟨_, f233, fun i hi => absurd hi (Nat.not_lt_zero _), fun _ _ => rfl⟩, ⟨_, f234, fun i hi => absurd hi (Nat.not_lt_zero _)⟩, fun i hi => absurd hi (Nat.not_lt_zero _), fun i hi => absurd hi (Nat.not_lt_zero _), fun i k a1 a2 a3 a4 a5 => (hfr k i (by omega)).trans (hno k i (by omega) (by omega)), fun i a1 => ⟨(hfr 46 i (by omega)).trans (hno 46 i (by omega) (by omega)), (hfr 47 i (by omega)).trans (hno 47 i (by omega) (by omega))⟩, fun q a1 => (hfr 60 q (by omega)).trans (hno 60 q (by omega) (by omega))⟩, ⟨hp236, hp237, hp238, cf9, mt9, (moq.kept (moq.kept hmq235 (fun k' a1 b1 => hn222 k' 0 (by omega))) (fun k' a1 b1 => hn229 k' 0 (by omega)))⟩, hfr, hbr⟩) hW hS (Nat.le_of_ble_eq_true rfl) (Nat.le_of_ble_eq_true rfl) dX7_init_99
