/-! SCRIPTS: an object of kind k (with its three rows at k + 1, k + 2, k + 3) -/
def so (Z : gZ) (B : gB) (C : gC) (k u : Nat) : Prop :=
  ∃ (n : Int) (R K A : Nat → Int), C k u = some (.inr (4, [.ref (B (k + 1) u), .ref (B (k + 2) u), .ref (B (k + 3) u), .int (zI n)])) ∧ C (k + 1) u = some (gJ Z 169 R) ∧ C (k + 2) u = some (gJ Z 12 K) ∧ C (k + 3) u = some (gJ Z 24 A)
/-- it holds the script from a to b -/
def sc (Z : gZ) (B : gB) (C : gC) (k u : Nat) (a b : List Int) : Prop :=
  ∃ (R K A : Nat → Int), C k u = some (.inr (4, [.ref (B (k + 1) u), .ref (B (k + 2) u), .ref (B (k + 3) u), .int (zI (ed a b : Int))])) ∧ C (k + 1) u = some (gJ Z 169 R) ∧ C (k + 2) u = some (gJ Z 12 K) ∧ C (k + 3) u = some (gJ Z 24 A) ∧
    (∀ q, q < a.length → K q = enc (kt a b q)) ∧ ∀ q, q < ed a b → A q = (al a b).getD q (-1)
theorem sc.so {Z : gZ} {B : gB} {C : gC} {k u : Nat} {a b : List Int} (h : sc Z B C k u a b) : so Z B C k u := by
  obtain ⟨R, K, A, h1, h2, h3, h4, -⟩ := h
  exact ⟨_, R, K, A, h1, h2, h3, h4⟩
def fr4 (k u : Nat) (C C' : gC) : Prop := ∀ k' i', ¬ (k ≤ k' ∧ k' ≤ k + 3 ∧ i' = u) → C' k' i' = C k' i'
theorem so.kept {Z : gZ} {B : gB} {C C' : gC} {k u : Nat} (h : so Z B C k u) (h0 : C' k u = C k u) (h1 : C' (k + 1) u = C (k + 1) u) (h2 : C' (k + 2) u = C (k + 2) u) (h3 : C' (k + 3) u = C (k + 3) u) : so Z B C' k u := by
  obtain ⟨n, R, K, A, a1, a2, a3, a4⟩ := h
  exact ⟨n, R, K, A, h0.trans a1, h1.trans a2, h2.trans a3, h3.trans a4⟩
theorem sc.kept {Z : gZ} {B : gB} {C C' : gC} {k u : Nat} {a b : List Int} (h : sc Z B C k u a b) (h0 : C' k u = C k u) (h1 : C' (k + 1) u = C (k + 1) u) (h2 : C' (k + 2) u = C (k + 2) u) (h3 : C' (k + 3) u = C (k + 3) u) : sc Z B C' k u a b := by
  obtain ⟨R, K, A, a1, a2, a3, a4, a5⟩ := h
  exact ⟨R, K, A, h0.trans a1, h1.trans a2, h2.trans a3, h3.trans a4, a5⟩
theorem getD_app_l {l : List Int} {u : Int} {q : Nat} (h : q < l.length) : (l ++ [u]).getD q (-1) = l.getD q (-1) := by rw [getD_app1, if_neg (by omega)]
theorem getD_app_e {l : List Int} {u : Int} : (l ++ [u]).getD l.length (-1) = u := by rw [getD_app1, if_pos rfl]
theorem ju_alt {A : Nat → Int} {pre : List Int} {n : Nat} {u : Int} (hn : pre.length = n) (h : ∀ q, q < n → A q = pre.getD q (-1)) : ∀ q, q < n + 1 → ju A ((n : Int)).toNat u q = (pre ++ [u]).getD q (-1) := by
  intro q hq
  subst hn
  rw [getD_app1]
  by_cases he : q = pre.length
  · subst he; rw [if_pos rfl]; simp [ju]
  · rw [if_neg he, ju_n (by simpa using he)]; exact h q (by omega)

theorem ds_X4_size : yX4_size.cls ≠ "java/lang/invoke/MethodHandle" ∧ yX4_size.cls ≠ "java/lang/invoke/VarHandle" ∧ (parseMethodDescriptor yX4_size.desc).map (fun d => d.parameters.length) = some 0 := by decide +kernel
theorem in_X4_size_4 : ∀ w ∈ wsX40, w ∈ wsX4_size := by decide +kernel
def rX4_size : Room := { frames := 0, cells := 0, slots := 0, locals := 0 }
set_option maxHeartbeats 4000000 in
set_option maxRecDepth 100000 in
theorem k_X4_size {l : Launch} {Z : gZ} {B : gB} {C0 : gC} {k u : Nat} {a b : List Int} (h : sc Z B C0 k u a b) : Met l yX4_size wsX4_size rX4_size (gPc Z B C0 [.ref (B k u)]) (gQi Z B (fun r C1 => r = zI (ed a b : Int) ∧ C1 = C0)) 0 0 (gA Z) := by
  refine g_ofI (cc := cX4_size) (maxL := 1) (by decide) rfl (Nat.le_of_ble_eq_true rfl) ?_
  intro p e s m args below meth c Q X kret hW hS ls hl
  have hx := X.1.1
  have hb := X.1.2.1
  have hts := X.1.2.2.2.2
  have hl : lv_has ls 1 [(0, .ref (B k u))] := hl
  obtain ⟨R0, K0, A0, h0, h1, h2, h3, h4, h5⟩ := id h
  refine lv_aload_n hx hb dX4_size_0 rfl (lv_at hl 0 rfl) ?_
  refine g_get (ci := 4) X in_X4_size_4 rfl hW h0 3 (by decide) (hts _ (List.mem_of_getElem? (i := 1) rfl)) rfl dX4_size_1 ?_
  exact kret _ _ _ _ _ _ _ _ (⟨rfl, rfl⟩) hW hS (Nat.le_of_ble_eq_true rfl) (Nat.le_of_ble_eq_true rfl) dX4_size_4

theorem ds_X4_keptAs : yX4_keptAs.cls ≠ "java/lang/invoke/MethodHandle" ∧ yX4_keptAs.cls ≠ "java/lang/invoke/VarHandle" ∧ (parseMethodDescriptor yX4_keptAs.desc).map (fun d => d.parameters.length) = some 1 := by decide +kernel
theorem in_X4_keptAs_4 : ∀ w ∈ wsX40, w ∈ wsX4_keptAs := by decide +kernel
def rX4_keptAs : Room := { frames := 1, cells := 0, slots := 0, locals := 21 }
set_option maxHeartbeats 4000000 in
set_option maxRecDepth 100000 in
theorem k_X4_keptAs {l : Launch} {Z : gZ} {B : gB} {C0 : gC} {k u : Nat} {a b : List Int} {x : Int} (h : sc Z B C0 k u a b) (hx0 : 0 ≤ x ∧ x < a.length) (hal : a.length ≤ 12) : Met l yX4_keptAs wsX4_keptAs rX4_keptAs (gPc Z B C0 [.ref (B k u), .int (zI x)]) (gQi Z B (fun r C1 => r = zI (enc (kt a b x.toNat)) ∧ C1 = C0)) 0 0 (gA Z) := by
  refine g_ofI (cc := cX4_keptAs) (maxL := 2) (by decide) rfl (Nat.le_of_ble_eq_true rfl) ?_
  intro p e s m args below meth c Q X kret hW hS ls hl
  have hx := X.1.1
  have hb := X.1.2.1
  have hts := X.1.2.2.2.2
  have hl : lv_has ls 2 [(0, .ref (B k u)), (1, .int (zI x))] := hl
  obtain ⟨R0, K0, A0, h0, h1, h2, h3, h4, h5⟩ := id h
  refine lv_aload_n hx hb dX4_keptAs_0 rfl (lv_at hl 0 rfl) ?_
  refine g_get (ci := 4) X in_X4_keptAs_4 rfl hW h0 1 (by decide) (hts _ (List.mem_of_getElem? (i := 1) rfl)) rfl dX4_keptAs_1 ?_
  refine lv_iload_n hx hb dX4_keptAs_4 rfl (lv_at hl 1 rfl) ?_
  refine g_ci (g_runSN X (k_X7_cell (a := x) h2 (by decide) (⟨by omega, by omega⟩)) ⟨va_cnB 2 hts gX4_keptAs_X7_cell_n32 rfl rfl rfl (nmw_13 X.2.2.1) (hts _ (List.mem_of_getElem? (i := 3) rfl)) ds_X7_cell ⟨Nat.le_of_ble_eq_true rfl, Nat.le_of_ble_eq_true rfl⟩, hts _ (List.mem_of_getElem? (i := 2) rfl), trivial⟩ hW hS rfl hl.1 rfl (Nat.le_of_ble_eq_true rfl) dX4_keptAs_5 ⟨Nat.le_of_ble_eq_true rfl, Nat.le_of_ble_eq_true rfl⟩) hS (fun r3 C1 H locs hp2 hW hS => ?_)
  rw [if_pos (show 0 ≤ x ∧ x < ((12 : Nat) : Int) from ⟨by omega, by omega⟩)] at hp2
  obtain ⟨rfl, ehp2⟩ := hp2
  rw [ehp2] at hW
  exact kret _ _ _ _ _ _ _ _ (⟨congrArg zI (h4 _ (by omega)), rfl⟩) hW hS (Nat.le_of_ble_eq_true rfl) (Nat.le_of_ble_eq_true rfl) dX4_keptAs_8

theorem ds_X4_alteredContent : yX4_alteredContent.cls ≠ "java/lang/invoke/MethodHandle" ∧ yX4_alteredContent.cls ≠ "java/lang/invoke/VarHandle" ∧ (parseMethodDescriptor yX4_alteredContent.desc).map (fun d => d.parameters.length) = some 1 := by decide +kernel
theorem in_X4_alteredContent_4 : ∀ w ∈ wsX40, w ∈ wsX4_alteredContent := by decide +kernel
def rX4_alteredContent : Room := { frames := 1, cells := 0, slots := 0, locals := 21 }
set_option maxHeartbeats 4000000 in
set_option maxRecDepth 100000 in
theorem k_X4_alteredContent {l : Launch} {Z : gZ} {B : gB} {C0 : gC} {k u : Nat} {a b : List Int} {x : Int} (h : sc Z B C0 k u a b) (hx0 : 0 ≤ x ∧ x < ed a b) (hal : ed a b ≤ 24) : Met l yX4_alteredContent wsX4_alteredContent rX4_alteredContent (gPc Z B C0 [.ref (B k u), .int (zI x)]) (gQi Z B (fun r C1 => r = zI ((al a b).getD x.toNat (-1)) ∧ C1 = C0)) 0 0 (gA Z) := by
  refine g_ofI (cc := cX4_alteredContent) (maxL := 2) (by decide) rfl (Nat.le_of_ble_eq_true rfl) ?_
  intro p e s m args below meth c Q X kret hW hS ls hl
  have hx := X.1.1
  have hb := X.1.2.1
  have hts := X.1.2.2.2.2
  have hl : lv_has ls 2 [(0, .ref (B k u)), (1, .int (zI x))] := hl
  obtain ⟨R0, K0, A0, h0, h1, h2, h3, h4, h5⟩ := id h
  refine lv_aload_n hx hb dX4_alteredContent_0 rfl (lv_at hl 0 rfl) ?_
  refine g_get (ci := 4) X in_X4_alteredContent_4 rfl hW h0 2 (by decide) (hts _ (List.mem_of_getElem? (i := 1) rfl)) rfl dX4_alteredContent_1 ?_
  refine lv_iload_n hx hb dX4_alteredContent_4 rfl (lv_at hl 1 rfl) ?_
  refine g_ci (g_runSN X (k_X7_cell (a := x) h3 (by decide) (⟨by omega, by omega⟩)) ⟨va_cnB 2 hts gX4_alteredContent_X7_cell_n32 rfl rfl rfl (nmw_13 X.2.2.1) (hts _ (List.mem_of_getElem? (i := 3) rfl)) ds_X7_cell ⟨Nat.le_of_ble_eq_true rfl, Nat.le_of_ble_eq_true rfl⟩, hts _ (List.mem_of_getElem? (i := 2) rfl), trivial⟩ hW hS rfl hl.1 rfl (Nat.le_of_ble_eq_true rfl) dX4_alteredContent_5 ⟨Nat.le_of_ble_eq_true rfl, Nat.le_of_ble_eq_true rfl⟩) hS (fun r3 C1 H locs hp2 hW hS => ?_)
  rw [if_pos (show 0 ≤ x ∧ x < ((24 : Nat) : Int) from ⟨by omega, by omega⟩)] at hp2
  obtain ⟨rfl, ehp2⟩ := hp2
  rw [ehp2] at hW
  exact kret _ _ _ _ _ _ _ _ (⟨congrArg zI (h5 _ (by omega)), rfl⟩) hW hS (Nat.le_of_ble_eq_true rfl) (Nat.le_of_ble_eq_true rfl) dX4_alteredContent_8

theorem ds_X4_fillRests : yX4_fillRests.cls ≠ "java/lang/invoke/MethodHandle" ∧ yX4_fillRests.cls ≠ "java/lang/invoke/VarHandle" ∧ (parseMethodDescriptor yX4_fillRests.desc).map (fun d => d.parameters.length) = some 2 := by decide +kernel
theorem in_X4_fillRests_4 : ∀ w ∈ wsX40, w ∈ wsX4_fillRests := by decide +kernel
def rX4_fillRests : Room := { frames := 1, cells := 0, slots := 0, locals := 22 }
set_option maxHeartbeats 4000000 in
set_option maxRecDepth 100000 in
theorem k_X4_fillRests {l : Launch} {Z : gZ} {B : gB} {C0 : gC} {k u k1 s1 k2 s2 : Nat} {a b : List Int} {n0 : Int} {R0 : Nat → Int} (h0 : C0 k u = some (.inr (4, [.ref (B (k + 1) u), .ref (B (k + 2) u), .ref (B (k + 3) u), .int (zI n0)]))) (h1 : C0 (k + 1) u = some (gJ Z 169 R0)) (ht1 : tx Z B C0 k1 s1 a) (ht2 : tx Z B C0 k2 s2 b) (ha12 : a.length ≤ 12) (hb12 : b.length ≤ 12) (hd1 : ¬ s1 = u ∨ k1 + 1 < k ∨ k + 3 < k1) (hd2 : ¬ s2 = u ∨ k2 + 1 < k ∨ k + 3 < k2) : Met l yX4_fillRests wsX4_fillRests rX4_fillRests (gPc Z B C0 [.ref (B k u), .ref (B k1 s1), .ref (B k2 s2)]) (gQv Z B (fun C1 => (∃ R, C1 (k + 1) u = some (gJ Z 169 R) ∧ tb a b R (-1) b.length) ∧ ∀ k' i', ¬ (k' = k + 1 ∧ i' = u) → C1 k' i' = C0 k' i')) 0 0 (gA Z) := by
  refine g_ofV (cc := cX4_fillRests) (maxL := 8) (by decide) rfl (Nat.le_of_ble_eq_true rfl) ?_
  intro p e s m args below meth c Q X kret hW hS ls hl
  have hx := X.1.1
  have hb := X.1.2.1
  have hts := X.1.2.2.2.2
  have hl : lv_has ls 8 [(0, .ref (B k u)), (1, .ref (B k1 s1)), (2, .ref (B k2 s2))] := hl
  refine lv_aload_n hx hb dX4_fillRests_0 rfl (lv_at hl 1 rfl) ?_
  refine g_ci (g_runV X (k_X5_size (t := a) ht1 ) (cwV 0 hts gX4_fillRests_X5_size rfl rfl rfl ⟨rfl, ds_X5_size⟩ ⟨Nat.le_of_ble_eq_true rfl, Nat.le_of_ble_eq_true rfl⟩) hW hS ht1.2.2.1 rfl rfl hl.1 rfl (Nat.le_of_ble_eq_true rfl) dX4_fillRests_1 ⟨Nat.le_of_ble_eq_true rfl, Nat.le_of_ble_eq_true rfl⟩) hS (fun r3 C1 H locs hp2 hW hS => ?_)
  obtain ⟨rfl, ehp2⟩ := hp2
  rw [ehp2] at hW
  refine lv_istore_n (lv' := [(3, .int (zI (a.length : Int))), (0, .ref (B k u)), (1, .ref (B k1 s1)), (2, .ref (B k2 s2))]) hx hb dX4_fillRests_4 rfl hl (by decide) rfl (fun ls hl => ?_)
  refine lv_aload_n hx hb dX4_fillRests_5 rfl (lv_at hl 3 rfl) ?_
  refine g_ci (g_runV X (k_X5_size (t := b) ht2 ) (cwV 0 hts gX4_fillRests_X5_size rfl rfl rfl ⟨rfl, ds_X5_size⟩ ⟨Nat.le_of_ble_eq_true rfl, Nat.le_of_ble_eq_true rfl⟩) hW hS ht2.2.2.1 rfl rfl hl.1 rfl (Nat.le_of_ble_eq_true rfl) dX4_fillRests_6 ⟨Nat.le_of_ble_eq_true rfl, Nat.le_of_ble_eq_true rfl⟩) hS (fun r6 C4 H locs hp5 hW hS => ?_)
  obtain ⟨rfl, ehp5⟩ := hp5
  rw [ehp5] at hW
  refine lv_istore (lv' := [(4, .int (zI (b.length : Int))), (3, .int (zI (a.length : Int))), (0, .ref (B k u)), (1, .ref (B k1 s1)), (2, .ref (B k2 s2))]) hx hb dX4_fillRests_9 hl (by decide) rfl (fun ls hl => ?_)
  refine lv_iload_n hx hb dX4_fillRests_11 rfl (lv_at hl 1 rfl) ?_
  refine lv_istore (lv' := [(5, .int (zI (a.length : Int))), (4, .int (zI (b.length : Int))), (3, .int (zI (a.length : Int))), (0, .ref (B k u)), (1, .ref (B k1 s1)), (2, .ref (B k2 s2))]) hx hb dX4_fillRests_12 hl (by decide) rfl (fun ls hl => ?_)
  have lp14 : ∀ (n : Nat) (i : Int) (R : Nat → Int) (Cl : gC) (H : Heap) (locs : List Loc), (i + 1 < (n : Int)) → (-1 ≤ i ∧ i ≤ a.length) → (tb a b R i b.length) → (Cl (k + 1) u = some (gJ Z 169 R)) → (∀ k' i', ¬ (k' = k + 1 ∧ i' = u) → Cl k' i' = C0 k' i') → gw Z B Cl H → va_S (gA Z) s.heap H locs → ∀ ls : Array Slot, lv_has ls 8 [(0, .ref (B k u)), (1, .ref (B k1 s1)), (2, .ref (B k2 s2)), (3, .int (zI (a.length : Int))), (4, .int (zI (b.length : Int))), (5, .int (zI i))] → W p l e rX4_fillRests s m args below meth c H locs 0 0 Q (F0 m 14 ls []) := by
    intro n
    induction n with
    | zero =>
      intro i R Cl H locs hm hi hTl hRl hfl hW hS ls hl
      exact absurd hm (by omega)
    | succ n ih14 =>
      intro i R Cl H locs hm hi hTl hRl hfl hW hS ls hl
      have h0l := (hfl _ _ (by omega)).trans h0
      have ht1l := tx.kept ht1 (hfl k1 s1 (by omega)) (hfl (k1 + 1) s1 (by omega))
      have ht2l := tx.kept ht2 (hfl k2 s2 (by omega)) (hfl (k2 + 1) s2 (by omega))
      refine lv_iload hx hb dX4_fillRests_14 (lv_at hl 5 rfl) ?_
      refine z_if_lt (tgt := 161) hx hb dX4_fillRests_16 (by decide) (⟨by omega, by omega⟩) (fun h_16 => ?_) (fun h_16 => ?_)
      · exact kret _ _ _ _ _ _ _ (⟨⟨R, hRl, (show i = -1 by omega) ▸ hTl⟩, hfl⟩) hW hS (Nat.le_of_ble_eq_true rfl) (Nat.le_of_ble_eq_true rfl) dX4_fillRests_161
      · refine lv_iload hx hb dX4_fillRests_19 (lv_at hl 4 rfl) ?_
        refine lv_istore (lv' := [(6, .int (zI (b.length : Int))), (0, .ref (B k u)), (1, .ref (B k1 s1)), (2, .ref (B k2 s2)), (3, .int (zI (a.length : Int))), (4, .int (zI (b.length : Int))), (5, .int (zI i))]) hx hb dX4_fillRests_21 hl (by decide) rfl (fun ls hl => ?_)
        have lp23 : ∀ (n : Nat) (j : Int) (R : Nat → Int) (Cl : gC) (H : Heap) (locs : List Loc), (j + 1 < (n : Int)) → (-1 ≤ j ∧ j ≤ b.length) → (tb a b R i j) → (Cl (k + 1) u = some (gJ Z 169 R)) → (∀ k' i', ¬ (k' = k + 1 ∧ i' = u) → Cl k' i' = C0 k' i') → gw Z B Cl H → va_S (gA Z) s.heap H locs → ∀ ls : Array Slot, lv_has ls 8 [(0, .ref (B k u)), (1, .ref (B k1 s1)), (2, .ref (B k2 s2)), (3, .int (zI (a.length : Int))), (4, .int (zI (b.length : Int))), (5, .int (zI i)), (6, .int (zI j))] → W p l e rX4_fillRests s m args below meth c H locs 0 0 Q (F0 m 23 ls []) := by
          intro n
          induction n with
          | zero =>
            intro j R Cl H locs hm hj hTl hRl hfl hW hS ls hl
            exact absurd hm (by omega)
          | succ n ih23 =>
            intro j R Cl H locs hm hj hTl hRl hfl hW hS ls hl
            have h0l := (hfl _ _ (by omega)).trans h0
            have ht1l := tx.kept ht1 (hfl k1 s1 (by omega)) (hfl (k1 + 1) s1 (by omega))
            have ht2l := tx.kept ht2 (hfl k2 s2 (by omega)) (hfl (k2 + 1) s2 (by omega))
            refine lv_iload hx hb dX4_fillRests_23 (lv_at hl 6 rfl) ?_
            refine z_if_lt (tgt := 155) hx hb dX4_fillRests_25 (by decide) (⟨by omega, by omega⟩) (fun h_25 => ?_) (fun h_25 => ?_)
            · refine z_iinc (lv' := [(5, .int (zI (i + (-1)))), (0, .ref (B k u)), (1, .ref (B k1 s1)), (2, .ref (B k2 s2)), (3, .int (zI (a.length : Int))), (4, .int (zI (b.length : Int))), (6, .int (zI j))]) hx hb dX4_fillRests_155 hl (q := 5) rfl (by decide) rfl (fun ls hl => ?_)
              refine lv_goto (tgt := 14) hx hb dX4_fillRests_158 (by decide) ?_
              exact ih14 (i + -1) R _ _ _ (by omega) (by omega) (tb_row ((show j = -1 by omega) ▸ hTl)) hRl hfl hW hS _ (lv_sub hl [1, 2, 3, 4, 5, 0] rfl)
            · refine lv_iload hx hb dX4_fillRests_28 (lv_at hl 5 rfl) ?_
              refine lv_iload_n hx hb dX4_fillRests_30 rfl (lv_at hl 3 rfl) ?_
              refine z_icmp_eq (tgt := 41) hx hb dX4_fillRests_31 (by decide) (⟨by omega, by omega⟩) (⟨by omega, by omega⟩) (fun h_31 => ?_) (fun h_31 => ?_)
              · refine lv_iload_n hx hb dX4_fillRests_41 rfl (lv_at hl 3 rfl) ?_
                refine lv_iload hx hb dX4_fillRests_42 (lv_at hl 5 rfl) ?_
                refine z_isub hx hb dX4_fillRests_44 ?_
                refine lv_iload hx hb dX4_fillRests_45 (lv_at hl 4 rfl) ?_
                refine z_iadd hx hb dX4_fillRests_47 ?_
                refine lv_iload hx hb dX4_fillRests_48 (lv_at hl 6 rfl) ?_
                refine z_isub hx hb dX4_fillRests_50 ?_
                refine lv_istore (lv' := [(7, .int (zI ((((a.length : Int) - i) + (b.length : Int)) - j))), (0, .ref (B k u)), (1, .ref (B k1 s1)), (2, .ref (B k2 s2)), (3, .int (zI (a.length : Int))), (4, .int (zI (b.length : Int))), (5, .int (zI i)), (6, .int (zI j))]) hx hb dX4_fillRests_51 hl (by decide) rfl (fun ls hl => ?_)
                refine lv_goto (tgt := 133) hx hb dX4_fillRests_53 (by decide) ?_
                refine lv_aload_n hx hb dX4_fillRests_133 rfl (lv_at hl 1 rfl) ?_
                refine g_get (ci := 4) X in_X4_fillRests_4 rfl hW h0l 0 (by decide) (hts _ (List.mem_of_getElem? (i := 1) rfl)) rfl dX4_fillRests_134 ?_
                refine lv_iload hx hb dX4_fillRests_137 (lv_at hl 6 rfl) ?_
                refine lv_iload hx hb dX4_fillRests_139 (lv_at hl 7 rfl) ?_
                refine g_ci (g_runSN X (k_X7_place (a := i) (b := j)) ⟨va_cnB 2 hts gX4_fillRests_X7_place_n45 rfl rfl rfl (nmw_14 X.2.2.1) (hts _ (List.mem_of_getElem? (i := 18) rfl)) ds_X7_place ⟨Nat.le_of_ble_eq_true rfl, Nat.le_of_ble_eq_true rfl⟩, hts _ (List.mem_of_getElem? (i := 17) rfl), trivial⟩ hW hS rfl hl.1 rfl (Nat.le_of_ble_eq_true rfl) dX4_fillRests_141 ⟨Nat.le_of_ble_eq_true rfl, Nat.le_of_ble_eq_true rfl⟩) hS (fun r9 C7 H locs hp8 hW hS => ?_)
                obtain ⟨rfl, ehp8⟩ := hp8
                rw [ehp8] at hW
                refine lv_iload hx hb dX4_fillRests_144 (lv_at hl 0 rfl) ?_
                refine g_cv (g_runSN X (k_X7_put (a := (i * 13 + j)) (v := ((((a.length : Int) - i) + (b.length : Int)) - j)) hRl (by decide) (⟨by omega, by omega⟩)) ⟨va_cnB 3 hts gX4_fillRests_X7_put_n54 rfl rfl rfl (nmw_15 X.2.2.1) (hts _ (List.mem_of_getElem? (i := 18) rfl)) ds_X7_put ⟨Nat.le_of_ble_eq_true rfl, Nat.le_of_ble_eq_true rfl⟩, hts _ (List.mem_of_getElem? (i := 22) rfl), trivial⟩ hW hS rfl hl.1 rfl (Nat.le_of_ble_eq_true rfl) dX4_fillRests_146 ⟨Nat.le_of_ble_eq_true rfl, Nat.le_of_ble_eq_true rfl⟩) hS (fun C10 H locs hp11 hW hS => ?_)
                obtain ⟨hs12, hn13⟩ := hp11
                rw [if_pos (show 0 ≤ (i * 13 + j) ∧ (i * 13 + j) < ((169 : Nat) : Int) from ⟨by omega, by omega⟩)] at hs12
                refine z_iinc (lv' := [(6, .int (zI (j + (-1)))), (7, .int (zI ((((a.length : Int) - i) + (b.length : Int)) - j))), (0, .ref (B k u)), (1, .ref (B k1 s1)), (2, .ref (B k2 s2)), (3, .int (zI (a.length : Int))), (4, .int (zI (b.length : Int))), (5, .int (zI i))]) hx hb dX4_fillRests_149 hl (q := 7) rfl (by decide) rfl (fun ls hl => ?_)
                refine lv_goto (tgt := 23) hx hb dX4_fillRests_152 (by decide) ?_
                exact ih23 (j + -1) (ju R (i * 13 + j).toNat ((((a.length : Int) - i) + (b.length : Int)) - j)) _ _ _ (by omega) (by omega) (tb_step h_16 h_25 hj.2 hb12 hTl (tb_end h_16 h_25 hi.2 (by omega) (by omega))) hs12 (fun k' i' h => (hn13 k' i' h).trans (hfl k' i' h)) hW hS _ (lv_sub hl [2, 3, 4, 5, 6, 7, 0] rfl)
              · refine lv_iload hx hb dX4_fillRests_34 (lv_at hl 6 rfl) ?_
                refine lv_iload hx hb dX4_fillRests_36 (lv_at hl 4 rfl) ?_
                refine z_icmp_ne (tgt := 56) hx hb dX4_fillRests_38 (by decide) (⟨by omega, by omega⟩) (⟨by omega, by omega⟩) (fun h_38 => ?_) (fun h_38 => ?_)
                · refine lv_aload_n hx hb dX4_fillRests_56 rfl (lv_at hl 1 rfl) ?_
                  refine lv_iload hx hb dX4_fillRests_57 (lv_at hl 5 rfl) ?_
                  refine g_ci (g_runV X (k_X5_at (t := a) ht1l (a := i) (⟨by omega, by omega⟩)) (cwV 1 hts gX4_fillRests_X5_at rfl rfl rfl ⟨rfl, ds_X5_at⟩ ⟨Nat.le_of_ble_eq_true rfl, Nat.le_of_ble_eq_true rfl⟩) hW hS ht1l.2.2.1 rfl rfl hl.1 rfl (Nat.le_of_ble_eq_true rfl) dX4_fillRests_59 ⟨Nat.le_of_ble_eq_true rfl, Nat.le_of_ble_eq_true rfl⟩) hS (fun r16 C14 H locs hp15 hW hS => ?_)
                  obtain ⟨rfl, ehp15⟩ := hp15
                  rw [ehp15] at hW
                  refine lv_aload_n hx hb dX4_fillRests_62 rfl (lv_at hl 2 rfl) ?_
                  refine lv_iload hx hb dX4_fillRests_63 (lv_at hl 6 rfl) ?_
                  refine g_ci (g_runV X (k_X5_at (t := b) ht2l (a := j) (⟨by omega, by omega⟩)) (cwV 1 hts gX4_fillRests_X5_at rfl rfl rfl ⟨rfl, ds_X5_at⟩ ⟨Nat.le_of_ble_eq_true rfl, Nat.le_of_ble_eq_true rfl⟩) hW hS ht2l.2.2.1 rfl rfl hl.1 rfl (Nat.le_of_ble_eq_true rfl) dX4_fillRests_65 ⟨Nat.le_of_ble_eq_true rfl, Nat.le_of_ble_eq_true rfl⟩) hS (fun r19 C17 H locs hp18 hW hS => ?_)
                  obtain ⟨rfl, ehp18⟩ := hp18
                  rw [ehp18] at hW
                  refine z_icmp_ne (tgt := 94) hx hb dX4_fillRests_68 (by decide) (⟨by have := ta_rng ht1.2.1 i; omega, by have := ta_rng ht1.2.1 i; omega⟩) (⟨by have := ta_rng ht2.2.1 j; omega, by have := ta_rng ht2.2.1 j; omega⟩) (fun h_68 => ?_) (fun h_68 => ?_)
                  · refine lv_iconst (v := zI (1)) hx hb dX4_fillRests_94 rfl ?_
                    refine lv_aload_n hx hb dX4_fillRests_95 rfl (lv_at hl 0 rfl) ?_
                    refine g_get (ci := 4) X in_X4_fillRests_4 rfl hW h0l 0 (by decide) (hts _ (List.mem_of_getElem? (i := 1) rfl)) rfl dX4_fillRests_96 ?_
                    refine lv_iload hx hb dX4_fillRests_99 (lv_at hl 5 rfl) ?_
                    refine lv_iconst (v := zI (1)) hx hb dX4_fillRests_101 rfl ?_
                    refine z_iadd hx hb dX4_fillRests_102 ?_
                    refine lv_iload hx hb dX4_fillRests_103 (lv_at hl 6 rfl) ?_
                    refine g_ci (g_runSN X (k_X7_place (a := (i + 1)) (b := j)) ⟨va_cnB 2 hts gX4_fillRests_X7_place_n45 rfl rfl rfl (nmw_14 X.2.2.1) (hts _ (List.mem_of_getElem? (i := 18) rfl)) ds_X7_place ⟨Nat.le_of_ble_eq_true rfl, Nat.le_of_ble_eq_true rfl⟩, hts _ (List.mem_of_getElem? (i := 17) rfl), trivial⟩ hW hS rfl hl.1 rfl (Nat.le_of_ble_eq_true rfl) dX4_fillRests_105 ⟨Nat.le_of_ble_eq_true rfl, Nat.le_of_ble_eq_true rfl⟩) hS (fun r22 C20 H locs hp21 hW hS => ?_)
                    obtain ⟨rfl, ehp21⟩ := hp21
                    rw [ehp21] at hW
                    refine g_ci (g_runSN X (k_X7_cell (a := ((i + 1) * 13 + j)) hRl (by decide) (⟨by omega, by omega⟩)) ⟨va_cnB 2 hts gX4_fillRests_X7_cell_n32 rfl rfl rfl (nmw_13 X.2.2.1) (hts _ (List.mem_of_getElem? (i := 18) rfl)) ds_X7_cell ⟨Nat.le_of_ble_eq_true rfl, Nat.le_of_ble_eq_true rfl⟩, hts _ (List.mem_of_getElem? (i := 20) rfl), trivial⟩ hW hS rfl hl.1 rfl (Nat.le_of_ble_eq_true rfl) dX4_fillRests_108 ⟨Nat.le_of_ble_eq_true rfl, Nat.le_of_ble_eq_true rfl⟩) hS (fun r25 C23 H locs hp24 hW hS => ?_)
                    rw [if_pos (show 0 ≤ ((i + 1) * 13 + j) ∧ ((i + 1) * 13 + j) < ((169 : Nat) : Int) from ⟨by omega, by omega⟩)] at hp24
                    obtain ⟨rfl, ehp24⟩ := hp24
                    rw [ehp24] at hW
                    refine lv_aload_n hx hb dX4_fillRests_111 rfl (lv_at hl 0 rfl) ?_
                    refine g_get (ci := 4) X in_X4_fillRests_4 rfl hW h0l 0 (by decide) (hts _ (List.mem_of_getElem? (i := 1) rfl)) rfl dX4_fillRests_112 ?_
                    refine lv_iload hx hb dX4_fillRests_115 (lv_at hl 5 rfl) ?_
                    refine lv_iload hx hb dX4_fillRests_117 (lv_at hl 6 rfl) ?_
                    refine lv_iconst (v := zI (1)) hx hb dX4_fillRests_119 rfl ?_
                    refine z_iadd hx hb dX4_fillRests_120 ?_
                    refine g_ci (g_runSN X (k_X7_place (a := i) (b := (j + 1))) ⟨va_cnB 2 hts gX4_fillRests_X7_place_n45 rfl rfl rfl (nmw_14 X.2.2.1) (hts _ (List.mem_of_getElem? (i := 18) rfl)) ds_X7_place ⟨Nat.le_of_ble_eq_true rfl, Nat.le_of_ble_eq_true rfl⟩, hts _ (List.mem_of_getElem? (i := 17) rfl), trivial⟩ hW hS rfl hl.1 rfl (Nat.le_of_ble_eq_true rfl) dX4_fillRests_121 ⟨Nat.le_of_ble_eq_true rfl, Nat.le_of_ble_eq_true rfl⟩) hS (fun r28 C26 H locs hp27 hW hS => ?_)
                    obtain ⟨rfl, ehp27⟩ := hp27
                    rw [ehp27] at hW
                    refine g_ci (g_runSN X (k_X7_cell (a := (i * 13 + (j + 1))) hRl (by decide) (⟨by omega, by omega⟩)) ⟨va_cnB 2 hts gX4_fillRests_X7_cell_n32 rfl rfl rfl (nmw_13 X.2.2.1) (hts _ (List.mem_of_getElem? (i := 18) rfl)) ds_X7_cell ⟨Nat.le_of_ble_eq_true rfl, Nat.le_of_ble_eq_true rfl⟩, hts _ (List.mem_of_getElem? (i := 20) rfl), trivial⟩ hW hS rfl hl.1 rfl (Nat.le_of_ble_eq_true rfl) dX4_fillRests_124 ⟨Nat.le_of_ble_eq_true rfl, Nat.le_of_ble_eq_true rfl⟩) hS (fun r31 C29 H locs hp30 hW hS => ?_)
                    rw [if_pos (show 0 ≤ (i * 13 + (j + 1)) ∧ (i * 13 + (j + 1)) < ((169 : Nat) : Int) from ⟨by omega, by omega⟩)] at hp30
                    obtain ⟨rfl, ehp30⟩ := hp30
                    rw [ehp30] at hW
                    refine va_mmin hx hb (X.1.2.2.1.trans hl.1.symm) X.1.2.2.2.1 (hts _ (List.mem_of_getElem? (i := 2) rfl)) (hts _ (List.mem_of_getElem? (i := 3) rfl)) (hts _ (List.mem_of_getElem? (i := 4) rfl)) (hts _ (List.mem_of_getElem? (i := 5) rfl)) (Nat.le_of_ble_eq_true rfl) (Nat.le_of_ble_eq_true rfl) (Nat.le_of_ble_eq_true rfl) (Nat.le_of_ble_eq_true rfl) dX4_fillRests_127 ?_
                    rw [z_min (by have := tb_rng hTl ha12 hb12 (x := i + 1) (y := j) (by omega) (by omega) (by omega) (by omega) (by omega); exact ⟨by omega, by omega⟩) (by have := tb_rng hTl ha12 hb12 (x := i) (y := j + 1) (by omega) (by omega) (by omega) (by omega) (by omega); exact ⟨by omega, by omega⟩)]
                    refine z_iadd hx hb dX4_fillRests_130 ?_
                    refine lv_istore (lv' := [(7, .int (zI (1 + (min (R ((i + 1) * 13 + j).toNat) (R (i * 13 + (j + 1)).toNat))))), (0, .ref (B k u)), (1, .ref (B k1 s1)), (2, .ref (B k2 s2)), (3, .int (zI (a.length : Int))), (4, .int (zI (b.length : Int))), (5, .int (zI i)), (6, .int (zI j))]) hx hb dX4_fillRests_131 hl (by decide) rfl (fun ls hl => ?_)
                    refine lv_aload_n hx hb dX4_fillRests_133 rfl (lv_at hl 1 rfl) ?_
                    refine g_get (ci := 4) X in_X4_fillRests_4 rfl hW h0l 0 (by decide) (hts _ (List.mem_of_getElem? (i := 1) rfl)) rfl dX4_fillRests_134 ?_
                    refine lv_iload hx hb dX4_fillRests_137 (lv_at hl 6 rfl) ?_
                    refine lv_iload hx hb dX4_fillRests_139 (lv_at hl 7 rfl) ?_
                    refine g_ci (g_runSN X (k_X7_place (a := i) (b := j)) ⟨va_cnB 2 hts gX4_fillRests_X7_place_n45 rfl rfl rfl (nmw_14 X.2.2.1) (hts _ (List.mem_of_getElem? (i := 18) rfl)) ds_X7_place ⟨Nat.le_of_ble_eq_true rfl, Nat.le_of_ble_eq_true rfl⟩, hts _ (List.mem_of_getElem? (i := 17) rfl), trivial⟩ hW hS rfl hl.1 rfl (Nat.le_of_ble_eq_true rfl) dX4_fillRests_141 ⟨Nat.le_of_ble_eq_true rfl, Nat.le_of_ble_eq_true rfl⟩) hS (fun r34 C32 H locs hp33 hW hS => ?_)
                    obtain ⟨rfl, ehp33⟩ := hp33
                    rw [ehp33] at hW
                    refine lv_iload hx hb dX4_fillRests_144 (lv_at hl 0 rfl) ?_
                    refine g_cv (g_runSN X (k_X7_put (a := (i * 13 + j)) (v := (1 + (min (R ((i + 1) * 13 + j).toNat) (R (i * 13 + (j + 1)).toNat)))) hRl (by decide) (⟨by omega, by omega⟩)) ⟨va_cnB 3 hts gX4_fillRests_X7_put_n54 rfl rfl rfl (nmw_15 X.2.2.1) (hts _ (List.mem_of_getElem? (i := 18) rfl)) ds_X7_put ⟨Nat.le_of_ble_eq_true rfl, Nat.le_of_ble_eq_true rfl⟩, hts _ (List.mem_of_getElem? (i := 22) rfl), trivial⟩ hW hS rfl hl.1 rfl (Nat.le_of_ble_eq_true rfl) dX4_fillRests_146 ⟨Nat.le_of_ble_eq_true rfl, Nat.le_of_ble_eq_true rfl⟩) hS (fun C35 H locs hp36 hW hS => ?_)
                    obtain ⟨hs37, hn38⟩ := hp36
                    rw [if_pos (show 0 ≤ (i * 13 + j) ∧ (i * 13 + j) < ((169 : Nat) : Int) from ⟨by omega, by omega⟩)] at hs37
                    refine z_iinc (lv' := [(6, .int (zI (j + (-1)))), (7, .int (zI (1 + (min (R ((i + 1) * 13 + j).toNat) (R (i * 13 + (j + 1)).toNat))))), (0, .ref (B k u)), (1, .ref (B k1 s1)), (2, .ref (B k2 s2)), (3, .int (zI (a.length : Int))), (4, .int (zI (b.length : Int))), (5, .int (zI i))]) hx hb dX4_fillRests_149 hl (q := 7) rfl (by decide) rfl (fun ls hl => ?_)
                    refine lv_goto (tgt := 23) hx hb dX4_fillRests_152 (by decide) ?_
                    exact ih23 (j + -1) (ju R (i * 13 + j).toNat (1 + (min (R ((i + 1) * 13 + j).toNat) (R (i * 13 + (j + 1)).toNat)))) _ _ _ (by omega) (by omega) (tb_step h_16 h_25 hj.2 hb12 hTl (tb_ne hTl h_16 h_25 (by omega) (by omega) h_68)) hs37 (fun k' i' h => (hn38 k' i' h).trans (hfl k' i' h)) hW hS _ (lv_sub hl [2, 3, 4, 5, 6, 7, 0] rfl)
                  · refine lv_aload_n hx hb dX4_fillRests_71 rfl (lv_at hl 0 rfl) ?_
                    refine g_get (ci := 4) X in_X4_fillRests_4 rfl hW h0l 0 (by decide) (hts _ (List.mem_of_getElem? (i := 1) rfl)) rfl dX4_fillRests_72 ?_
                    refine lv_iload hx hb dX4_fillRests_75 (lv_at hl 5 rfl) ?_
                    refine lv_iconst (v := zI (1)) hx hb dX4_fillRests_77 rfl ?_
                    refine z_iadd hx hb dX4_fillRests_78 ?_
                    refine lv_iload hx hb dX4_fillRests_79 (lv_at hl 6 rfl) ?_
                    refine lv_iconst (v := zI (1)) hx hb dX4_fillRests_81 rfl ?_
                    refine z_iadd hx hb dX4_fillRests_82 ?_
                    refine g_ci (g_runSN X (k_X7_place (a := (i + 1)) (b := (j + 1))) ⟨va_cnB 2 hts gX4_fillRests_X7_place_n45 rfl rfl rfl (nmw_14 X.2.2.1) (hts _ (List.mem_of_getElem? (i := 18) rfl)) ds_X7_place ⟨Nat.le_of_ble_eq_true rfl, Nat.le_of_ble_eq_true rfl⟩, hts _ (List.mem_of_getElem? (i := 17) rfl), trivial⟩ hW hS rfl hl.1 rfl (Nat.le_of_ble_eq_true rfl) dX4_fillRests_83 ⟨Nat.le_of_ble_eq_true rfl, Nat.le_of_ble_eq_true rfl⟩) hS (fun r41 C39 H locs hp40 hW hS => ?_)
                    obtain ⟨rfl, ehp40⟩ := hp40
                    rw [ehp40] at hW
                    refine g_ci (g_runSN X (k_X7_cell (a := ((i + 1) * 13 + (j + 1))) hRl (by decide) (⟨by omega, by omega⟩)) ⟨va_cnB 2 hts gX4_fillRests_X7_cell_n32 rfl rfl rfl (nmw_13 X.2.2.1) (hts _ (List.mem_of_getElem? (i := 18) rfl)) ds_X7_cell ⟨Nat.le_of_ble_eq_true rfl, Nat.le_of_ble_eq_true rfl⟩, hts _ (List.mem_of_getElem? (i := 20) rfl), trivial⟩ hW hS rfl hl.1 rfl (Nat.le_of_ble_eq_true rfl) dX4_fillRests_86 ⟨Nat.le_of_ble_eq_true rfl, Nat.le_of_ble_eq_true rfl⟩) hS (fun r44 C42 H locs hp43 hW hS => ?_)
                    rw [if_pos (show 0 ≤ ((i + 1) * 13 + (j + 1)) ∧ ((i + 1) * 13 + (j + 1)) < ((169 : Nat) : Int) from ⟨by omega, by omega⟩)] at hp43
                    obtain ⟨rfl, ehp43⟩ := hp43
                    rw [ehp43] at hW
                    refine lv_istore (lv' := [(7, .int (zI (R ((i + 1) * 13 + (j + 1)).toNat))), (0, .ref (B k u)), (1, .ref (B k1 s1)), (2, .ref (B k2 s2)), (3, .int (zI (a.length : Int))), (4, .int (zI (b.length : Int))), (5, .int (zI i)), (6, .int (zI j))]) hx hb dX4_fillRests_89 hl (by decide) rfl (fun ls hl => ?_)
                    refine lv_goto (tgt := 133) hx hb dX4_fillRests_91 (by decide) ?_
                    refine lv_aload_n hx hb dX4_fillRests_133 rfl (lv_at hl 1 rfl) ?_
                    refine g_get (ci := 4) X in_X4_fillRests_4 rfl hW h0l 0 (by decide) (hts _ (List.mem_of_getElem? (i := 1) rfl)) rfl dX4_fillRests_134 ?_
                    refine lv_iload hx hb dX4_fillRests_137 (lv_at hl 6 rfl) ?_
                    refine lv_iload hx hb dX4_fillRests_139 (lv_at hl 7 rfl) ?_
                    refine g_ci (g_runSN X (k_X7_place (a := i) (b := j)) ⟨va_cnB 2 hts gX4_fillRests_X7_place_n45 rfl rfl rfl (nmw_14 X.2.2.1) (hts _ (List.mem_of_getElem? (i := 18) rfl)) ds_X7_place ⟨Nat.le_of_ble_eq_true rfl, Nat.le_of_ble_eq_true rfl⟩, hts _ (List.mem_of_getElem? (i := 17) rfl), trivial⟩ hW hS rfl hl.1 rfl (Nat.le_of_ble_eq_true rfl) dX4_fillRests_141 ⟨Nat.le_of_ble_eq_true rfl, Nat.le_of_ble_eq_true rfl⟩) hS (fun r47 C45 H locs hp46 hW hS => ?_)
                    obtain ⟨rfl, ehp46⟩ := hp46
                    rw [ehp46] at hW
                    refine lv_iload hx hb dX4_fillRests_144 (lv_at hl 0 rfl) ?_
                    refine g_cv (g_runSN X (k_X7_put (a := (i * 13 + j)) (v := (R ((i + 1) * 13 + (j + 1)).toNat)) hRl (by decide) (⟨by omega, by omega⟩)) ⟨va_cnB 3 hts gX4_fillRests_X7_put_n54 rfl rfl rfl (nmw_15 X.2.2.1) (hts _ (List.mem_of_getElem? (i := 18) rfl)) ds_X7_put ⟨Nat.le_of_ble_eq_true rfl, Nat.le_of_ble_eq_true rfl⟩, hts _ (List.mem_of_getElem? (i := 22) rfl), trivial⟩ hW hS rfl hl.1 rfl (Nat.le_of_ble_eq_true rfl) dX4_fillRests_146 ⟨Nat.le_of_ble_eq_true rfl, Nat.le_of_ble_eq_true rfl⟩) hS (fun C48 H locs hp49 hW hS => ?_)
                    obtain ⟨hs50, hn51⟩ := hp49
                    rw [if_pos (show 0 ≤ (i * 13 + j) ∧ (i * 13 + j) < ((169 : Nat) : Int) from ⟨by omega, by omega⟩)] at hs50
                    refine z_iinc (lv' := [(6, .int (zI (j + (-1)))), (7, .int (zI (R ((i + 1) * 13 + (j + 1)).toNat))), (0, .ref (B k u)), (1, .ref (B k1 s1)), (2, .ref (B k2 s2)), (3, .int (zI (a.length : Int))), (4, .int (zI (b.length : Int))), (5, .int (zI i))]) hx hb dX4_fillRests_149 hl (q := 7) rfl (by decide) rfl (fun ls hl => ?_)
                    refine lv_goto (tgt := 23) hx hb dX4_fillRests_152 (by decide) ?_
                    exact ih23 (j + -1) (ju R (i * 13 + j).toNat (R ((i + 1) * 13 + (j + 1)).toNat)) _ _ _ (by omega) (by omega) (tb_step h_16 h_25 hj.2 hb12 hTl (tb_eq hTl h_16 h_25 (by omega) (by omega) h_68)) hs50 (fun k' i' h => (hn51 k' i' h).trans (hfl k' i' h)) hW hS _ (lv_sub hl [2, 3, 4, 5, 6, 7, 0] rfl)
                · refine lv_iload_n hx hb dX4_fillRests_41 rfl (lv_at hl 3 rfl) ?_
                  refine lv_iload hx hb dX4_fillRests_42 (lv_at hl 5 rfl) ?_
                  refine z_isub hx hb dX4_fillRests_44 ?_
                  refine lv_iload hx hb dX4_fillRests_45 (lv_at hl 4 rfl) ?_
                  refine z_iadd hx hb dX4_fillRests_47 ?_
                  refine lv_iload hx hb dX4_fillRests_48 (lv_at hl 6 rfl) ?_
                  refine z_isub hx hb dX4_fillRests_50 ?_
                  refine lv_istore (lv' := [(7, .int (zI ((((a.length : Int) - i) + (b.length : Int)) - j))), (0, .ref (B k u)), (1, .ref (B k1 s1)), (2, .ref (B k2 s2)), (3, .int (zI (a.length : Int))), (4, .int (zI (b.length : Int))), (5, .int (zI i)), (6, .int (zI j))]) hx hb dX4_fillRests_51 hl (by decide) rfl (fun ls hl => ?_)
                  refine lv_goto (tgt := 133) hx hb dX4_fillRests_53 (by decide) ?_
                  refine lv_aload_n hx hb dX4_fillRests_133 rfl (lv_at hl 1 rfl) ?_
                  refine g_get (ci := 4) X in_X4_fillRests_4 rfl hW h0l 0 (by decide) (hts _ (List.mem_of_getElem? (i := 1) rfl)) rfl dX4_fillRests_134 ?_
                  refine lv_iload hx hb dX4_fillRests_137 (lv_at hl 6 rfl) ?_
                  refine lv_iload hx hb dX4_fillRests_139 (lv_at hl 7 rfl) ?_
                  refine g_ci (g_runSN X (k_X7_place (a := i) (b := j)) ⟨va_cnB 2 hts gX4_fillRests_X7_place_n45 rfl rfl rfl (nmw_14 X.2.2.1) (hts _ (List.mem_of_getElem? (i := 18) rfl)) ds_X7_place ⟨Nat.le_of_ble_eq_true rfl, Nat.le_of_ble_eq_true rfl⟩, hts _ (List.mem_of_getElem? (i := 17) rfl), trivial⟩ hW hS rfl hl.1 rfl (Nat.le_of_ble_eq_true rfl) dX4_fillRests_141 ⟨Nat.le_of_ble_eq_true rfl, Nat.le_of_ble_eq_true rfl⟩) hS (fun r54 C52 H locs hp53 hW hS => ?_)
                  obtain ⟨rfl, ehp53⟩ := hp53
                  rw [ehp53] at hW
                  refine lv_iload hx hb dX4_fillRests_144 (lv_at hl 0 rfl) ?_
                  refine g_cv (g_runSN X (k_X7_put (a := (i * 13 + j)) (v := ((((a.length : Int) - i) + (b.length : Int)) - j)) hRl (by decide) (⟨by omega, by omega⟩)) ⟨va_cnB 3 hts gX4_fillRests_X7_put_n54 rfl rfl rfl (nmw_15 X.2.2.1) (hts _ (List.mem_of_getElem? (i := 18) rfl)) ds_X7_put ⟨Nat.le_of_ble_eq_true rfl, Nat.le_of_ble_eq_true rfl⟩, hts _ (List.mem_of_getElem? (i := 22) rfl), trivial⟩ hW hS rfl hl.1 rfl (Nat.le_of_ble_eq_true rfl) dX4_fillRests_146 ⟨Nat.le_of_ble_eq_true rfl, Nat.le_of_ble_eq_true rfl⟩) hS (fun C55 H locs hp56 hW hS => ?_)
                  obtain ⟨hs57, hn58⟩ := hp56
                  rw [if_pos (show 0 ≤ (i * 13 + j) ∧ (i * 13 + j) < ((169 : Nat) : Int) from ⟨by omega, by omega⟩)] at hs57
                  refine z_iinc (lv' := [(6, .int (zI (j + (-1)))), (7, .int (zI ((((a.length : Int) - i) + (b.length : Int)) - j))), (0, .ref (B k u)), (1, .ref (B k1 s1)), (2, .ref (B k2 s2)), (3, .int (zI (a.length : Int))), (4, .int (zI (b.length : Int))), (5, .int (zI i))]) hx hb dX4_fillRests_149 hl (q := 7) rfl (by decide) rfl (fun ls hl => ?_)
                  refine lv_goto (tgt := 23) hx hb dX4_fillRests_152 (by decide) ?_
                  exact ih23 (j + -1) (ju R (i * 13 + j).toNat ((((a.length : Int) - i) + (b.length : Int)) - j)) _ _ _ (by omega) (by omega) (tb_step h_16 h_25 hj.2 hb12 hTl (tb_end h_16 h_25 hi.2 (by omega) (by omega))) hs57 (fun k' i' h => (hn58 k' i' h).trans (hfl k' i' h)) hW hS _ (lv_sub hl [2, 3, 4, 5, 6, 7, 0] rfl)
        exact lp23 (b.length + 2) (b.length : Int) R _ _ _ (by omega) (by omega) hTl hRl hfl hW hS _ (lv_sub hl [1, 2, 3, 4, 5, 6, 0] rfl)
  exact lp14 (a.length + 2) (a.length : Int) R0 _ _ _ (by omega) (by omega) tb_init h1 (fun _ _ _ => rfl) hW hS _ (lv_sub hl [3, 4, 5, 2, 1, 0] rfl)
