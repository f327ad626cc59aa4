/-! SCRIPTS: an object of kind k (with its three rows at k + 1, k + 2, k + 3) -/
def so (Z : gZ) (B : gB) (C : gC) (k u : Nat) : Prop :=
  ∃ (n : Int) (R K A : Nat → Int), C k u = some (.inr (4, [.ref (B (k + 1) u), .ref (B (k + 2) u), .ref (B (k + 3) u), .int (zI n)])) ∧ C (k + 1) u = some (gJ Z 169 R) ∧ C (k + 2) u = some (gJ Z 12 K) ∧ C (k + 3) u = some (gJ Z 24 A)
/-- it holds the script from a to b -/
def sc (Z : gZ) (B : gB) (C : gC) (k u : Nat) (a b : List Int) : Prop :=
  ∃ (R K A : Nat → Int), C k u = some (.inr (4, [.ref (B (k + 1) u), .ref (B (k + 2) u), .ref (B (k + 3) u), .int (zI (ed a b : Int))])) ∧ C (k + 1) u = some (gJ Z 169 R) ∧ C (k + 2) u = some (gJ Z 12 K) ∧ C (k + 3) u = some (gJ Z 24 A) ∧
    (∀ q, q < a.length → K q = enc (kt a b q)) ∧ ∀ q, q < ed a b → A q = (al a b).getD q (-1)
theorem sc.so {Z : gZ} {B : gB} {C : gC} {k u : Nat} {a b : List Int} (h : sc Z B C k u a b) : so Z B C k u := by
  obtain ⟨R, K, A, h1, h2, h3, h4, -⟩ := h
  exact ⟨_, R, K, A, h1, h2, h3, h4⟩
def fr4 (k u : Nat) (C C' : gC) : Prop := ∀ k' i', ¬ (k ≤ k' ∧ k' ≤ k + 3 ∧ i' = u) → C' k' i' = C k' i'
theorem so.kept {Z : gZ} {B : gB} {C C' : gC} {k u : Nat} (h : so Z B C k u) (h0 : C' k u = C k u) (h1 : C' (k + 1) u = C (k + 1) u) (h2 : C' (k + 2) u = C (k + 2) u) (h3 : C' (k + 3) u = C (k + 3) u) : so Z B C' k u := by
  obtain ⟨n, R, K, A, a1, a2, a3, a4⟩ := h
  exact ⟨n, R, K, A, h0.trans a1, h1.trans a2, h2.trans a3, h3.trans a4⟩
theorem sc.kept {Z : gZ} {B : gB} {C C' : gC} {k u : Nat} {a b : List Int} (h : sc Z B C k u a b) (h0 : C' k u = C k u) (h1 : C' (k + 1) u = C (k + 1) u) (h2 : C' (k + 2) u = C (k + 2) u) (h3 : C' (k + 3) u = C (k + 3) u) : sc Z B C' k u a b := by
  obtain ⟨R, K, A, a1, a2, a3, a4, a5⟩ := h
  exact ⟨R, K, A, h0.trans a1, h1.trans a2, h2.trans a3, h3.trans a4, a5⟩
theorem getD_app_l {l : List Int} {u : Int} {q : Nat} (h : q < l.length) : (l ++ [u]).getD q (-1) = l.getD q (-1) := by rw [getD_app1, if_neg (by omega)]
theorem getD_app_e {l : List Int} {u : Int} : (l ++ [u]).getD l.length (-1) = u := by rw [getD_app1, if_pos rfl]
theorem ju_alt {A : Nat → Int} {pre : List Int} {n : Nat} {u : Int} (hn : pre.length = n) (h : ∀ q, q < n → A q = pre.getD q (-1)) : ∀ q, q < n + 1 → ju A ((n : Int)).toNat u q = (pre ++ [u]).getD q (-1) := by
  intro q hq
  subst hn
  rw [getD_app1]
  by_cases he : q = pre.length
  · subst he; rw [if_pos rfl]; simp [ju]
  · rw [if_neg he, ju_n (by simpa using he)]; exact h q (by omega)

theorem ds_X4_size : yX4_size.cls ≠ "java/lang/invoke/MethodHandle" ∧ yX4_size.cls ≠ "java/lang/invoke/VarHandle" ∧ (parseMethodDescriptor yX4_size.desc).map (fun d => d.parameters.length) = some 0 := by decide +kernel
theorem in_X4_size_4 : ∀ w ∈ wsX40, w ∈ wsX4_size := by decide +kernel
def rX4_size : Room := { frames := 0, cells := 0, slots := 0, locals := 0 }
set_option maxHeartbeats 4000000 in
set_option maxRecDepth 100000 in
theorem k_X4_size {l : Launch} {Z : gZ} {B : gB} {C0 : gC} {k u : Nat} {a b : List Int} (h : sc Z B C0 k u a b) : Met l yX4_size wsX4_size rX4_size (gPc Z B C0 [.ref (B k u)]) (gQi Z B (fun r C1 => r = zI (ed a b : Int) ∧ C1 = C0)) 0 0 (gA Z) := by
  refine g_ofI (cc := cX4_size) (maxL := 1) (by decide) rfl (Nat.le_of_ble_eq_true rfl) ?_
  intro p e s m args below meth c Q X kret hW hS ls hl
  have hx := X.1.1
  have hb := X.1.2.1
  have hts := X.1.2.2.2.2
  have hl : lv_has ls 1 [(0, .ref (B k u))] := hl
  obtain ⟨R0, K0, A0, h0, h1, h2, h3, h4, h5⟩ := id h
  refine lv_aload_n hx hb dX4_size_0 rfl (lv_at hl 0 rfl) ?_
  refine g_get (ci := 4) X in_X4_size_4 rfl hW h0 3 (by decide) (hts _ (List.mem_of_getElem? (i := 1) rfl)) rfl dX4_size_1 ?_
  exact kret _ _ _ _ _ _ _ _ (⟨rfl, rfl⟩) hW hS (Nat.le_of_ble_eq_true rfl) (Nat.le_of_ble_eq_true rfl) dX4_size_4

theorem ds_X4_keptAs : yX4_keptAs.cls ≠ "java/lang/invoke/MethodHandle" ∧ yX4_keptAs.cls ≠ "java/lang/invoke/VarHandle" ∧ (parseMethodDescriptor yX4_keptAs.desc).map (fun d => d.parameters.length) = some 1 := by decide +kernel
theorem in_X4_keptAs_4 : ∀ w ∈ wsX40, w ∈ wsX4_keptAs := by decide +kernel
def rX4_keptAs : Room := { frames := 1, cells := 0, slots := 0, locals := 21 }
set_option maxHeartbeats 4000000 in
set_option maxRecDepth 100000 in
theorem k_X4_keptAs {l : Launch} {Z : gZ} {B : gB} {C0 : gC} {k u : Nat} {a b : List Int} {x : Int} (h : sc Z B C0 k u a b) (hx0 : 0 ≤ x ∧ x < a.length) (hal : a.length ≤ 12) : Met l yX4_keptAs wsX4_keptAs rX4_keptAs (gPc Z B C0 [.ref (B k u), .int (zI x)]) (gQi Z B (fun r C1 => r = zI (enc (kt a b x.toNat)) ∧ C1 = C0)) 0 0 (gA Z) := by
  refine g_ofI (cc := cX4_keptAs) (maxL := 2) (by decide) rfl (Nat.le_of_ble_eq_true rfl) ?_
  intro p e s m args below meth c Q X kret hW hS ls hl
  have hx := X.1.1
  have hb := X.1.2.1
  have hts := X.1.2.2.2.2
  have hl : lv_has ls 2 [(0, .ref (B k u)), (1, .int (zI x))] := hl
  obtain ⟨R0, K0, A0, h0, h1, h2, h3, h4, h5⟩ := id h
  refine lv_aload_n hx hb dX4_keptAs_0 rfl (lv_at hl 0 rfl) ?_
  refine g_get (ci := 4) X in_X4_keptAs_4 rfl hW h0 1 (by decide) (hts _ (List.mem_of_getElem? (i := 1) rfl)) rfl dX4_keptAs_1 ?_
  refine lv_iload_n hx hb dX4_keptAs_4 rfl (lv_at hl 1 rfl) ?_
  refine g_ci (g_runSN X (k_X7_cell (a := x) h2 (by decide) (⟨by omega, by omega⟩)) ⟨va_cnB 2 hts gX4_keptAs_X7_cell_n32 rfl rfl rfl (nmw_13 X.2.2.1) (hts _ (List.mem_of_getElem? (i := 3) rfl)) ds_X7_cell ⟨Nat.le_of_ble_eq_true rfl, Nat.le_of_ble_eq_true rfl⟩, hts _ (List.mem_of_getElem? (i := 2) rfl), trivial⟩ hW hS rfl hl.1 rfl (Nat.le_of_ble_eq_true rfl) dX4_keptAs_5 ⟨Nat.le_of_ble_eq_true rfl, Nat.le_of_ble_eq_true rfl⟩) hS (fun r3 C1 H locs hp2 hW hS => ?_)
  rw [if_pos (show (0 : Int) ≤ x ∧ x < ((12 : Nat) : Int) from ⟨by omega, by omega⟩)] at hp2
  obtain ⟨rfl, ehp2⟩ := hp2
  rw [ehp2] at hW
  exact kret _ _ _ _ _ _ _ _ (⟨congrArg zI (h4 _ (by omega)), rfl⟩) hW hS (Nat.le_of_ble_eq_true rfl) (Nat.le_of_ble_eq_true rfl) dX4_keptAs_8

theorem ds_X4_alteredContent : yX4_alteredContent.cls ≠ "java/lang/invoke/MethodHandle" ∧ yX4_alteredContent.cls ≠ "java/lang/invoke/VarHandle" ∧ (parseMethodDescriptor yX4_alteredContent.desc).map (fun d => d.parameters.length) = some 1 := by decide +kernel
theorem in_X4_alteredContent_4 : ∀ w ∈ wsX40, w ∈ wsX4_alteredContent := by decide +kernel
def rX4_alteredContent : Room := { frames := 1, cells := 0, slots := 0, locals := 21 }
set_option maxHeartbeats 4000000 in
set_option maxRecDepth 100000 in
theorem k_X4_alteredContent {l : Launch} {Z : gZ} {B : gB} {C0 : gC} {k u : Nat} {a b : List Int} {x : Int} (h : sc Z B C0 k u a b) (hx0 : 0 ≤ x ∧ x < ed a b) (hal : ed a b ≤ 24) : Met l yX4_alteredContent wsX4_alteredContent rX4_alteredContent (gPc Z B C0 [.ref (B k u), .int (zI x)]) (gQi Z B (fun r C1 => r = zI ((al a b).getD x.toNat (-1)) ∧ C1 = C0)) 0 0 (gA Z) := by
  refine g_ofI (cc := cX4_alteredContent) (maxL := 2) (by decide) rfl (Nat.le_of_ble_eq_true rfl) ?_
  intro p e s m args below meth c Q X kret hW hS ls hl
  have hx := X.1.1
  have hb := X.1.2.1
  have hts := X.1.2.2.2.2
  have hl : lv_has ls 2 [(0, .ref (B k u)), (1, .int (zI x))] := hl
  obtain ⟨R0, K0, A0, h0, h1, h2, h3, h4, h5⟩ := id h
  refine lv_aload_n hx hb dX4_alteredContent_0 rfl (lv_at hl 0 rfl) ?_
  refine g_get (ci := 4) X in_X4_alteredContent_4 rfl hW h0 2 (by decide) (hts _ (List.mem_of_getElem? (i := 1) rfl)) rfl dX4_alteredContent_1 ?_
  refine lv_iload_n hx hb dX4_alteredContent_4 rfl (lv_at hl 1 rfl) ?_
  refine g_ci (g_runSN X (k_X7_cell (a := x) h3 (by decide) (⟨by omega, by omega⟩)) ⟨va_cnB 2 hts gX4_alteredContent_X7_cell_n32 rfl rfl rfl (nmw_13 X.2.2.1) (hts _ (List.mem_of_getElem? (i := 3) rfl)) ds_X7_cell ⟨Nat.le_of_ble_eq_true rfl, Nat.le_of_ble_eq_true rfl⟩, hts _ (List.mem_of_getElem? (i := 2) rfl), trivial⟩ hW hS rfl hl.1 rfl (Nat.le_of_ble_eq_true rfl) dX4_alteredContent_5 ⟨Nat.le_of_ble_eq_true rfl, Nat.le_of_ble_eq_true rfl⟩) hS (fun r3 C1 H locs hp2 hW hS => ?_)
  rw [if_pos (show (0 : Int) ≤ x ∧ x < ((24 : Nat) : Int) from ⟨by omega, by omega⟩)] at hp2
  obtain ⟨rfl, ehp2⟩ := hp2
  rw [ehp2] at hW
  exact kret _ _ _ _ _ _ _ _ (⟨congrArg zI (h5 _ (by omega)), rfl⟩) hW hS (Nat.le_of_ble_eq_true rfl) (Nat.le_of_ble_eq_true rfl) dX4_alteredContent_8

theorem ds_X4_fillRests : yX4_fillRests.cls ≠ "java/lang/invoke/MethodHandle" ∧ yX4_fillRests.cls ≠ "java/lang/invoke/VarHandle" ∧ (parseMethodDescriptor yX4_fillRests.desc).map (fun d => d.parameters.length) = some 2 := by decide +kernel
theorem in_X4_fillRests_4 : ∀ w ∈ wsX40, w ∈ wsX4_fillRests := by decide +kernel
def rX4_fillRests : Room := { frames := 1, cells := 0, slots := 0, locals := 22 }
set_option maxHeartbeats 4000000 in
set_option maxRecDepth 100000 in
theorem k_X4_fillRests {l : Launch} {Z : gZ} {B : gB} {C0 : gC} {k u k1 s1 k2 s2 : Nat} {a b : List Int} {n0 : Int} {R0 : Nat → Int} (h0 : C0 k u = some (.inr (4, [.ref (B (k + 1) u), .ref (B (k + 2) u), .ref (B (k + 3) u), .int (zI n0)]))) (h1 : C0 (k + 1) u = some (gJ Z 169 R0)) (ht1 : tx Z B C0 k1 s1 a) (ht2 : tx Z B C0 k2 s2 b) (ha12 : a.length ≤ 12) (hb12 : b.length ≤ 12) (hd1 : ¬ s1 = u ∨ k1 + 1 < k ∨ k + 3 < k1) (hd2 : ¬ s2 = u ∨ k2 + 1 < k ∨ k + 3 < k2) : Met l yX4_fillRests wsX4_fillRests rX4_fillRests (gPc Z B C0 [.ref (B k u), .ref (B k1 s1), .ref (B k2 s2)]) (gQv Z B (fun C1 => (∃ R, C1 (k + 1) u = some (gJ Z 169 R) ∧ tb a b R (-1) b.length) ∧ ∀ k' i', ¬ (k' = k + 1 ∧ i' = u) → C1 k' i' = C0 k' i')) 0 0 (gA Z) := by
  refine g_ofV (cc := cX4_fillRests) (maxL := 8) (by decide) rfl (Nat.le_of_ble_eq_true rfl) ?_
  intro p e s m args below meth c Q X kret hW hS ls hl
  have hx := X.1.1
  have hb := X.1.2.1
  have hts := X.1.2.2.2.2
  have hl : lv_has ls 8 [(0, .ref (B k u)), (1, .ref (B k1 s1)), (2, .ref (B k2 s2))] := hl
  refine lv_aload_n hx hb dX4_fillRests_0 rfl (lv_at hl 1 rfl) ?_
  refine g_ci (g_runV X (k_X5_size (t := a) ht1 ) (cwV 0 hts gX4_fillRests_X5_size rfl rfl rfl ⟨rfl, ds_X5_size⟩ ⟨Nat.le_of_ble_eq_true rfl, Nat.le_of_ble_eq_true rfl⟩) hW hS ht1.2.2.1 rfl rfl hl.1 rfl (Nat.le_of_ble_eq_true rfl) dX4_fillRests_1 ⟨Nat.le_of_ble_eq_true rfl, Nat.le_of_ble_eq_true rfl⟩) hS (fun r3 C1 H locs hp2 hW hS => ?_)
  obtain ⟨rfl, ehp2⟩ := hp2
  rw [ehp2] at hW
  refine lv_istore_n (lv' := [(3, .int (zI (a.length : Int))), (0, .ref (B k u)), (1, .ref (B k1 s1)), (2, .ref (B k2 s2))]) hx hb dX4_fillRests_4 rfl hl (by decide) rfl (fun ls hl => ?_)
  refine lv_aload_n hx hb dX4_fillRests_5 rfl (lv_at hl 3 rfl) ?_
  refine g_ci (g_runV X (k_X5_size (t := b) ht2 ) (cwV 0 hts gX4_fillRests_X5_size rfl rfl rfl ⟨rfl, ds_X5_size⟩ ⟨Nat.le_of_ble_eq_true rfl, Nat.le_of_ble_eq_true rfl⟩) hW hS ht2.2.2.1 rfl rfl hl.1 rfl (Nat.le_of_ble_eq_true rfl) dX4_fillRests_6 ⟨Nat.le_of_ble_eq_true rfl, Nat.le_of_ble_eq_true rfl⟩) hS (fun r6 C4 H locs hp5 hW hS => ?_)
  obtain ⟨rfl, ehp5⟩ := hp5
  rw [ehp5] at hW
  refine lv_istore (lv' := [(4, .int (zI (b.length : Int))), (3, .int (zI (a.length : Int))), (0, .ref (B k u)), (1, .ref (B k1 s1)), (2, .ref (B k2 s2))]) hx hb dX4_fillRests_9 hl (by decide) rfl (fun ls hl => ?_)
  refine lv_iload_n hx hb dX4_fillRests_11 rfl (lv_at hl 1 rfl) ?_
  refine lv_istore (lv' := [(5, .int (zI (a.length : Int))), (4, .int (zI (b.length : Int))), (3, .int (zI (a.length : Int))), (0, .ref (B k u)), (1, .ref (B k1 s1)), (2, .ref (B k2 s2))]) hx hb dX4_fillRests_12 hl (by decide) rfl (fun ls hl => ?_)
  have lp14 : ∀ (n : Nat) (i : Int) (R : Nat → Int) (Cl : gC) (H : Heap) (locs : List Loc), (i + 1 < (n : Int)) → (-1 ≤ i ∧ i ≤ a.length) → (tb a b R i b.length) → (Cl (k + 1) u = some (gJ Z 169 R)) → (∀ k' i', ¬ (k' = k + 1 ∧ i' = u) → Cl k' i' = C0 k' i') → gw Z B Cl H → va_S (gA Z) s.heap H locs → ∀ ls : Array Slot, lv_has ls 8 [(0, .ref (B k u)), (1, .ref (B k1 s1)), (2, .ref (B k2 s2)), (3, .int (zI (a.length : Int))), (4, .int (zI (b.length : Int))), (5, .int (zI i))] → W p l e rX4_fillRests s m args below meth c H locs 0 0 Q (F0 m 14 ls []) := by
    intro n
    induction n with
    | zero =>
      intro i R Cl H locs hm hi hTl hRl hfl hW hS ls hl
      exact absurd hm (by omega)
    | succ n ih14 =>
      intro i R Cl H locs hm hi hTl hRl hfl hW hS ls hl
      have h0l := (hfl _ _ (by omega)).trans h0
      have ht1l := tx.kept ht1 (hfl k1 s1 (by omega)) (hfl (k1 + 1) s1 (by omega))
      have ht2l := tx.kept ht2 (hfl k2 s2 (by omega)) (hfl (k2 + 1) s2 (by omega))
      refine lv_iload hx hb dX4_fillRests_14 (lv_at hl 5 rfl) ?_
      refine z_if_lt (tgt := 161) hx hb dX4_fillRests_16 (by decide) (⟨by omega, by omega⟩) (fun h_16 => ?_) (fun h_16 => ?_)
      · exact kret _ _ _ _ _ _ _ (⟨⟨R, hRl, (show i = -1 by omega) ▸ hTl⟩, hfl⟩) hW hS (Nat.le_of_ble_eq_true rfl) (Nat.le_of_ble_eq_true rfl) dX4_fillRests_161
      · refine lv_iload hx hb dX4_fillRests_19 (lv_at hl 4 rfl) ?_
        refine lv_istore (lv' := [(6, .int (zI (b.length : Int))), (0, .ref (B k u)), (1, .ref (B k1 s1)), (2, .ref (B k2 s2)), (3, .int (zI (a.length : Int))), (4, .int (zI (b.length : Int))), (5, .int (zI i))]) hx hb dX4_fillRests_21 hl (by decide) rfl (fun ls hl => ?_)
        have lp23 : ∀ (n : Nat) (j : Int) (R : Nat → Int) (Cl : gC) (H : Heap) (locs : List Loc), (j + 1 < (n : Int)) → (-1 ≤ j ∧ j ≤ b.length) → (tb a b R i j) → (Cl (k + 1) u = some (gJ Z 169 R)) → (∀ k' i', ¬ (k' = k + 1 ∧ i' = u) → Cl k' i' = C0 k' i') → gw Z B Cl H → va_S (gA Z) s.heap H locs → ∀ ls : Array Slot, lv_has ls 8 [(0, .ref (B k u)), (1, .ref (B k1 s1)), (2, .ref (B k2 s2)), (3, .int (zI (a.length : Int))), (4, .int (zI (b.length : Int))), (5, .int (zI i)), (6, .int (zI j))] → W p l e rX4_fillRests s m args below meth c H locs 0 0 Q (F0 m 23 ls []) := by
          intro n
          induction n with
          | zero =>
            intro j R Cl H locs hm hj hTl hRl hfl hW hS ls hl
            exact absurd hm (by omega)
          | succ n ih23 =>
            intro j R Cl H locs hm hj hTl hRl hfl hW hS ls hl
            have h0l := (hfl _ _ (by omega)).trans h0
            have ht1l := tx.kept ht1 (hfl k1 s1 (by omega)) (hfl (k1 + 1) s1 (by omega))
            have ht2l := tx.kept ht2 (hfl k2 s2 (by omega)) (hfl (k2 + 1) s2 (by omega))
            refine lv_iload hx hb dX4_fillRests_23 (lv_at hl 6 rfl) ?_
            refine z_if_lt (tgt := 155) hx hb dX4_fillRests_25 (by decide) (⟨by omega, by omega⟩) (fun h_25 => ?_) (fun h_25 => ?_)
            · refine z_iinc (lv' := [(5, .int (zI (i + (-1)))), (0, .ref (B k u)), (1, .ref (B k1 s1)), (2, .ref (B k2 s2)), (3, .int (zI (a.length : Int))), (4, .int (zI (b.length : Int))), (6, .int (zI j))]) hx hb dX4_fillRests_155 hl (q := 5) rfl (by decide) rfl (fun ls hl => ?_)
              refine lv_goto (tgt := 14) hx hb dX4_fillRests_158 (by decide) ?_
              exact ih14 (i + -1) R _ _ _ (by omega) (by omega) (tb_row ((show j = -1 by omega) ▸ hTl)) hRl hfl hW hS _ (lv_sub hl [1, 2, 3, 4, 5, 0] rfl)
            · refine lv_iload hx hb dX4_fillRests_28 (lv_at hl 5 rfl) ?_
              refine lv_iload_n hx hb dX4_fillRests_30 rfl (lv_at hl 3 rfl) ?_
              refine z_icmp_eq (tgt := 41) hx hb dX4_fillRests_31 (by decide) (⟨by omega, by omega⟩) (⟨by omega, by omega⟩) (fun h_31 => ?_) (fun h_31 => ?_)
              · refine lv_iload_n hx hb dX4_fillRests_41 rfl (lv_at hl 3 rfl) ?_
                refine lv_iload hx hb dX4_fillRests_42 (lv_at hl 5 rfl) ?_
                refine z_isub hx hb dX4_fillRests_44 ?_
                refine lv_iload hx hb dX4_fillRests_45 (lv_at hl 4 rfl) ?_
                refine z_iadd hx hb dX4_fillRests_47 ?_
                refine lv_iload hx hb dX4_fillRests_48 (lv_at hl 6 rfl) ?_
                refine z_isub hx hb dX4_fillRests_50 ?_
                refine lv_istore (lv' := [(7, .int (zI ((((a.length : Int) - i) + (b.length : Int)) - j))), (0, .ref (B k u)), (1, .ref (B k1 s1)), (2, .ref (B k2 s2)), (3, .int (zI (a.length : Int))), (4, .int (zI (b.length : Int))), (5, .int (zI i)), (6, .int (zI j))]) hx hb dX4_fillRests_51 hl (by decide) rfl (fun ls hl => ?_)
                refine lv_goto (tgt := 133) hx hb dX4_fillRests_53 (by decide) ?_
                refine lv_aload_n hx hb dX4_fillRests_133 rfl (lv_at hl 1 rfl) ?_
                refine g_get (ci := 4) X in_X4_fillRests_4 rfl hW h0l 0 (by decide) (hts _ (List.mem_of_getElem? (i := 1) rfl)) rfl dX4_fillRests_134 ?_
                refine lv_iload hx hb dX4_fillRests_137 (lv_at hl 6 rfl) ?_
                refine lv_iload hx hb dX4_fillRests_139 (lv_at hl 7 rfl) ?_
                refine g_ci (g_runSN X (k_X7_place (a := i) (b := j)) ⟨va_cnB 2 hts gX4_fillRests_X7_place_n45 rfl rfl rfl (nmw_14 X.2.2.1) (hts _ (List.mem_of_getElem? (i := 18) rfl)) ds_X7_place ⟨Nat.le_of_ble_eq_true rfl, Nat.le_of_ble_eq_true rfl⟩, hts _ (List.mem_of_getElem? (i := 17) rfl), trivial⟩ hW hS rfl hl.1 rfl (Nat.le_of_ble_eq_true rfl) dX4_fillRests_141 ⟨Nat.le_of_ble_eq_true rfl, Nat.le_of_ble_eq_true rfl⟩) hS (fun r9 C7 H locs hp8 hW hS => ?_)
                obtain ⟨rfl, ehp8⟩ := hp8
                rw [ehp8] at hW
                refine lv_iload hx hb dX4_fillRests_144 (lv_at hl 0 rfl) ?_
                refine g_cv (g_runSN X (k_X7_put (a := (i * 13 + j)) (v := ((((a.length : Int) - i) + (b.length : Int)) - j)) hRl (by decide) (⟨by omega, by omega⟩)) ⟨va_cnB 3 hts gX4_fillRests_X7_put_n54 rfl rfl rfl (nmw_15 X.2.2.1) (hts _ (List.mem_of_getElem? (i := 18) rfl)) ds_X7_put ⟨Nat.le_of_ble_eq_true rfl, Nat.le_of_ble_eq_true rfl⟩, hts _ (List.mem_of_getElem? (i := 22) rfl), trivial⟩ hW hS rfl hl.1 rfl (Nat.le_of_ble_eq_true rfl) dX4_fillRests_146 ⟨Nat.le_of_ble_eq_true rfl, Nat.le_of_ble_eq_true rfl⟩) hS (fun C10 H locs hp11 hW hS => ?_)
                obtain ⟨hs12, hn13⟩ := hp11
                rw [if_pos (show (0 : Int) ≤ (i * 13 + j) ∧ (i * 13 + j) < ((169 : Nat) : Int) from ⟨by omega, by omega⟩)] at hs12
                refine z_iinc (lv' := [(6, .int (zI (j + (-1)))), (7, .int (zI ((((a.length : Int) - i) + (b.length : Int)) - j))), (0, .ref (B k u)), (1, .ref (B k1 s1)), (2, .ref (B k2 s2)), (3, .int (zI (a.length : Int))), (4, .int (zI (b.length : Int))), (5, .int (zI i))]) hx hb dX4_fillRests_149 hl (q := 7) rfl (by decide) rfl (fun ls hl => ?_)
                refine lv_goto (tgt := 23) hx hb dX4_fillRests_152 (by decide) ?_
                exact ih23 (j + -1) (ju R (i * 13 + j).toNat ((((a.length : Int) - i) + (b.length : Int)) - j)) _ _ _ (by omega) (by omega) (tb_step h_16 h_25 hj.2 hb12 hTl (tb_end h_16 h_25 hi.2 (by omega) (by omega))) hs12 (fun k' i' h => (hn13 k' i' h).trans (hfl k' i' h)) hW hS _ (lv_sub hl [2, 3, 4, 5, 6, 7, 0] rfl)
              · refine lv_iload hx hb dX4_fillRests_34 (lv_at hl 6 rfl) ?_
                refine lv_iload hx hb dX4_fillRests_36 (lv_at hl 4 rfl) ?_
                refine z_icmp_ne (tgt := 56) hx hb dX4_fillRests_38 (by decide) (⟨by omega, by omega⟩) (⟨by omega, by omega⟩) (fun h_38 => ?_) (fun h_38 => ?_)
                · refine lv_aload_n hx hb dX4_fillRests_56 rfl (lv_at hl 1 rfl) ?_
                  refine lv_iload hx hb dX4_fillRests_57 (lv_at hl 5 rfl) ?_
                  refine g_ci (g_runV X (k_X5_at (t := a) ht1l (a := i) (⟨by omega, by omega⟩)) (cwV 1 hts gX4_fillRests_X5_at rfl rfl rfl ⟨rfl, ds_X5_at⟩ ⟨Nat.le_of_ble_eq_true rfl, Nat.le_of_ble_eq_true rfl⟩) hW hS ht1l.2.2.1 rfl rfl hl.1 rfl (Nat.le_of_ble_eq_true rfl) dX4_fillRests_59 ⟨Nat.le_of_ble_eq_true rfl, Nat.le_of_ble_eq_true rfl⟩) hS (fun r16 C14 H locs hp15 hW hS => ?_)
                  obtain ⟨rfl, ehp15⟩ := hp15
                  rw [ehp15] at hW
                  refine lv_aload_n hx hb dX4_fillRests_62 rfl (lv_at hl 2 rfl) ?_
                  refine lv_iload hx hb dX4_fillRests_63 (lv_at hl 6 rfl) ?_
                  refine g_ci (g_runV X (k_X5_at (t := b) ht2l (a := j) (⟨by omega, by omega⟩)) (cwV 1 hts gX4_fillRests_X5_at rfl rfl rfl ⟨rfl, ds_X5_at⟩ ⟨Nat.le_of_ble_eq_true rfl, Nat.le_of_ble_eq_true rfl⟩) hW hS ht2l.2.2.1 rfl rfl hl.1 rfl (Nat.le_of_ble_eq_true rfl) dX4_fillRests_65 ⟨Nat.le_of_ble_eq_true rfl, Nat.le_of_ble_eq_true rfl⟩) hS (fun r19 C17 H locs hp18 hW hS => ?_)
                  obtain ⟨rfl, ehp18⟩ := hp18
                  rw [ehp18] at hW
                  refine z_icmp_ne (tgt := 94) hx hb dX4_fillRests_68 (by decide) (⟨by have := ta_rng ht1.2.1 i; omega, by have := ta_rng ht1.2.1 i; omega⟩) (⟨by have := ta_rng ht2.2.1 j; omega, by have := ta_rng ht2.2.1 j; omega⟩) (fun h_68 => ?_) (fun h_68 => ?_)
                  · refine lv_iconst (v := zI (1)) hx hb dX4_fillRests_94 rfl ?_
                    refine lv_aload_n hx hb dX4_fillRests_95 rfl (lv_at hl 0 rfl) ?_
                    refine g_get (ci := 4) X in_X4_fillRests_4 rfl hW h0l 0 (by decide) (hts _ (List.mem_of_getElem? (i := 1) rfl)) rfl dX4_fillRests_96 ?_
                    refine lv_iload hx hb dX4_fillRests_99 (lv_at hl 5 rfl) ?_
                    refine lv_iconst (v := zI (1)) hx hb dX4_fillRests_101 rfl ?_
                    refine z_iadd hx hb dX4_fillRests_102 ?_
                    refine lv_iload hx hb dX4_fillRests_103 (lv_at hl 6 rfl) ?_
                    refine g_ci (g_runSN X (k_X7_place (a := (i + 1)) (b := j)) ⟨va_cnB 2 hts gX4_fillRests_X7_place_n45 rfl rfl rfl (nmw_14 X.2.2.1) (hts _ (List.mem_of_getElem? (i := 18) rfl)) ds_X7_place ⟨Nat.le_of_ble_eq_true rfl, Nat.le_of_ble_eq_true rfl⟩, hts _ (List.mem_of_getElem? (i := 17) rfl), trivial⟩ hW hS rfl hl.1 rfl (Nat.le_of_ble_eq_true rfl) dX4_fillRests_105 ⟨Nat.le_of_ble_eq_true rfl, Nat.le_of_ble_eq_true rfl⟩) hS (fun r22 C20 H locs hp21 hW hS => ?_)
                    obtain ⟨rfl, ehp21⟩ := hp21
                    rw [ehp21] at hW
                    refine g_ci (g_runSN X (k_X7_cell (a := ((i + 1) * 13 + j)) hRl (by decide) (⟨by omega, by omega⟩)) ⟨va_cnB 2 hts gX4_fillRests_X7_cell_n32 rfl rfl rfl (nmw_13 X.2.2.1) (hts _ (List.mem_of_getElem? (i := 18) rfl)) ds_X7_cell ⟨Nat.le_of_ble_eq_true rfl, Nat.le_of_ble_eq_true rfl⟩, hts _ (List.mem_of_getElem? (i := 20) rfl), trivial⟩ hW hS rfl hl.1 rfl (Nat.le_of_ble_eq_true rfl) dX4_fillRests_108 ⟨Nat.le_of_ble_eq_true rfl, Nat.le_of_ble_eq_true rfl⟩) hS (fun r25 C23 H locs hp24 hW hS => ?_)
                    rw [if_pos (show (0 : Int) ≤ ((i + 1) * 13 + j) ∧ ((i + 1) * 13 + j) < ((169 : Nat) : Int) from ⟨by omega, by omega⟩)] at hp24
                    obtain ⟨rfl, ehp24⟩ := hp24
                    rw [ehp24] at hW
                    refine lv_aload_n hx hb dX4_fillRests_111 rfl (lv_at hl 0 rfl) ?_
                    refine g_get (ci := 4) X in_X4_fillRests_4 rfl hW h0l 0 (by decide) (hts _ (List.mem_of_getElem? (i := 1) rfl)) rfl dX4_fillRests_112 ?_
                    refine lv_iload hx hb dX4_fillRests_115 (lv_at hl 5 rfl) ?_
                    refine lv_iload hx hb dX4_fillRests_117 (lv_at hl 6 rfl) ?_
                    refine lv_iconst (v := zI (1)) hx hb dX4_fillRests_119 rfl ?_
                    refine z_iadd hx hb dX4_fillRests_120 ?_
                    refine g_ci (g_runSN X (k_X7_place (a := i) (b := (j + 1))) ⟨va_cnB 2 hts gX4_fillRests_X7_place_n45 rfl rfl rfl (nmw_14 X.2.2.1) (hts _ (List.mem_of_getElem? (i := 18) rfl)) ds_X7_place ⟨Nat.le_of_ble_eq_true rfl, Nat.le_of_ble_eq_true rfl⟩, hts _ (List.mem_of_getElem? (i := 17) rfl), trivial⟩ hW hS rfl hl.1 rfl (Nat.le_of_ble_eq_true rfl) dX4_fillRests_121 ⟨Nat.le_of_ble_eq_true rfl, Nat.le_of_ble_eq_true rfl⟩) hS (fun r28 C26 H locs hp27 hW hS => ?_)
                    obtain ⟨rfl, ehp27⟩ := hp27
                    rw [ehp27] at hW
                    refine g_ci (g_runSN X (k_X7_cell (a := (i * 13 + (j + 1))) hRl (by decide) (⟨by omega, by omega⟩)) ⟨va_cnB 2 hts gX4_fillRests_X7_cell_n32 rfl rfl rfl (nmw_13 X.2.2.1) (hts _ (List.mem_of_getElem? (i := 18) rfl)) ds_X7_cell ⟨Nat.le_of_ble_eq_true rfl, Nat.le_of_ble_eq_true rfl⟩, hts _ (List.mem_of_getElem? (i := 20) rfl), trivial⟩ hW hS rfl hl.1 rfl (Nat.le_of_ble_eq_true rfl) dX4_fillRests_124 ⟨Nat.le_of_ble_eq_true rfl, Nat.le_of_ble_eq_true rfl⟩) hS (fun r31 C29 H locs hp30 hW hS => ?_)
                    rw [if_pos (show (0 : Int) ≤ (i * 13 + (j + 1)) ∧ (i * 13 + (j + 1)) < ((169 : Nat) : Int) from ⟨by omega, by omega⟩)] at hp30
                    obtain ⟨rfl, ehp30⟩ := hp30
                    rw [ehp30] at hW
                    refine va_mmin hx hb (X.1.2.2.1.trans hl.1.symm) X.1.2.2.2.1 (hts _ (List.mem_of_getElem? (i := 2) rfl)) (hts _ (List.mem_of_getElem? (i := 3) rfl)) (hts _ (List.mem_of_getElem? (i := 4) rfl)) (hts _ (List.mem_of_getElem? (i := 5) rfl)) (Nat.le_of_ble_eq_true rfl) (Nat.le_of_ble_eq_true rfl) (Nat.le_of_ble_eq_true rfl) (Nat.le_of_ble_eq_true rfl) dX4_fillRests_127 ?_
                    rw [z_min (by have := tb_rng hTl ha12 hb12 (x := i + 1) (y := j) (by omega) (by omega) (by omega) (by omega) (by omega); exact ⟨by omega, by omega⟩) (by have := tb_rng hTl ha12 hb12 (x := i) (y := j + 1) (by omega) (by omega) (by omega) (by omega) (by omega); exact ⟨by omega, by omega⟩)]
                    refine z_iadd hx hb dX4_fillRests_130 ?_
                    refine lv_istore (lv' := [(7, .int (zI (1 + (min (R ((i + 1) * 13 + j).toNat) (R (i * 13 + (j + 1)).toNat))))), (0, .ref (B k u)), (1, .ref (B k1 s1)), (2, .ref (B k2 s2)), (3, .int (zI (a.length : Int))), (4, .int (zI (b.length : Int))), (5, .int (zI i)), (6, .int (zI j))]) hx hb dX4_fillRests_131 hl (by decide) rfl (fun ls hl => ?_)
                    refine lv_aload_n hx hb dX4_fillRests_133 rfl (lv_at hl 1 rfl) ?_
                    refine g_get (ci := 4) X in_X4_fillRests_4 rfl hW h0l 0 (by decide) (hts _ (List.mem_of_getElem? (i := 1) rfl)) rfl dX4_fillRests_134 ?_
                    refine lv_iload hx hb dX4_fillRests_137 (lv_at hl 6 rfl) ?_
                    refine lv_iload hx hb dX4_fillRests_139 (lv_at hl 7 rfl) ?_
                    refine g_ci (g_runSN X (k_X7_place (a := i) (b := j)) ⟨va_cnB 2 hts gX4_fillRests_X7_place_n45 rfl rfl rfl (nmw_14 X.2.2.1) (hts _ (List.mem_of_getElem? (i := 18) rfl)) ds_X7_place ⟨Nat.le_of_ble_eq_true rfl, Nat.le_of_ble_eq_true rfl⟩, hts _ (List.mem_of_getElem? (i := 17) rfl), trivial⟩ hW hS rfl hl.1 rfl (Nat.le_of_ble_eq_true rfl) dX4_fillRests_141 ⟨Nat.le_of_ble_eq_true rfl, Nat.le_of_ble_eq_true rfl⟩) hS (fun r34 C32 H locs hp33 hW hS => ?_)
                    obtain ⟨rfl, ehp33⟩ := hp33
                    rw [ehp33] at hW
                    refine lv_iload hx hb dX4_fillRests_144 (lv_at hl 0 rfl) ?_
                    refine g_cv (g_runSN X (k_X7_put (a := (i * 13 + j)) (v := (1 + (min (R ((i + 1) * 13 + j).toNat) (R (i * 13 + (j + 1)).toNat)))) hRl (by decide) (⟨by omega, by omega⟩)) ⟨va_cnB 3 hts gX4_fillRests_X7_put_n54 rfl rfl rfl (nmw_15 X.2.2.1) (hts _ (List.mem_of_getElem? (i := 18) rfl)) ds_X7_put ⟨Nat.le_of_ble_eq_true rfl, Nat.le_of_ble_eq_true rfl⟩, hts _ (List.mem_of_getElem? (i := 22) rfl), trivial⟩ hW hS rfl hl.1 rfl (Nat.le_of_ble_eq_true rfl) dX4_fillRests_146 ⟨Nat.le_of_ble_eq_true rfl, Nat.le_of_ble_eq_true rfl⟩) hS (fun C35 H locs hp36 hW hS => ?_)
                    obtain ⟨hs37, hn38⟩ := hp36
                    rw [if_pos (show (0 : Int) ≤ (i * 13 + j) ∧ (i * 13 + j) < ((169 : Nat) : Int) from ⟨by omega, by omega⟩)] at hs37
                    refine z_iinc (lv' := [(6, .int (zI (j + (-1)))), (7, .int (zI (1 + (min (R ((i + 1) * 13 + j).toNat) (R (i * 13 + (j + 1)).toNat))))), (0, .ref (B k u)), (1, .ref (B k1 s1)), (2, .ref (B k2 s2)), (3, .int (zI (a.length : Int))), (4, .int (zI (b.length : Int))), (5, .int (zI i))]) hx hb dX4_fillRests_149 hl (q := 7) rfl (by decide) rfl (fun ls hl => ?_)
                    refine lv_goto (tgt := 23) hx hb dX4_fillRests_152 (by decide) ?_
                    exact ih23 (j + -1) (ju R (i * 13 + j).toNat (1 + (min (R ((i + 1) * 13 + j).toNat) (R (i * 13 + (j + 1)).toNat)))) _ _ _ (by omega) (by omega) (tb_step h_16 h_25 hj.2 hb12 hTl (tb_ne hTl h_16 h_25 (by omega) (by omega) h_68)) hs37 (fun k' i' h => (hn38 k' i' h).trans (hfl k' i' h)) hW hS _ (lv_sub hl [2, 3, 4, 5, 6, 7, 0] rfl)
                  · refine lv_aload_n hx hb dX4_fillRests_71 rfl (lv_at hl 0 rfl) ?_
                    refine g_get (ci := 4) X in_X4_fillRests_4 rfl hW h0l 0 (by decide) (hts _ (List.mem_of_getElem? (i := 1) rfl)) rfl dX4_fillRests_72 ?_
                    refine lv_iload hx hb dX4_fillRests_75 (lv_at hl 5 rfl) ?_
                    refine lv_iconst (v := zI (1)) hx hb dX4_fillRests_77 rfl ?_
                    refine z_iadd hx hb dX4_fillRests_78 ?_
                    refine lv_iload hx hb dX4_fillRests_79 (lv_at hl 6 rfl) ?_
                    refine lv_iconst (v := zI (1)) hx hb dX4_fillRests_81 rfl ?_
                    refine z_iadd hx hb dX4_fillRests_82 ?_
                    refine g_ci (g_runSN X (k_X7_place (a := (i + 1)) (b := (j + 1))) ⟨va_cnB 2 hts gX4_fillRests_X7_place_n45 rfl rfl rfl (nmw_14 X.2.2.1) (hts _ (List.mem_of_getElem? (i := 18) rfl)) ds_X7_place ⟨Nat.le_of_ble_eq_true rfl, Nat.le_of_ble_eq_true rfl⟩, hts _ (List.mem_of_getElem? (i := 17) rfl), trivial⟩ hW hS rfl hl.1 rfl (Nat.le_of_ble_eq_true rfl) dX4_fillRests_83 ⟨Nat.le_of_ble_eq_true rfl, Nat.le_of_ble_eq_true rfl⟩) hS (fun r41 C39 H locs hp40 hW hS => ?_)
                    obtain ⟨rfl, ehp40⟩ := hp40
                    rw [ehp40] at hW
                    refine g_ci (g_runSN X (k_X7_cell (a := ((i + 1) * 13 + (j + 1))) hRl (by decide) (⟨by omega, by omega⟩)) ⟨va_cnB 2 hts gX4_fillRests_X7_cell_n32 rfl rfl rfl (nmw_13 X.2.2.1) (hts _ (List.mem_of_getElem? (i := 18) rfl)) ds_X7_cell ⟨Nat.le_of_ble_eq_true rfl, Nat.le_of_ble_eq_true rfl⟩, hts _ (List.mem_of_getElem? (i := 20) rfl), trivial⟩ hW hS rfl hl.1 rfl (Nat.le_of_ble_eq_true rfl) dX4_fillRests_86 ⟨Nat.le_of_ble_eq_true rfl, Nat.le_of_ble_eq_true rfl⟩) hS (fun r44 C42 H locs hp43 hW hS => ?_)
                    rw [if_pos (show (0 : Int) ≤ ((i + 1) * 13 + (j + 1)) ∧ ((i + 1) * 13 + (j + 1)) < ((169 : Nat) : Int) from ⟨by omega, by omega⟩)] at hp43
                    obtain ⟨rfl, ehp43⟩ := hp43
                    rw [ehp43] at hW
                    refine lv_istore (lv' := [(7, .int (zI (R ((i + 1) * 13 + (j + 1)).toNat))), (0, .ref (B k u)), (1, .ref (B k1 s1)), (2, .ref (B k2 s2)), (3, .int (zI (a.length : Int))), (4, .int (zI (b.length : Int))), (5, .int (zI i)), (6, .int (zI j))]) hx hb dX4_fillRests_89 hl (by decide) rfl (fun ls hl => ?_)
                    refine lv_goto (tgt := 133) hx hb dX4_fillRests_91 (by decide) ?_
                    refine lv_aload_n hx hb dX4_fillRests_133 rfl (lv_at hl 1 rfl) ?_
                    refine g_get (ci := 4) X in_X4_fillRests_4 rfl hW h0l 0 (by decide) (hts _ (List.mem_of_getElem? (i := 1) rfl)) rfl dX4_fillRests_134 ?_
                    refine lv_iload hx hb dX4_fillRests_137 (lv_at hl 6 rfl) ?_
                    refine lv_iload hx hb dX4_fillRests_139 (lv_at hl 7 rfl) ?_
                    refine g_ci (g_runSN X (k_X7_place (a := i) (b := j)) ⟨va_cnB 2 hts gX4_fillRests_X7_place_n45 rfl rfl rfl (nmw_14 X.2.2.1) (hts _ (List.mem_of_getElem? (i := 18) rfl)) ds_X7_place ⟨Nat.le_of_ble_eq_true rfl, Nat.le_of_ble_eq_true rfl⟩, hts _ (List.mem_of_getElem? (i := 17) rfl), trivial⟩ hW hS rfl hl.1 rfl (Nat.le_of_ble_eq_true rfl) dX4_fillRests_141 ⟨Nat.le_of_ble_eq_true rfl, Nat.le_of_ble_eq_true rfl⟩) hS (fun r47 C45 H locs hp46 hW hS => ?_)
                    obtain ⟨rfl, ehp46⟩ := hp46
                    rw [ehp46] at hW
                    refine lv_iload hx hb dX4_fillRests_144 (lv_at hl 0 rfl) ?_
                    refine g_cv (g_runSN X (k_X7_put (a := (i * 13 + j)) (v := (R ((i + 1) * 13 + (j + 1)).toNat)) hRl (by decide) (⟨by omega, by omega⟩)) ⟨va_cnB 3 hts gX4_fillRests_X7_put_n54 rfl rfl rfl (nmw_15 X.2.2.1) (hts _ (List.mem_of_getElem? (i := 18) rfl)) ds_X7_put ⟨Nat.le_of_ble_eq_true rfl, Nat.le_of_ble_eq_true rfl⟩, hts _ (List.mem_of_getElem? (i := 22) rfl), trivial⟩ hW hS rfl hl.1 rfl (Nat.le_of_ble_eq_true rfl) dX4_fillRests_146 ⟨Nat.le_of_ble_eq_true rfl, Nat.le_of_ble_eq_true rfl⟩) hS (fun C48 H locs hp49 hW hS => ?_)
                    obtain ⟨hs50, hn51⟩ := hp49
                    rw [if_pos (show (0 : Int) ≤ (i * 13 + j) ∧ (i * 13 + j) < ((169 : Nat) : Int) from ⟨by omega, by omega⟩)] at hs50
                    refine z_iinc (lv' := [(6, .int (zI (j + (-1)))), (7, .int (zI (R ((i + 1) * 13 + (j + 1)).toNat))), (0, .ref (B k u)), (1, .ref (B k1 s1)), (2, .ref (B k2 s2)), (3, .int (zI (a.length : Int))), (4, .int (zI (b.length : Int))), (5, .int (zI i))]) hx hb dX4_fillRests_149 hl (q := 7) rfl (by decide) rfl (fun ls hl => ?_)
                    refine lv_goto (tgt := 23) hx hb dX4_fillRests_152 (by decide) ?_
                    exact ih23 (j + -1) (ju R (i * 13 + j).toNat (R ((i + 1) * 13 + (j + 1)).toNat)) _ _ _ (by omega) (by omega) (tb_step h_16 h_25 hj.2 hb12 hTl (tb_eq hTl h_16 h_25 (by omega) (by omega) h_68)) hs50 (fun k' i' h => (hn51 k' i' h).trans (hfl k' i' h)) hW hS _ (lv_sub hl [2, 3, 4, 5, 6, 7, 0] rfl)
                · refine lv_iload_n hx hb dX4_fillRests_41 rfl (lv_at hl 3 rfl) ?_
                  refine lv_iload hx hb dX4_fillRests_42 (lv_at hl 5 rfl) ?_
                  refine z_isub hx hb dX4_fillRests_44 ?_
                  refine lv_iload hx hb dX4_fillRests_45 (lv_at hl 4 rfl) ?_
                  refine z_iadd hx hb dX4_fillRests_47 ?_
                  refine lv_iload hx hb dX4_fillRests_48 (lv_at hl 6 rfl) ?_
                  refine z_isub hx hb dX4_fillRests_50 ?_
                  refine lv_istore (lv' := [(7, .int (zI ((((a.length : Int) - i) + (b.length : Int)) - j))), (0, .ref (B k u)), (1, .ref (B k1 s1)), (2, .ref (B k2 s2)), (3, .int (zI (a.length : Int))), (4, .int (zI (b.length : Int))), (5, .int (zI i)), (6, .int (zI j))]) hx hb dX4_fillRests_51 hl (by decide) rfl (fun ls hl => ?_)
                  refine lv_goto (tgt := 133) hx hb dX4_fillRests_53 (by decide) ?_
                  refine lv_aload_n hx hb dX4_fillRests_133 rfl (lv_at hl 1 rfl) ?_
                  refine g_get (ci := 4) X in_X4_fillRests_4 rfl hW h0l 0 (by decide) (hts _ (List.mem_of_getElem? (i := 1) rfl)) rfl dX4_fillRests_134 ?_
                  refine lv_iload hx hb dX4_fillRests_137 (lv_at hl 6 rfl) ?_
                  refine lv_iload hx hb dX4_fillRests_139 (lv_at hl 7 rfl) ?_
                  refine g_ci (g_runSN X (k_X7_place (a := i) (b := j)) ⟨va_cnB 2 hts gX4_fillRests_X7_place_n45 rfl rfl rfl (nmw_14 X.2.2.1) (hts _ (List.mem_of_getElem? (i := 18) rfl)) ds_X7_place ⟨Nat.le_of_ble_eq_true rfl, Nat.le_of_ble_eq_true rfl⟩, hts _ (List.mem_of_getElem? (i := 17) rfl), trivial⟩ hW hS rfl hl.1 rfl (Nat.le_of_ble_eq_true rfl) dX4_fillRests_141 ⟨Nat.le_of_ble_eq_true rfl, Nat.le_of_ble_eq_true rfl⟩) hS (fun r54 C52 H locs hp53 hW hS => ?_)
                  obtain ⟨rfl, ehp53⟩ := hp53
                  rw [ehp53] at hW
                  refine lv_iload hx hb dX4_fillRests_144 (lv_at hl 0 rfl) ?_
                  refine g_cv (g_runSN X (k_X7_put (a := (i * 13 + j)) (v := ((((a.length : Int) - i) + (b.length : Int)) - j)) hRl (by decide) (⟨by omega, by omega⟩)) ⟨va_cnB 3 hts gX4_fillRests_X7_put_n54 rfl rfl rfl (nmw_15 X.2.2.1) (hts _ (List.mem_of_getElem? (i := 18) rfl)) ds_X7_put ⟨Nat.le_of_ble_eq_true rfl, Nat.le_of_ble_eq_true rfl⟩, hts _ (List.mem_of_getElem? (i := 22) rfl), trivial⟩ hW hS rfl hl.1 rfl (Nat.le_of_ble_eq_true rfl) dX4_fillRests_146 ⟨Nat.le_of_ble_eq_true rfl, Nat.le_of_ble_eq_true rfl⟩) hS (fun C55 H locs hp56 hW hS => ?_)
                  obtain ⟨hs57, hn58⟩ := hp56
                  rw [if_pos (show (0 : Int) ≤ (i * 13 + j) ∧ (i * 13 + j) < ((169 : Nat) : Int) from ⟨by omega, by omega⟩)] at hs57
                  refine z_iinc (lv' := [(6, .int (zI (j + (-1)))), (7, .int (zI ((((a.length : Int) - i) + (b.length : Int)) - j))), (0, .ref (B k u)), (1, .ref (B k1 s1)), (2, .ref (B k2 s2)), (3, .int (zI (a.length : Int))), (4, .int (zI (b.length : Int))), (5, .int (zI i))]) hx hb dX4_fillRests_149 hl (q := 7) rfl (by decide) rfl (fun ls hl => ?_)
                  refine lv_goto (tgt := 23) hx hb dX4_fillRests_152 (by decide) ?_
                  exact ih23 (j + -1) (ju R (i * 13 + j).toNat ((((a.length : Int) - i) + (b.length : Int)) - j)) _ _ _ (by omega) (by omega) (tb_step h_16 h_25 hj.2 hb12 hTl (tb_end h_16 h_25 hi.2 (by omega) (by omega))) hs57 (fun k' i' h => (hn58 k' i' h).trans (hfl k' i' h)) hW hS _ (lv_sub hl [2, 3, 4, 5, 6, 7, 0] rfl)
        exact lp23 (b.length + 2) (b.length : Int) R _ _ _ (by omega) (by omega) hTl hRl hfl hW hS _ (lv_sub hl [1, 2, 3, 4, 5, 6, 0] rfl)
  exact lp14 (a.length + 2) (a.length : Int) R0 _ _ _ (by omega) (by omega) tb_init h1 (fun _ _ _ => rfl) hW hS _ (lv_sub hl [3, 4, 5, 2, 1, 0] rfl)

theorem ds_X4_alter : yX4_alter.cls ≠ "java/lang/invoke/MethodHandle" ∧ yX4_alter.cls ≠ "java/lang/invoke/VarHandle" ∧ (parseMethodDescriptor yX4_alter.desc).map (fun d => d.parameters.length) = some 1 := by decide +kernel
theorem in_X4_alter_4 : ∀ w ∈ wsX40, w ∈ wsX4_alter := by decide +kernel
def rX4_alter : Room := { frames := 0, cells := 0, slots := 0, locals := 0 }
set_option maxHeartbeats 4000000 in
set_option maxRecDepth 100000 in
theorem k_X4_alter {l : Launch} {Z : gZ} {B : gB} {C0 : gC} {k u : Nat} {sz : Nat} {A0 : Nat → Int} {v : Int} (h0 : C0 k u = some (.inr (4, [.ref (B (k + 1) u), .ref (B (k + 2) u), .ref (B (k + 3) u), .int (zI (sz : Int))]))) (h3 : C0 (k + 3) u = some (gJ Z 24 A0)) (hsz : sz < 24) : Met l yX4_alter wsX4_alter rX4_alter (gPc Z B C0 [.ref (B k u), .int (zI v)]) (gQv Z B (fun C1 => C1 k u = some (.inr (4, [.ref (B (k + 1) u), .ref (B (k + 2) u), .ref (B (k + 3) u), .int (zI ((sz : Int) + 1))])) ∧ C1 (k + 3) u = some (gJ Z 24 (ju A0 ((sz : Int)).toNat v)) ∧ ∀ k' i', ¬ ((k' = k ∨ k' = k + 3) ∧ i' = u) → C1 k' i' = C0 k' i')) 0 0 (gA Z) := by
  refine g_ofV (cc := cX4_alter) (maxL := 2) (by decide) rfl (Nat.le_of_ble_eq_true rfl) ?_
  intro p e s m args below meth c Q X kret hW hS ls hl
  have hx := X.1.1
  have hb := X.1.2.1
  have hts := X.1.2.2.2.2
  have hl : lv_has ls 2 [(0, .ref (B k u)), (1, .int (zI v))] := hl
  refine lv_aload_n hx hb dX4_alter_0 rfl (lv_at hl 0 rfl) ?_
  refine g_get (ci := 4) X in_X4_alter_4 rfl hW h0 3 (by decide) (hts _ (List.mem_of_getElem? (i := 1) rfl)) rfl dX4_alter_1 ?_
  refine z_if_lt (tgt := 39) hx hb dX4_alter_4 (by decide) (⟨by omega, by omega⟩) (fun h_4 => absurd h_4 (by omega)) (fun h_4 => ?_)
  refine lv_aload_n hx hb dX4_alter_7 rfl (lv_at hl 0 rfl) ?_
  refine g_get (ci := 4) X in_X4_alter_4 rfl hW h0 3 (by decide) (hts _ (List.mem_of_getElem? (i := 1) rfl)) rfl dX4_alter_8 ?_
  refine lv_aload_n hx hb dX4_alter_11 rfl (lv_at hl 0 rfl) ?_
  refine g_get (ci := 4) X in_X4_alter_4 rfl hW h0 2 (by decide) (hts _ (List.mem_of_getElem? (i := 2) rfl)) rfl dX4_alter_12 ?_
  refine z_alen (t := 0) X hW h3 rfl dX4_alter_15 ?_
  refine z_icmp_ge (tgt := 39) hx hb dX4_alter_16 (by decide) (⟨by omega, by omega⟩) (⟨by omega, by omega⟩) (fun h_16 => absurd h_16 (by omega)) (fun h_16 => ?_)
  refine lv_aload_n hx hb dX4_alter_19 rfl (lv_at hl 0 rfl) ?_
  refine g_get (ci := 4) X in_X4_alter_4 rfl hW h0 2 (by decide) (hts _ (List.mem_of_getElem? (i := 2) rfl)) rfl dX4_alter_20 ?_
  refine lv_aload_n hx hb dX4_alter_23 rfl (lv_at hl 0 rfl) ?_
  refine g_get (ci := 4) X in_X4_alter_4 rfl hW h0 3 (by decide) (hts _ (List.mem_of_getElem? (i := 1) rfl)) rfl dX4_alter_24 ?_
  refine lv_iload_n hx hb dX4_alter_27 rfl (lv_at hl 1 rfl) ?_
  refine z_iast X hW hS h3 (by omega) (by omega) (by omega) dX4_alter_28 (fun C1 H locs hs2 hn3 hW hS => ?_)
  refine lv_aload_n hx hb dX4_alter_29 rfl (lv_at hl 0 rfl) ?_
  refine lv_dup hx hb dX4_alter_30 rfl ?_
  have f4 : C1 k u = some (.inr (4, [.ref (B (k + 1) u), .ref (B (k + 2) u), .ref (B (k + 3) u), .int (zI (sz : Int))])) := ((hn3 k u (by omega)).trans h0)
  refine g_get (ci := 4) X in_X4_alter_4 rfl hW f4 3 (by decide) (hts _ (List.mem_of_getElem? (i := 1) rfl)) rfl dX4_alter_31 ?_
  refine lv_iconst (v := zI (1)) hx hb dX4_alter_34 rfl ?_
  refine z_iadd hx hb dX4_alter_35 ?_
  refine g_put (ci := 4) (ty := .int) X in_X4_alter_4 tyX4 tyX4_ok nmX4 rfl hW hS f4 3 (by decide) (hts _ (List.mem_of_getElem? (i := 1) rfl)) rfl (by decide +kernel) (rfl) (rfl) (Nat.le_of_ble_eq_true rfl) dX4_alter_36 (fun C5 H locs hs6 hn7 hW hS => ?_)
  exact kret _ _ _ _ _ _ _ (⟨hs6, ((hn7 (k + 3) u (by omega)).trans (hs2)), fun k' i' h => (hn7 k' i' (by omega)).trans ((hn3 k' i' (by omega)))⟩) hW hS (Nat.le_of_ble_eq_true rfl) (Nat.le_of_ble_eq_true rfl) dX4_alter_39

theorem ds_X4_follow : yX4_follow.cls ≠ "java/lang/invoke/MethodHandle" ∧ yX4_follow.cls ≠ "java/lang/invoke/VarHandle" ∧ (parseMethodDescriptor yX4_follow.desc).map (fun d => d.parameters.length) = some 2 := by decide +kernel
theorem in_X4_follow_4 : ∀ w ∈ wsX40, w ∈ wsX4_follow := by decide +kernel
def rX4_follow : Room := { frames := 1, cells := 0, slots := 0, locals := 22 }
set_option maxHeartbeats 4000000 in
set_option maxRecDepth 100000 in
theorem k_X4_follow {l : Launch} {Z : gZ} {B : gB} {C0 : gC} {k u k1 s1 k2 s2 : Nat} {a b : List Int} {n0 : Int} {R0 K0 A0 : Nat → Int} (h0 : C0 k u = some (.inr (4, [.ref (B (k + 1) u), .ref (B (k + 2) u), .ref (B (k + 3) u), .int (zI n0)]))) (h1 : C0 (k + 1) u = some (gJ Z 169 R0)) (h2 : C0 (k + 2) u = some (gJ Z 12 K0)) (h3 : C0 (k + 3) u = some (gJ Z 24 A0)) (hTb : tb a b R0 (-1) b.length) (ht1 : tx Z B C0 k1 s1 a) (ht2 : tx Z B C0 k2 s2 b) (ha12 : a.length ≤ 12) (hb12 : b.length ≤ 12) (hd1 : ¬ s1 = u ∨ k1 + 1 < k ∨ k + 3 < k1) (hd2 : ¬ s2 = u ∨ k2 + 1 < k ∨ k + 3 < k2) : Met l yX4_follow wsX4_follow rX4_follow (gPc Z B C0 [.ref (B k u), .ref (B k1 s1), .ref (B k2 s2)]) (gQv Z B (fun C1 => sc Z B C1 k u a b ∧ ∀ k' i', ¬ ((k' = k ∨ k' = k + 2 ∨ k' = k + 3) ∧ i' = u) → C1 k' i' = C0 k' i')) 0 0 (gA Z) := by
  refine g_ofV (cc := cX4_follow) (maxL := 6) (by decide) rfl (Nat.le_of_ble_eq_true rfl) ?_
  intro p e s m args below meth c Q X kret hW hS ls hl
  have hx := X.1.1
  have hb := X.1.2.1
  have hts := X.1.2.2.2.2
  have hl : lv_has ls 6 [(0, .ref (B k u)), (1, .ref (B k1 s1)), (2, .ref (B k2 s2))] := hl
  refine lv_iconst (v := zI (0)) hx hb dX4_follow_0 rfl ?_
  refine lv_istore_n (lv' := [(3, .int (zI 0)), (0, .ref (B k u)), (1, .ref (B k1 s1)), (2, .ref (B k2 s2))]) hx hb dX4_follow_1 rfl hl (by decide) rfl (fun ls hl => ?_)
  refine lv_iconst (v := zI (0)) hx hb dX4_follow_2 rfl ?_
  refine lv_istore (lv' := [(4, .int (zI 0)), (3, .int (zI 0)), (0, .ref (B k u)), (1, .ref (B k1 s1)), (2, .ref (B k2 s2))]) hx hb dX4_follow_3 hl (by decide) rfl (fun ls hl => ?_)
  refine lv_aload_n hx hb dX4_follow_5 rfl (lv_at hl 2 rfl) ?_
  refine lv_iconst (v := zI (0)) hx hb dX4_follow_6 rfl ?_
  refine g_put (ci := 4) (ty := .int) X in_X4_follow_4 tyX4 tyX4_ok nmX4 rfl hW hS h0 3 (by decide) (hts _ (List.mem_of_getElem? (i := 1) rfl)) rfl (by decide +kernel) (rfl) (rfl) (Nat.le_of_ble_eq_true rfl) dX4_follow_7 (fun C1 H locs hs2 hn3 hW hS => ?_)
  refine lv_iconst (v := zI (0)) hx hb dX4_follow_10 rfl ?_
  refine lv_istore (lv' := [(5, .int (zI 0)), (4, .int (zI 0)), (3, .int (zI 0)), (0, .ref (B k u)), (1, .ref (B k1 s1)), (2, .ref (B k2 s2))]) hx hb dX4_follow_11 hl (by decide) rfl (fun ls hl => ?_)
  have lp13 : ∀ (n : Nat) (i j st sz : Nat) (K A : Nat → Int) (pre : List Int) (Fm : Nat → Int) (Cl : gC) (H : Heap) (locs : List Loc), (a.length + b.length - st < n) → (st ≤ a.length + b.length) → (i ≤ a.length ∧ j ≤ b.length ∧ st ≤ i + j) → (sz ≤ i + j ∧ pre.length = sz) → (fol a b i j pre K Fm) → (∀ q, q < sz → A q = pre.getD q (-1)) → (Cl k u = some (.inr (4, [.ref (B (k + 1) u), .ref (B (k + 2) u), .ref (B (k + 3) u), .int (zI (sz : Int))]))) → (Cl (k + 2) u = some (gJ Z 12 K)) → (Cl (k + 3) u = some (gJ Z 24 A)) → (∀ k' i', ¬ ((k' = k ∨ k' = k + 2 ∨ k' = k + 3) ∧ i' = u) → Cl k' i' = C0 k' i') → gw Z B Cl H → va_S (gA Z) s.heap H locs → ∀ ls : Array Slot, lv_has ls 6 [(0, .ref (B k u)), (1, .ref (B k1 s1)), (2, .ref (B k2 s2)), (3, .int (zI (i : Int))), (4, .int (zI (j : Int))), (5, .int (zI (st : Int)))] → W p l e rX4_follow s m args below meth c H locs 0 0 Q (F0 m 13 ls []) := by
    intro n
    induction n with
    | zero =>
      intro i j st sz K A pre Fm Cl H locs hm hst hij hsz hfo hAl h0l h2l h3l hfl hW hS ls hl
      exact absurd hm (by omega)
    | succ n ih13 =>
      intro i j st sz K A pre Fm Cl H locs hm hst hij hsz hfo hAl h0l h2l h3l hfl hW hS ls hl
      have h1l := (hfl (k + 1) u (by omega)).trans h1
      have ht1l := tx.kept ht1 (hfl k1 s1 (by omega)) (hfl (k1 + 1) s1 (by omega))
      have ht2l := tx.kept ht2 (hfl k2 s2 (by omega)) (hfl (k2 + 1) s2 (by omega))
      refine lv_iload hx hb dX4_follow_13 (lv_at hl 5 rfl) ?_
      refine lv_aload_n hx hb dX4_follow_15 rfl (lv_at hl 1 rfl) ?_
      refine g_ci (g_runV X (k_X5_size (t := a) ht1l ) (cwV 0 hts gX4_follow_X5_size rfl rfl rfl ⟨rfl, ds_X5_size⟩ ⟨Nat.le_of_ble_eq_true rfl, Nat.le_of_ble_eq_true rfl⟩) hW hS ht1l.2.2.1 rfl rfl hl.1 rfl (Nat.le_of_ble_eq_true rfl) dX4_follow_16 ⟨Nat.le_of_ble_eq_true rfl, Nat.le_of_ble_eq_true rfl⟩) hS (fun r6 C4 H locs hp5 hW hS => ?_)
      obtain ⟨rfl, ehp5⟩ := hp5
      rw [ehp5] at hW
      refine lv_aload_n hx hb dX4_follow_19 rfl (lv_at hl 2 rfl) ?_
      refine g_ci (g_runV X (k_X5_size (t := b) ht2l ) (cwV 0 hts gX4_follow_X5_size rfl rfl rfl ⟨rfl, ds_X5_size⟩ ⟨Nat.le_of_ble_eq_true rfl, Nat.le_of_ble_eq_true rfl⟩) hW hS ht2l.2.2.1 rfl rfl hl.1 rfl (Nat.le_of_ble_eq_true rfl) dX4_follow_20 ⟨Nat.le_of_ble_eq_true rfl, Nat.le_of_ble_eq_true rfl⟩) hS (fun r9 C7 H locs hp8 hW hS => ?_)
      obtain ⟨rfl, ehp8⟩ := hp8
      rw [ehp8] at hW
      refine z_iadd hx hb dX4_follow_23 ?_
      refine z_icmp_ge (tgt := 179) hx hb dX4_follow_24 (by decide) (⟨by omega, by omega⟩) (⟨by omega, by omega⟩) (fun h_24 => ?_) (fun h_24 => ?_)
      · obtain ⟨e1, e2, -⟩ := fol_end hfo (by omega) (by omega)
        have e3 : ed a b = sz := (al_length a b).symm.trans ((congrArg List.length e1).trans hsz.2)
        exact kret _ _ _ _ _ _ _ (⟨⟨R0, K, A, by rw [e3]; exact h0l, h1l, h2l, h3l, e2, by rw [e1, e3]; exact hAl⟩, hfl⟩) hW hS (Nat.le_of_ble_eq_true rfl) (Nat.le_of_ble_eq_true rfl) dX4_follow_179
      · refine lv_aload_n hx hb dX4_follow_27 rfl (lv_at hl 1 rfl) ?_
        refine lv_iload_n hx hb dX4_follow_28 rfl (lv_at hl 3 rfl) ?_
        refine g_ci (g_runV X (k_X5_has (t := a) ht1l (a := (i : Int)) (⟨by omega, by omega⟩)) (cwV 1 hts gX4_follow_X5_has rfl rfl rfl ⟨rfl, ds_X5_has⟩ ⟨Nat.le_of_ble_eq_true rfl, Nat.le_of_ble_eq_true rfl⟩) hW hS ht1l.2.2.1 rfl rfl hl.1 rfl (Nat.le_of_ble_eq_true rfl) dX4_follow_29 ⟨Nat.le_of_ble_eq_true rfl, Nat.le_of_ble_eq_true rfl⟩) hS (fun r12 C10 H locs hp11 hW hS => ?_)
        obtain ⟨rfl, ehp11⟩ := hp11
        rw [ehp11] at hW
        refine z_ifb_eq (tgt := 77) hx hb dX4_follow_32 (by decide) (fun h_32 => ?_) (fun h_32 => ?_)
        · refine lv_aload_n hx hb dX4_follow_77 rfl (lv_at hl 1 rfl) ?_
          refine lv_iload_n hx hb dX4_follow_78 rfl (lv_at hl 3 rfl) ?_
          refine g_ci (g_runV X (k_X5_has (t := a) ht1l (a := (i : Int)) (⟨by omega, by omega⟩)) (cwV 1 hts gX4_follow_X5_has rfl rfl rfl ⟨rfl, ds_X5_has⟩ ⟨Nat.le_of_ble_eq_true rfl, Nat.le_of_ble_eq_true rfl⟩) hW hS ht1l.2.2.1 rfl rfl hl.1 rfl (Nat.le_of_ble_eq_true rfl) dX4_follow_79 ⟨Nat.le_of_ble_eq_true rfl, Nat.le_of_ble_eq_true rfl⟩) hS (fun r15 C13 H locs hp14 hW hS => ?_)
          obtain ⟨rfl, ehp14⟩ := hp14
          rw [ehp14] at hW
          refine z_ifb_eq (tgt := 151) hx hb dX4_follow_82 (by decide) (fun h_82 => ?_) (fun h_82 => absurd h_82 (h_32))
          refine lv_aload_n hx hb dX4_follow_151 rfl (lv_at hl 2 rfl) ?_
          refine lv_iload hx hb dX4_follow_152 (lv_at hl 4 rfl) ?_
          refine g_ci (g_runV X (k_X5_has (t := b) ht2l (a := (j : Int)) (⟨by omega, by omega⟩)) (cwV 1 hts gX4_follow_X5_has rfl rfl rfl ⟨rfl, ds_X5_has⟩ ⟨Nat.le_of_ble_eq_true rfl, Nat.le_of_ble_eq_true rfl⟩) hW hS ht2l.2.2.1 rfl rfl hl.1 rfl (Nat.le_of_ble_eq_true rfl) dX4_follow_154 ⟨Nat.le_of_ble_eq_true rfl, Nat.le_of_ble_eq_true rfl⟩) hS (fun r18 C16 H locs hp17 hW hS => ?_)
          obtain ⟨rfl, ehp17⟩ := hp17
          rw [ehp17] at hW
          refine z_ifb_eq (tgt := 173) hx hb dX4_follow_157 (by decide) (fun h_157 => ?_) (fun h_157 => ?_)
          · refine z_iinc (lv' := [(5, .int (zI ((st : Int) + 1))), (0, .ref (B k u)), (1, .ref (B k1 s1)), (2, .ref (B k2 s2)), (3, .int (zI (i : Int))), (4, .int (zI (j : Int)))]) hx hb dX4_follow_173 hl (q := 5) rfl (by decide) rfl (fun ls hl => ?_)
            refine lv_goto (tgt := 13) hx hb dX4_follow_176 (by decide) ?_
            exact ih13 i j (st + 1) sz (K) (A) (pre) (Fm) _ _ _ (by omega) (by omega) (by omega) (⟨by omega, hsz.2⟩) (hfo) (hAl) (h0l) (h2l) (h3l) (fun k' i' h => hfl k' i' h) hW hS _ (lv_sub hl [1, 2, 3, 4, 5, 0] rfl)
          · refine lv_aload_n hx hb dX4_follow_160 rfl (lv_at hl 0 rfl) ?_
            refine lv_aload_n hx hb dX4_follow_161 rfl (lv_at hl 2 rfl) ?_
            refine lv_iload hx hb dX4_follow_162 (lv_at hl 4 rfl) ?_
            refine g_ci (g_runV X (k_X5_at (t := b) ht2l (a := (j : Int)) (⟨by omega, by omega⟩)) (cwV 1 hts gX4_follow_X5_at rfl rfl rfl ⟨rfl, ds_X5_at⟩ ⟨Nat.le_of_ble_eq_true rfl, Nat.le_of_ble_eq_true rfl⟩) hW hS ht2l.2.2.1 rfl rfl hl.1 rfl (Nat.le_of_ble_eq_true rfl) dX4_follow_164 ⟨Nat.le_of_ble_eq_true rfl, Nat.le_of_ble_eq_true rfl⟩) hS (fun r21 C19 H locs hp20 hW hS => ?_)
            obtain ⟨rfl, ehp20⟩ := hp20
            rw [ehp20] at hW
            refine g_cv (g_runV X (k_X4_alter (v := (ta b (j : Int))) h0l h3l (by omega)) (cwV 1 hts gX4_follow_X4_alter rfl rfl rfl ⟨rfl, ds_X4_alter⟩ ⟨Nat.le_of_ble_eq_true rfl, Nat.le_of_ble_eq_true rfl⟩) hW hS h0l rfl rfl hl.1 rfl (Nat.le_of_ble_eq_true rfl) dX4_follow_167 ⟨Nat.le_of_ble_eq_true rfl, Nat.le_of_ble_eq_true rfl⟩) hS (fun C22 H locs hp23 hW hS => ?_)
            obtain ⟨ha24, hb25, hf26⟩ := hp23
            refine z_iinc (lv' := [(4, .int (zI ((j : Int) + 1))), (0, .ref (B k u)), (1, .ref (B k1 s1)), (2, .ref (B k2 s2)), (3, .int (zI (i : Int))), (5, .int (zI (st : Int)))]) hx hb dX4_follow_170 hl (q := 4) rfl (by decide) rfl (fun ls hl => ?_)
            refine z_iinc (lv' := [(5, .int (zI ((st : Int) + 1))), (4, .int (zI ((j : Int) + 1))), (0, .ref (B k u)), (1, .ref (B k1 s1)), (2, .ref (B k2 s2)), (3, .int (zI (i : Int)))]) hx hb dX4_follow_173 hl (q := 5) rfl (by decide) rfl (fun ls hl => ?_)
            refine lv_goto (tgt := 13) hx hb dX4_follow_176 (by decide) ?_
            exact ih13 i (j + 1) (st + 1) (sz + 1) (K) (ju A sz (ta b j)) (pre ++ [b.getD j (-1)]) (ju Fm j (-1)) _ _ _ (by omega) (by omega) (by omega) (⟨by omega, by simp; exact hsz.2⟩) (fol_add hfo (by omega) (Or.inl (by omega))) (by rw [← ta_nat]; exact ju_alt hsz.2 hAl) (ha24) (((hf26 (k + 2) u (by omega)).trans (h2l))) (hb25) (fun k' i' h => (hf26 k' i' (by omega)).trans (hfl k' i' h)) hW hS _ (lv_sub hl [2, 3, 4, 5, 1, 0] rfl)
        · refine lv_aload_n hx hb dX4_follow_35 rfl (lv_at hl 2 rfl) ?_
          refine lv_iload hx hb dX4_follow_36 (lv_at hl 4 rfl) ?_
          refine g_ci (g_runV X (k_X5_has (t := b) ht2l (a := (j : Int)) (⟨by omega, by omega⟩)) (cwV 1 hts gX4_follow_X5_has rfl rfl rfl ⟨rfl, ds_X5_has⟩ ⟨Nat.le_of_ble_eq_true rfl, Nat.le_of_ble_eq_true rfl⟩) hW hS ht2l.2.2.1 rfl rfl hl.1 rfl (Nat.le_of_ble_eq_true rfl) dX4_follow_38 ⟨Nat.le_of_ble_eq_true rfl, Nat.le_of_ble_eq_true rfl⟩) hS (fun r29 C27 H locs hp28 hW hS => ?_)
          obtain ⟨rfl, ehp28⟩ := hp28
          rw [ehp28] at hW
          refine z_ifb_eq (tgt := 77) hx hb dX4_follow_41 (by decide) (fun h_41 => ?_) (fun h_41 => ?_)
          · refine lv_aload_n hx hb dX4_follow_77 rfl (lv_at hl 1 rfl) ?_
            refine lv_iload_n hx hb dX4_follow_78 rfl (lv_at hl 3 rfl) ?_
            refine g_ci (g_runV X (k_X5_has (t := a) ht1l (a := (i : Int)) (⟨by omega, by omega⟩)) (cwV 1 hts gX4_follow_X5_has rfl rfl rfl ⟨rfl, ds_X5_has⟩ ⟨Nat.le_of_ble_eq_true rfl, Nat.le_of_ble_eq_true rfl⟩) hW hS ht1l.2.2.1 rfl rfl hl.1 rfl (Nat.le_of_ble_eq_true rfl) dX4_follow_79 ⟨Nat.le_of_ble_eq_true rfl, Nat.le_of_ble_eq_true rfl⟩) hS (fun r32 C30 H locs hp31 hW hS => ?_)
            obtain ⟨rfl, ehp31⟩ := hp31
            rw [ehp31] at hW
            refine z_ifb_eq (tgt := 151) hx hb dX4_follow_82 (by decide) (fun h_82 => absurd (show 0 ≤ (i : Int) ∧ (i : Int) < (a.length : Int) by omega) h_82) (fun h_82 => ?_)
            refine lv_aload_n hx hb dX4_follow_85 rfl (lv_at hl 2 rfl) ?_
            refine lv_iload hx hb dX4_follow_86 (lv_at hl 4 rfl) ?_
            refine g_ci (g_runV X (k_X5_has (t := b) ht2l (a := (j : Int)) (⟨by omega, by omega⟩)) (cwV 1 hts gX4_follow_X5_has rfl rfl rfl ⟨rfl, ds_X5_has⟩ ⟨Nat.le_of_ble_eq_true rfl, Nat.le_of_ble_eq_true rfl⟩) hW hS ht2l.2.2.1 rfl rfl hl.1 rfl (Nat.le_of_ble_eq_true rfl) dX4_follow_88 ⟨Nat.le_of_ble_eq_true rfl, Nat.le_of_ble_eq_true rfl⟩) hS (fun r35 C33 H locs hp34 hW hS => ?_)
            obtain ⟨rfl, ehp34⟩ := hp34
            rw [ehp34] at hW
            refine z_ifb_eq (tgt := 127) hx hb dX4_follow_91 (by decide) (fun h_91 => ?_) (fun h_91 => absurd h_91 (h_41))
            refine lv_aload_n hx hb dX4_follow_127 rfl (lv_at hl 0 rfl) ?_
            refine g_get (ci := 4) X in_X4_follow_4 rfl hW h0l 1 (by decide) (hts _ (List.mem_of_getElem? (i := 2) rfl)) rfl dX4_follow_128 ?_
            refine lv_iload_n hx hb dX4_follow_131 rfl (lv_at hl 3 rfl) ?_
            refine lv_iconst (v := zI (-1)) hx hb dX4_follow_132 rfl ?_
            refine g_cv (g_runSN X (k_X7_put (a := (i : Int)) (v := (-1)) h2l (by decide) (⟨by omega, by omega⟩)) ⟨va_cnB 3 hts gX4_follow_X7_put_n54 rfl rfl rfl (nmw_15 X.2.2.1) (hts _ (List.mem_of_getElem? (i := 20) rfl)) ds_X7_put ⟨Nat.le_of_ble_eq_true rfl, Nat.le_of_ble_eq_true rfl⟩, hts _ (List.mem_of_getElem? (i := 19) rfl), trivial⟩ hW hS rfl hl.1 rfl (Nat.le_of_ble_eq_true rfl) dX4_follow_133 ⟨Nat.le_of_ble_eq_true rfl, Nat.le_of_ble_eq_true rfl⟩) hS (fun C36 H locs hp37 hW hS => ?_)
            obtain ⟨hs38, hn39⟩ := hp37
            rw [if_pos (show (0 : Int) ≤ (i : Int) ∧ (i : Int) < ((12 : Nat) : Int) from ⟨by omega, by omega⟩)] at hs38
            refine lv_aload_n hx hb dX4_follow_136 rfl (lv_at hl 0 rfl) ?_
            refine lv_aload_n hx hb dX4_follow_137 rfl (lv_at hl 1 rfl) ?_
            refine lv_iload_n hx hb dX4_follow_138 rfl (lv_at hl 3 rfl) ?_
            have ht40 : tx Z B C36 k1 s1 a := (tx.kept ht1l (hn39 k1 s1 (by omega)) (hn39 (k1 + 1) s1 (by omega)))
            refine g_ci (g_runV X (k_X5_at (t := a) ht40 (a := (i : Int)) (⟨by omega, by omega⟩)) (cwV 1 hts gX4_follow_X5_at rfl rfl rfl ⟨rfl, ds_X5_at⟩ ⟨Nat.le_of_ble_eq_true rfl, Nat.le_of_ble_eq_true rfl⟩) hW hS ht40.2.2.1 rfl rfl hl.1 rfl (Nat.le_of_ble_eq_true rfl) dX4_follow_139 ⟨Nat.le_of_ble_eq_true rfl, Nat.le_of_ble_eq_true rfl⟩) hS (fun r43 C41 H locs hp42 hW hS => ?_)
            obtain ⟨rfl, ehp42⟩ := hp42
            rw [ehp42] at hW
            have f44 : C36 k u = some (.inr (4, [.ref (B (k + 1) u), .ref (B (k + 2) u), .ref (B (k + 3) u), .int (zI (sz : Int))])) := ((hn39 k u (by omega)).trans h0l)
            have f45 : C36 (k + 3) u = some (gJ Z 24 A) := ((hn39 (k + 3) u (by omega)).trans h3l)
            refine g_cv (g_runV X (k_X4_alter (v := (ta a (i : Int))) f44 f45 (by omega)) (cwV 1 hts gX4_follow_X4_alter rfl rfl rfl ⟨rfl, ds_X4_alter⟩ ⟨Nat.le_of_ble_eq_true rfl, Nat.le_of_ble_eq_true rfl⟩) hW hS f44 rfl rfl hl.1 rfl (Nat.le_of_ble_eq_true rfl) dX4_follow_142 ⟨Nat.le_of_ble_eq_true rfl, Nat.le_of_ble_eq_true rfl⟩) hS (fun C46 H locs hp47 hW hS => ?_)
            obtain ⟨ha48, hb49, hf50⟩ := hp47
            refine z_iinc (lv' := [(3, .int (zI ((i : Int) + 1))), (0, .ref (B k u)), (1, .ref (B k1 s1)), (2, .ref (B k2 s2)), (4, .int (zI (j : Int))), (5, .int (zI (st : Int)))]) hx hb dX4_follow_145 hl (q := 3) rfl (by decide) rfl (fun ls hl => ?_)
            refine lv_goto (tgt := 173) hx hb dX4_follow_148 (by decide) ?_
            refine z_iinc (lv' := [(5, .int (zI ((st : Int) + 1))), (3, .int (zI ((i : Int) + 1))), (0, .ref (B k u)), (1, .ref (B k1 s1)), (2, .ref (B k2 s2)), (4, .int (zI (j : Int)))]) hx hb dX4_follow_173 hl (q := 5) rfl (by decide) rfl (fun ls hl => ?_)
            refine lv_goto (tgt := 13) hx hb dX4_follow_176 (by decide) ?_
            exact ih13 (i + 1) j (st + 1) (sz + 1) (ju K i (-1)) (ju A sz (ta a i)) (pre ++ [a.getD i (-1)]) (Fm) _ _ _ (by omega) (by omega) (by omega) (⟨by omega, by simp; exact hsz.2⟩) (fol_rem hfo (by omega) (Or.inl (by omega))) (by rw [← ta_nat]; exact ju_alt hsz.2 hAl) (ha48) (((hf50 (k + 2) u (by omega)).trans (hs38))) (hb49) (fun k' i' h => (hf50 k' i' (by omega)).trans ((hn39 k' i' (by omega)).trans (hfl k' i' h))) hW hS _ (lv_sub hl [2, 3, 4, 1, 5, 0] rfl)
          · refine lv_aload_n hx hb dX4_follow_44 rfl (lv_at hl 1 rfl) ?_
            refine lv_iload_n hx hb dX4_follow_45 rfl (lv_at hl 3 rfl) ?_
            refine g_ci (g_runV X (k_X5_at (t := a) ht1l (a := (i : Int)) (⟨by omega, by omega⟩)) (cwV 1 hts gX4_follow_X5_at rfl rfl rfl ⟨rfl, ds_X5_at⟩ ⟨Nat.le_of_ble_eq_true rfl, Nat.le_of_ble_eq_true rfl⟩) hW hS ht1l.2.2.1 rfl rfl hl.1 rfl (Nat.le_of_ble_eq_true rfl) dX4_follow_46 ⟨Nat.le_of_ble_eq_true rfl, Nat.le_of_ble_eq_true rfl⟩) hS (fun r53 C51 H locs hp52 hW hS => ?_)
            obtain ⟨rfl, ehp52⟩ := hp52
            rw [ehp52] at hW
            refine lv_aload_n hx hb dX4_follow_49 rfl (lv_at hl 2 rfl) ?_
            refine lv_iload hx hb dX4_follow_50 (lv_at hl 4 rfl) ?_
            refine g_ci (g_runV X (k_X5_at (t := b) ht2l (a := (j : Int)) (⟨by omega, by omega⟩)) (cwV 1 hts gX4_follow_X5_at rfl rfl rfl ⟨rfl, ds_X5_at⟩ ⟨Nat.le_of_ble_eq_true rfl, Nat.le_of_ble_eq_true rfl⟩) hW hS ht2l.2.2.1 rfl rfl hl.1 rfl (Nat.le_of_ble_eq_true rfl) dX4_follow_52 ⟨Nat.le_of_ble_eq_true rfl, Nat.le_of_ble_eq_true rfl⟩) hS (fun r56 C54 H locs hp55 hW hS => ?_)
            obtain ⟨rfl, ehp55⟩ := hp55
            rw [ehp55] at hW
            refine z_icmp_ne (tgt := 77) hx hb dX4_follow_55 (by decide) (⟨by have := ta_rng ht1.2.1 (i : Int); omega, by have := ta_rng ht1.2.1 (i : Int); omega⟩) (⟨by have := ta_rng ht2.2.1 (j : Int); omega, by have := ta_rng ht2.2.1 (j : Int); omega⟩) (fun h_55 => ?_) (fun h_55 => ?_)
            · refine lv_aload_n hx hb dX4_follow_77 rfl (lv_at hl 1 rfl) ?_
              refine lv_iload_n hx hb dX4_follow_78 rfl (lv_at hl 3 rfl) ?_
              refine g_ci (g_runV X (k_X5_has (t := a) ht1l (a := (i : Int)) (⟨by omega, by omega⟩)) (cwV 1 hts gX4_follow_X5_has rfl rfl rfl ⟨rfl, ds_X5_has⟩ ⟨Nat.le_of_ble_eq_true rfl, Nat.le_of_ble_eq_true rfl⟩) hW hS ht1l.2.2.1 rfl rfl hl.1 rfl (Nat.le_of_ble_eq_true rfl) dX4_follow_79 ⟨Nat.le_of_ble_eq_true rfl, Nat.le_of_ble_eq_true rfl⟩) hS (fun r59 C57 H locs hp58 hW hS => ?_)
              obtain ⟨rfl, ehp58⟩ := hp58
              rw [ehp58] at hW
              refine z_ifb_eq (tgt := 151) hx hb dX4_follow_82 (by decide) (fun h_82 => absurd (show 0 ≤ (i : Int) ∧ (i : Int) < (a.length : Int) by omega) h_82) (fun h_82 => ?_)
              refine lv_aload_n hx hb dX4_follow_85 rfl (lv_at hl 2 rfl) ?_
              refine lv_iload hx hb dX4_follow_86 (lv_at hl 4 rfl) ?_
              refine g_ci (g_runV X (k_X5_has (t := b) ht2l (a := (j : Int)) (⟨by omega, by omega⟩)) (cwV 1 hts gX4_follow_X5_has rfl rfl rfl ⟨rfl, ds_X5_has⟩ ⟨Nat.le_of_ble_eq_true rfl, Nat.le_of_ble_eq_true rfl⟩) hW hS ht2l.2.2.1 rfl rfl hl.1 rfl (Nat.le_of_ble_eq_true rfl) dX4_follow_88 ⟨Nat.le_of_ble_eq_true rfl, Nat.le_of_ble_eq_true rfl⟩) hS (fun r62 C60 H locs hp61 hW hS => ?_)
              obtain ⟨rfl, ehp61⟩ := hp61
              rw [ehp61] at hW
              refine z_ifb_eq (tgt := 127) hx hb dX4_follow_91 (by decide) (fun h_91 => absurd h_41 h_91) (fun h_91 => ?_)
              have hRf1 : R0 (((i : Int) + 1) * 13 + (j : Int)).toNat = (rst a b (i + 1) j : Int) := tb_at hTb (x := (i : Int) + 1) (y := (j : Int)) (by omega) (by omega) (by omega) (by omega) (by omega)
              have hRf2 : R0 ((i : Int) * 13 + ((j : Int) + 1)).toNat = (rst a b i (j + 1) : Int) := tb_at hTb (x := (i : Int)) (y := (j : Int) + 1) (by omega) (by omega) (by omega) (by omega) (by omega)
              have hRg1 := rst_le a b (i + 1) j
              have hRg2 := rst_le a b i (j + 1)
              refine lv_aload_n hx hb dX4_follow_94 rfl (lv_at hl 0 rfl) ?_
              refine g_get (ci := 4) X in_X4_follow_4 rfl hW h0l 0 (by decide) (hts _ (List.mem_of_getElem? (i := 3) rfl)) rfl dX4_follow_95 ?_
              refine lv_iload_n hx hb dX4_follow_98 rfl (lv_at hl 3 rfl) ?_
              refine lv_iconst (v := zI (1)) hx hb dX4_follow_99 rfl ?_
              refine z_iadd hx hb dX4_follow_100 ?_
              refine lv_iload hx hb dX4_follow_101 (lv_at hl 4 rfl) ?_
              refine g_ci (g_runSN X (k_X7_place (a := ((i : Int) + 1)) (b := (j : Int))) ⟨va_cnB 2 hts gX4_follow_X7_place_n45 rfl rfl rfl (nmw_14 X.2.2.1) (hts _ (List.mem_of_getElem? (i := 20) rfl)) ds_X7_place ⟨Nat.le_of_ble_eq_true rfl, Nat.le_of_ble_eq_true rfl⟩, hts _ (List.mem_of_getElem? (i := 22) rfl), trivial⟩ hW hS rfl hl.1 rfl (Nat.le_of_ble_eq_true rfl) dX4_follow_103 ⟨Nat.le_of_ble_eq_true rfl, Nat.le_of_ble_eq_true rfl⟩) hS (fun r65 C63 H locs hp64 hW hS => ?_)
              obtain ⟨rfl, ehp64⟩ := hp64
              rw [ehp64] at hW
              refine g_ci (g_runSN X (k_X7_cell (a := (((i : Int) + 1) * 13 + (j : Int))) h1l (by decide) (⟨by omega, by omega⟩)) ⟨va_cnB 2 hts gX4_follow_X7_cell_n32 rfl rfl rfl (nmw_13 X.2.2.1) (hts _ (List.mem_of_getElem? (i := 20) rfl)) ds_X7_cell ⟨Nat.le_of_ble_eq_true rfl, Nat.le_of_ble_eq_true rfl⟩, hts _ (List.mem_of_getElem? (i := 24) rfl), trivial⟩ hW hS rfl hl.1 rfl (Nat.le_of_ble_eq_true rfl) dX4_follow_106 ⟨Nat.le_of_ble_eq_true rfl, Nat.le_of_ble_eq_true rfl⟩) hS (fun r68 C66 H locs hp67 hW hS => ?_)
              rw [if_pos (show (0 : Int) ≤ (((i : Int) + 1) * 13 + (j : Int)) ∧ (((i : Int) + 1) * 13 + (j : Int)) < ((169 : Nat) : Int) from ⟨by omega, by omega⟩)] at hp67
              obtain ⟨rfl, ehp67⟩ := hp67
              rw [ehp67] at hW
              refine lv_aload_n hx hb dX4_follow_109 rfl (lv_at hl 0 rfl) ?_
              refine g_get (ci := 4) X in_X4_follow_4 rfl hW h0l 0 (by decide) (hts _ (List.mem_of_getElem? (i := 3) rfl)) rfl dX4_follow_110 ?_
              refine lv_iload_n hx hb dX4_follow_113 rfl (lv_at hl 3 rfl) ?_
              refine lv_iload hx hb dX4_follow_114 (lv_at hl 4 rfl) ?_
              refine lv_iconst (v := zI (1)) hx hb dX4_follow_116 rfl ?_
              refine z_iadd hx hb dX4_follow_117 ?_
              refine g_ci (g_runSN X (k_X7_place (a := (i : Int)) (b := ((j : Int) + 1))) ⟨va_cnB 2 hts gX4_follow_X7_place_n45 rfl rfl rfl (nmw_14 X.2.2.1) (hts _ (List.mem_of_getElem? (i := 20) rfl)) ds_X7_place ⟨Nat.le_of_ble_eq_true rfl, Nat.le_of_ble_eq_true rfl⟩, hts _ (List.mem_of_getElem? (i := 22) rfl), trivial⟩ hW hS rfl hl.1 rfl (Nat.le_of_ble_eq_true rfl) dX4_follow_118 ⟨Nat.le_of_ble_eq_true rfl, Nat.le_of_ble_eq_true rfl⟩) hS (fun r71 C69 H locs hp70 hW hS => ?_)
              obtain ⟨rfl, ehp70⟩ := hp70
              rw [ehp70] at hW
              refine g_ci (g_runSN X (k_X7_cell (a := ((i : Int) * 13 + ((j : Int) + 1))) h1l (by decide) (⟨by omega, by omega⟩)) ⟨va_cnB 2 hts gX4_follow_X7_cell_n32 rfl rfl rfl (nmw_13 X.2.2.1) (hts _ (List.mem_of_getElem? (i := 20) rfl)) ds_X7_cell ⟨Nat.le_of_ble_eq_true rfl, Nat.le_of_ble_eq_true rfl⟩, hts _ (List.mem_of_getElem? (i := 24) rfl), trivial⟩ hW hS rfl hl.1 rfl (Nat.le_of_ble_eq_true rfl) dX4_follow_121 ⟨Nat.le_of_ble_eq_true rfl, Nat.le_of_ble_eq_true rfl⟩) hS (fun r74 C72 H locs hp73 hW hS => ?_)
              rw [if_pos (show (0 : Int) ≤ ((i : Int) * 13 + ((j : Int) + 1)) ∧ ((i : Int) * 13 + ((j : Int) + 1)) < ((169 : Nat) : Int) from ⟨by omega, by omega⟩)] at hp73
              obtain ⟨rfl, ehp73⟩ := hp73
              rw [ehp73] at hW
              refine z_icmp_gt (tgt := 151) hx hb dX4_follow_124 (by decide) (⟨by rw [hRf1]; omega, by rw [hRf1]; omega⟩) (⟨by rw [hRf2]; omega, by rw [hRf2]; omega⟩) (fun h_124 => ?_) (fun h_124 => ?_)
              · refine lv_aload_n hx hb dX4_follow_151 rfl (lv_at hl 2 rfl) ?_
                refine lv_iload hx hb dX4_follow_152 (lv_at hl 4 rfl) ?_
                refine g_ci (g_runV X (k_X5_has (t := b) ht2l (a := (j : Int)) (⟨by omega, by omega⟩)) (cwV 1 hts gX4_follow_X5_has rfl rfl rfl ⟨rfl, ds_X5_has⟩ ⟨Nat.le_of_ble_eq_true rfl, Nat.le_of_ble_eq_true rfl⟩) hW hS ht2l.2.2.1 rfl rfl hl.1 rfl (Nat.le_of_ble_eq_true rfl) dX4_follow_154 ⟨Nat.le_of_ble_eq_true rfl, Nat.le_of_ble_eq_true rfl⟩) hS (fun r77 C75 H locs hp76 hW hS => ?_)
                obtain ⟨rfl, ehp76⟩ := hp76
                rw [ehp76] at hW
                refine z_ifb_eq (tgt := 173) hx hb dX4_follow_157 (by decide) (fun h_157 => absurd h_41 h_157) (fun h_157 => ?_)
                refine lv_aload_n hx hb dX4_follow_160 rfl (lv_at hl 0 rfl) ?_
                refine lv_aload_n hx hb dX4_follow_161 rfl (lv_at hl 2 rfl) ?_
                refine lv_iload hx hb dX4_follow_162 (lv_at hl 4 rfl) ?_
                refine g_ci (g_runV X (k_X5_at (t := b) ht2l (a := (j : Int)) (⟨by omega, by omega⟩)) (cwV 1 hts gX4_follow_X5_at rfl rfl rfl ⟨rfl, ds_X5_at⟩ ⟨Nat.le_of_ble_eq_true rfl, Nat.le_of_ble_eq_true rfl⟩) hW hS ht2l.2.2.1 rfl rfl hl.1 rfl (Nat.le_of_ble_eq_true rfl) dX4_follow_164 ⟨Nat.le_of_ble_eq_true rfl, Nat.le_of_ble_eq_true rfl⟩) hS (fun r80 C78 H locs hp79 hW hS => ?_)
                obtain ⟨rfl, ehp79⟩ := hp79
                rw [ehp79] at hW
                refine g_cv (g_runV X (k_X4_alter (v := (ta b (j : Int))) h0l h3l (by omega)) (cwV 1 hts gX4_follow_X4_alter rfl rfl rfl ⟨rfl, ds_X4_alter⟩ ⟨Nat.le_of_ble_eq_true rfl, Nat.le_of_ble_eq_true rfl⟩) hW hS h0l rfl rfl hl.1 rfl (Nat.le_of_ble_eq_true rfl) dX4_follow_167 ⟨Nat.le_of_ble_eq_true rfl, Nat.le_of_ble_eq_true rfl⟩) hS (fun C81 H locs hp82 hW hS => ?_)
                obtain ⟨ha83, hb84, hf85⟩ := hp82
                refine z_iinc (lv' := [(4, .int (zI ((j : Int) + 1))), (0, .ref (B k u)), (1, .ref (B k1 s1)), (2, .ref (B k2 s2)), (3, .int (zI (i : Int))), (5, .int (zI (st : Int)))]) hx hb dX4_follow_170 hl (q := 4) rfl (by decide) rfl (fun ls hl => ?_)
                refine z_iinc (lv' := [(5, .int (zI ((st : Int) + 1))), (4, .int (zI ((j : Int) + 1))), (0, .ref (B k u)), (1, .ref (B k1 s1)), (2, .ref (B k2 s2)), (3, .int (zI (i : Int)))]) hx hb dX4_follow_173 hl (q := 5) rfl (by decide) rfl (fun ls hl => ?_)
                refine lv_goto (tgt := 13) hx hb dX4_follow_176 (by decide) ?_
                exact ih13 i (j + 1) (st + 1) (sz + 1) (K) (ju A sz (ta b j)) (pre ++ [b.getD j (-1)]) (ju Fm j (-1)) _ _ _ (by omega) (by omega) (by omega) (⟨by omega, by simp; exact hsz.2⟩) (fol_add hfo (by omega) (Or.inr ⟨by omega, by rw [← ta_nat, ← ta_nat]; exact h_55, by rw [hRf1, hRf2] at h_124; omega⟩)) (by rw [← ta_nat]; exact ju_alt hsz.2 hAl) (ha83) (((hf85 (k + 2) u (by omega)).trans (h2l))) (hb84) (fun k' i' h => (hf85 k' i' (by omega)).trans (hfl k' i' h)) hW hS _ (lv_sub hl [2, 3, 4, 5, 1, 0] rfl)
              · refine lv_aload_n hx hb dX4_follow_127 rfl (lv_at hl 0 rfl) ?_
                refine g_get (ci := 4) X in_X4_follow_4 rfl hW h0l 1 (by decide) (hts _ (List.mem_of_getElem? (i := 2) rfl)) rfl dX4_follow_128 ?_
                refine lv_iload_n hx hb dX4_follow_131 rfl (lv_at hl 3 rfl) ?_
                refine lv_iconst (v := zI (-1)) hx hb dX4_follow_132 rfl ?_
                refine g_cv (g_runSN X (k_X7_put (a := (i : Int)) (v := (-1)) h2l (by decide) (⟨by omega, by omega⟩)) ⟨va_cnB 3 hts gX4_follow_X7_put_n54 rfl rfl rfl (nmw_15 X.2.2.1) (hts _ (List.mem_of_getElem? (i := 20) rfl)) ds_X7_put ⟨Nat.le_of_ble_eq_true rfl, Nat.le_of_ble_eq_true rfl⟩, hts _ (List.mem_of_getElem? (i := 19) rfl), trivial⟩ hW hS rfl hl.1 rfl (Nat.le_of_ble_eq_true rfl) dX4_follow_133 ⟨Nat.le_of_ble_eq_true rfl, Nat.le_of_ble_eq_true rfl⟩) hS (fun C86 H locs hp87 hW hS => ?_)
                obtain ⟨hs88, hn89⟩ := hp87
                rw [if_pos (show (0 : Int) ≤ (i : Int) ∧ (i : Int) < ((12 : Nat) : Int) from ⟨by omega, by omega⟩)] at hs88
                refine lv_aload_n hx hb dX4_follow_136 rfl (lv_at hl 0 rfl) ?_
                refine lv_aload_n hx hb dX4_follow_137 rfl (lv_at hl 1 rfl) ?_
                refine lv_iload_n hx hb dX4_follow_138 rfl (lv_at hl 3 rfl) ?_
                have ht90 : tx Z B C86 k1 s1 a := (tx.kept ht1l (hn89 k1 s1 (by omega)) (hn89 (k1 + 1) s1 (by omega)))
                refine g_ci (g_runV X (k_X5_at (t := a) ht90 (a := (i : Int)) (⟨by omega, by omega⟩)) (cwV 1 hts gX4_follow_X5_at rfl rfl rfl ⟨rfl, ds_X5_at⟩ ⟨Nat.le_of_ble_eq_true rfl, Nat.le_of_ble_eq_true rfl⟩) hW hS ht90.2.2.1 rfl rfl hl.1 rfl (Nat.le_of_ble_eq_true rfl) dX4_follow_139 ⟨Nat.le_of_ble_eq_true rfl, Nat.le_of_ble_eq_true rfl⟩) hS (fun r93 C91 H locs hp92 hW hS => ?_)
                obtain ⟨rfl, ehp92⟩ := hp92
                rw [ehp92] at hW
                have f94 : C86 k u = some (.inr (4, [.ref (B (k + 1) u), .ref (B (k + 2) u), .ref (B (k + 3) u), .int (zI (sz : Int))])) := ((hn89 k u (by omega)).trans h0l)
                have f95 : C86 (k + 3) u = some (gJ Z 24 A) := ((hn89 (k + 3) u (by omega)).trans h3l)
                refine g_cv (g_runV X (k_X4_alter (v := (ta a (i : Int))) f94 f95 (by omega)) (cwV 1 hts gX4_follow_X4_alter rfl rfl rfl ⟨rfl, ds_X4_alter⟩ ⟨Nat.le_of_ble_eq_true rfl, Nat.le_of_ble_eq_true rfl⟩) hW hS f94 rfl rfl hl.1 rfl (Nat.le_of_ble_eq_true rfl) dX4_follow_142 ⟨Nat.le_of_ble_eq_true rfl, Nat.le_of_ble_eq_true rfl⟩) hS (fun C96 H locs hp97 hW hS => ?_)
                obtain ⟨ha98, hb99, hf100⟩ := hp97
                refine z_iinc (lv' := [(3, .int (zI ((i : Int) + 1))), (0, .ref (B k u)), (1, .ref (B k1 s1)), (2, .ref (B k2 s2)), (4, .int (zI (j : Int))), (5, .int (zI (st : Int)))]) hx hb dX4_follow_145 hl (q := 3) rfl (by decide) rfl (fun ls hl => ?_)
                refine lv_goto (tgt := 173) hx hb dX4_follow_148 (by decide) ?_
                refine z_iinc (lv' := [(5, .int (zI ((st : Int) + 1))), (3, .int (zI ((i : Int) + 1))), (0, .ref (B k u)), (1, .ref (B k1 s1)), (2, .ref (B k2 s2)), (4, .int (zI (j : Int)))]) hx hb dX4_follow_173 hl (q := 5) rfl (by decide) rfl (fun ls hl => ?_)
                refine lv_goto (tgt := 13) hx hb dX4_follow_176 (by decide) ?_
                exact ih13 (i + 1) j (st + 1) (sz + 1) (ju K i (-1)) (ju A sz (ta a i)) (pre ++ [a.getD i (-1)]) (Fm) _ _ _ (by omega) (by omega) (by omega) (⟨by omega, by simp; exact hsz.2⟩) (fol_rem hfo (by omega) (Or.inr ⟨by omega, by rw [← ta_nat, ← ta_nat]; exact h_55, by rw [hRf1, hRf2] at h_124; omega⟩)) (by rw [← ta_nat]; exact ju_alt hsz.2 hAl) (ha98) (((hf100 (k + 2) u (by omega)).trans (hs88))) (hb99) (fun k' i' h => (hf100 k' i' (by omega)).trans ((hn89 k' i' (by omega)).trans (hfl k' i' h))) hW hS _ (lv_sub hl [2, 3, 4, 1, 5, 0] rfl)
            · refine lv_aload_n hx hb dX4_follow_58 rfl (lv_at hl 0 rfl) ?_
              refine g_get (ci := 4) X in_X4_follow_4 rfl hW h0l 1 (by decide) (hts _ (List.mem_of_getElem? (i := 2) rfl)) rfl dX4_follow_59 ?_
              refine lv_iload_n hx hb dX4_follow_62 rfl (lv_at hl 3 rfl) ?_
              refine lv_iload hx hb dX4_follow_63 (lv_at hl 4 rfl) ?_
              refine g_cv (g_runSN X (k_X7_put (a := (i : Int)) (v := (j : Int)) h2l (by decide) (⟨by omega, by omega⟩)) ⟨va_cnB 3 hts gX4_follow_X7_put_n54 rfl rfl rfl (nmw_15 X.2.2.1) (hts _ (List.mem_of_getElem? (i := 20) rfl)) ds_X7_put ⟨Nat.le_of_ble_eq_true rfl, Nat.le_of_ble_eq_true rfl⟩, hts _ (List.mem_of_getElem? (i := 19) rfl), trivial⟩ hW hS rfl hl.1 rfl (Nat.le_of_ble_eq_true rfl) dX4_follow_65 ⟨Nat.le_of_ble_eq_true rfl, Nat.le_of_ble_eq_true rfl⟩) hS (fun C101 H locs hp102 hW hS => ?_)
              obtain ⟨hs103, hn104⟩ := hp102
              rw [if_pos (show (0 : Int) ≤ (i : Int) ∧ (i : Int) < ((12 : Nat) : Int) from ⟨by omega, by omega⟩)] at hs103
              refine z_iinc (lv' := [(3, .int (zI ((i : Int) + 1))), (0, .ref (B k u)), (1, .ref (B k1 s1)), (2, .ref (B k2 s2)), (4, .int (zI (j : Int))), (5, .int (zI (st : Int)))]) hx hb dX4_follow_68 hl (q := 3) rfl (by decide) rfl (fun ls hl => ?_)
              refine z_iinc (lv' := [(4, .int (zI ((j : Int) + 1))), (3, .int (zI ((i : Int) + 1))), (0, .ref (B k u)), (1, .ref (B k1 s1)), (2, .ref (B k2 s2)), (5, .int (zI (st : Int)))]) hx hb dX4_follow_71 hl (q := 4) rfl (by decide) rfl (fun ls hl => ?_)
              refine lv_goto (tgt := 173) hx hb dX4_follow_74 (by decide) ?_
              refine z_iinc (lv' := [(5, .int (zI ((st : Int) + 1))), (4, .int (zI ((j : Int) + 1))), (3, .int (zI ((i : Int) + 1))), (0, .ref (B k u)), (1, .ref (B k1 s1)), (2, .ref (B k2 s2))]) hx hb dX4_follow_173 hl (q := 5) rfl (by decide) rfl (fun ls hl => ?_)
              refine lv_goto (tgt := 13) hx hb dX4_follow_176 (by decide) ?_
              exact ih13 (i + 1) (j + 1) (st + 1) sz (ju K i j) (A) (pre) (ju Fm j i) _ _ _ (by omega) (by omega) (by omega) (⟨by omega, hsz.2⟩) (fol_keep hfo (by omega) (by omega) (by rw [← ta_nat, ← ta_nat]; exact h_55)) (hAl) (((hn104 k u (by omega)).trans (h0l))) (hs103) (((hn104 (k + 3) u (by omega)).trans (h3l))) (fun k' i' h => (hn104 k' i' (by omega)).trans (hfl k' i' h)) hW hS _ (lv_sub hl [3, 4, 5, 2, 1, 0] rfl)
  exact lp13 (a.length + b.length + 1) 0 0 0 0 K0 A0 [] K0 _ _ _ (by omega) (by omega) (by omega) ⟨by omega, rfl⟩ (fol_0 a b K0 K0) (fun q hq => absurd hq (by omega)) hs2 ((hn3 (k + 2) u (by omega)).trans (h2)) ((hn3 (k + 3) u (by omega)).trans (h3)) (fun k' i' h => (hn3 k' i' (by omega))) hW hS _ (lv_sub hl [3, 4, 5, 2, 1, 0] rfl)

theorem ds_X4_find : yX4_find.cls ≠ "java/lang/invoke/MethodHandle" ∧ yX4_find.cls ≠ "java/lang/invoke/VarHandle" ∧ (parseMethodDescriptor yX4_find.desc).map (fun d => d.parameters.length) = some 2 := by decide +kernel
def rX4_find : Room := { frames := 2, cells := 0, slots := 0, locals := 49 }
set_option maxHeartbeats 4000000 in
set_option maxRecDepth 100000 in
theorem k_X4_find {l : Launch} {Z : gZ} {B : gB} {C0 : gC} {k u k1 s1 k2 s2 : Nat} {a b : List Int} (hso : so Z B C0 k u) (ht1 : tx Z B C0 k1 s1 a) (ht2 : tx Z B C0 k2 s2 b) (ha12 : a.length ≤ 12) (hb12 : b.length ≤ 12) (hd1 : ¬ s1 = u ∨ k1 + 1 < k ∨ k + 3 < k1) (hd2 : ¬ s2 = u ∨ k2 + 1 < k ∨ k + 3 < k2) : Met l yX4_find wsX4_find rX4_find (gPc Z B C0 [.ref (B k u), .ref (B k1 s1), .ref (B k2 s2)]) (gQv Z B (fun C1 => sc Z B C1 k u a b ∧ fr4 k u C0 C1)) 0 0 (gA Z) := by
  refine g_ofV (cc := cX4_find) (maxL := 3) (by decide) rfl (Nat.le_of_ble_eq_true rfl) ?_
  intro p e s m args below meth c Q X kret hW hS ls hl
  have hx := X.1.1
  have hb := X.1.2.1
  have hts := X.1.2.2.2.2
  have hl : lv_has ls 3 [(0, .ref (B k u)), (1, .ref (B k1 s1)), (2, .ref (B k2 s2))] := hl
  obtain ⟨n0, R0, K0, A0, h0, h1, h2, h3⟩ := id hso
  refine lv_aload_n hx hb dX4_find_0 rfl (lv_at hl 0 rfl) ?_
  refine lv_aload_n hx hb dX4_find_1 rfl (lv_at hl 1 rfl) ?_
  refine lv_aload_n hx hb dX4_find_2 rfl (lv_at hl 2 rfl) ?_
  refine g_cv (g_runV X (k_X4_fillRests h0 h1 ht1 ht2 (by omega) (by omega) (by omega) (by omega)) (cwV 2 hts gX4_find_X4_fillRests rfl rfl rfl ⟨rfl, ds_X4_fillRests⟩ ⟨Nat.le_of_ble_eq_true rfl, Nat.le_of_ble_eq_true rfl⟩) hW hS h0 rfl rfl hl.1 rfl (Nat.le_of_ble_eq_true rfl) dX4_find_3 ⟨Nat.le_of_ble_eq_true rfl, Nat.le_of_ble_eq_true rfl⟩) hS (fun C1 H locs hp2 hW hS => ?_)
  obtain ⟨⟨R3, hR4, hT5⟩, hf6⟩ := hp2
  refine lv_aload_n hx hb dX4_find_6 rfl (lv_at hl 0 rfl) ?_
  refine lv_aload_n hx hb dX4_find_7 rfl (lv_at hl 1 rfl) ?_
  refine lv_aload_n hx hb dX4_find_8 rfl (lv_at hl 2 rfl) ?_
  have f7 : C1 k u = some (.inr (4, [.ref (B (k + 1) u), .ref (B (k + 2) u), .ref (B (k + 3) u), .int (zI n0)])) := ((hf6 k u (by omega)).trans h0)
  have f8 : C1 (k + 2) u = some (gJ Z 12 K0) := ((hf6 (k + 2) u (by omega)).trans h2)
  have f9 : C1 (k + 3) u = some (gJ Z 24 A0) := ((hf6 (k + 3) u (by omega)).trans h3)
  have ht10 : tx Z B C1 k1 s1 a := (tx.kept ht1 (hf6 k1 s1 (by omega)) (hf6 (k1 + 1) s1 (by omega)))
  have ht11 : tx Z B C1 k2 s2 b := (tx.kept ht2 (hf6 k2 s2 (by omega)) (hf6 (k2 + 1) s2 (by omega)))
  refine g_cv (g_runV X (k_X4_follow f7 hR4 f8 f9 hT5 ht10 ht11 (by omega) (by omega) (by omega) (by omega)) (cwV 2 hts gX4_find_X4_follow rfl rfl rfl ⟨rfl, ds_X4_follow⟩ ⟨Nat.le_of_ble_eq_true rfl, Nat.le_of_ble_eq_true rfl⟩) hW hS f7 rfl rfl hl.1 rfl (Nat.le_of_ble_eq_true rfl) dX4_find_9 ⟨Nat.le_of_ble_eq_true rfl, Nat.le_of_ble_eq_true rfl⟩) hS (fun C12 H locs hp13 hW hS => ?_)
  obtain ⟨hsc14, hf15⟩ := hp13
  exact kret _ _ _ _ _ _ _ (⟨hsc14, fun k' i' h => (hf15 k' i' (by omega)).trans ((hf6 k' i' (by omega)))⟩) hW hS (Nat.le_of_ble_eq_true rfl) (Nat.le_of_ble_eq_true rfl) dX4_find_12
