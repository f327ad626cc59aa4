/-! ANCESTRY: the lines that the rests have in common -/
def tbc (a b : List Int) (R : Nat → Int) (i j : Int) : Prop := ∀ p q : Nat, p ≤ a.length → q ≤ b.length → (i < p ∨ (i = p ∧ j < q)) → 2 * R (p * 13 + q) + (rst a b p q : Int) = ((a.length : Int) - p) + ((b.length : Int) - q)
theorem tbc_init {a b : List Int} {R : Nat → Int} : tbc a b R a.length b.length := fun p q hp hq h => by omega
theorem tbc_row {a b : List Int} {R : Nat → Int} {i : Int} (h : tbc a b R i (-1)) : tbc a b R (i - 1) b.length := fun p q hp hq h1 => h p q hp hq (by omega)
theorem tbc_step {a b : List Int} {R : Nat → Int} {i j v : Int} (hi : 0 ≤ i) (hj : 0 ≤ j) (hjb : j ≤ b.length) (hb : b.length ≤ 12) (h : tbc a b R i j) (hv : 2 * v + (rst a b i.toNat j.toNat : Int) = (a.length - i) + (b.length - j)) : tbc a b (ju R (i * 13 + j).toNat v) i (j - 1) := by
  intro p q hp hq h1
  by_cases he : (p : Int) = i ∧ (q : Int) = j
  · obtain ⟨e1, e2⟩ := he
    subst e1; subst e2
    rw [show ((p : Int) * 13 + (q : Int)).toNat = p * 13 + q by omega, ju_s]
    simpa using hv
  · rw [ju_n (by omega)]
    exact h p q hp hq (by omega)
theorem tbc_at {a b : List Int} {R : Nat → Int} {i j : Int} (h : tbc a b R i j) {x y : Int} (hx : 0 ≤ x) (hxa : x ≤ a.length) (hy : 0 ≤ y) (hyb : y ≤ b.length) (hr : i < x ∨ (i = x ∧ j < y)) : 2 * R (x * 13 + y).toNat + (rst a b x.toNat y.toNat : Int) = (a.length - x) + (b.length - y) := by
  have := h x.toNat y.toNat (by omega) (by omega) (by omega)
  rw [show x.toNat * 13 + y.toNat = (x * 13 + y).toNat by omega] at this
  omega
theorem tbc_rng {a b : List Int} {R : Nat → Int} {i j : Int} (h : tbc a b R i j) (ha : a.length ≤ 12) (hb : b.length ≤ 12) {x y : Int} (hx : 0 ≤ x) (hxa : x ≤ a.length) (hy : 0 ≤ y) (hyb : y ≤ b.length) (hr : i < x ∨ (i = x ∧ j < y)) : -100 ≤ R (x * 13 + y).toNat ∧ R (x * 13 + y).toNat ≤ 100 := by
  have h1 := tbc_at h hx hxa hy hyb hr
  have := rst_le a b x.toNat y.toNat
  omega
theorem tbc_end {a b : List Int} {i j : Int} (hi : 0 ≤ i) (hj : 0 ≤ j) (hia : i ≤ a.length) (hjb : j ≤ b.length) (h : ¬ (0 ≤ i ∧ i < a.length) ∨ ¬ (0 ≤ j ∧ j < b.length)) : 2 * 0 + (rst a b i.toNat j.toNat : Int) = (a.length - i) + (b.length - j) := by
  rcases h with h | h
  · rw [rst_e1 (by omega)]; omega
  · rw [rst_e2 (by omega)]; omega
theorem tbc_eq {a b : List Int} {R : Nat → Int} {i j : Int} (h : tbc a b R i j) (hi : 0 ≤ i) (hj : 0 ≤ j) (hia : i < a.length) (hjb : j < b.length) (e : ta a i = ta b j) : 2 * (1 + R ((i + 1) * 13 + (j + 1)).toNat) + (rst a b i.toNat j.toNat : Int) = (a.length - i) + (b.length - j) := by
  have h1 := tbc_at h (x := i + 1) (y := j + 1) (by omega) (by omega) (by omega) (by omega) (by omega)
  rw [rst_c (i := i.toNat) (j := j.toNat) (by omega) (by omega), if_pos (by rw [ta_lt hi, ta_lt hj] at e; exact e)]
  rw [show (i + 1).toNat = i.toNat + 1 by omega, show (j + 1).toNat = j.toNat + 1 by omega] at h1
  omega
theorem tbc_ne {a b : List Int} {R : Nat → Int} {i j : Int} (h : tbc a b R i j) (hi : 0 ≤ i) (hj : 0 ≤ j) (hia : i < a.length) (hjb : j < b.length) (e : ¬ ta a i = ta b j) : 2 * (max (R ((i + 1) * 13 + j).toNat) (R (i * 13 + (j + 1)).toNat)) + (rst a b i.toNat j.toNat : Int) = (a.length - i) + (b.length - j) := by
  have h1 := tbc_at h (x := i + 1) (y := j) (by omega) (by omega) (by omega) (by omega) (by omega)
  have h2 := tbc_at h (x := i) (y := j + 1) (by omega) (by omega) (by omega) (by omega) (by omega)
  rw [rst_c (i := i.toNat) (j := j.toNat) (by omega) (by omega), if_neg (by rw [ta_lt hi, ta_lt hj] at e; exact e)]
  rw [show (i + 1).toNat = i.toNat + 1 by omega] at h1
  rw [show (j + 1).toNat = j.toNat + 1 by omega] at h2
  omega
def ao (Z : gZ) (B : gB) (C : gC) (k u : Nat) : Prop := ∃ R : Nat → Int, C k u = some (.inr (0, [.ref (B (k + 1) u)])) ∧ C (k + 1) u = some (gJ Z 169 R)
theorem ao.kept {Z : gZ} {B : gB} {C C' : gC} {k u : Nat} (h : ao Z B C k u) (h0 : C' k u = C k u) (h1 : C' (k + 1) u = C (k + 1) u) : ao Z B C' k u := by
  obtain ⟨R, a1, a2⟩ := h
  exact ⟨R, h0.trans a1, h1.trans a2⟩
theorem kf_hit {a b : List Int} {i j : Nat} {pre : List Int} {K Fm : Nat → Int} (h : fol a b i j pre K Fm) (hi : i < a.length) (hj : j < b.length) (e : a.getD i (-1) = b.getD j (-1)) : kf a b j = some i := by
  have := h.2.2.2.1 0
  rw [drop_c hi, drop_c hj, kf_cc, if_pos e, if_pos rfl] at this
  simpa using this
theorem kf_past {a b : List Int} {i j : Nat} {pre : List Int} {K Fm : Nat → Int} (h : fol a b i j pre K Fm) (hi : a.length ≤ i) (r : Nat) : kf a b (j + r) = none := by
  have := h.2.2.2.1 r
  rw [List.drop_eq_nil_of_le hi, kf_n1] at this
  simpa using this
theorem kf_add {a b : List Int} {i j : Nat} {pre : List Int} {K Fm : Nat → Int} (h : fol a b i (j + 1) pre K (ju Fm j (-1))) : kf a b j = none := by
  have := h.2.1 j (by omega)
  rw [ju_s] at this
  cases hk : kf a b j with
  | none => rfl
  | some q => rw [hk] at this; simp [enc] at this

theorem ds_X0_countCommons : yX0_countCommons.cls ≠ "java/lang/invoke/MethodHandle" ∧ yX0_countCommons.cls ≠ "java/lang/invoke/VarHandle" ∧ (parseMethodDescriptor yX0_countCommons.desc).map (fun d => d.parameters.length) = some 2 := by decide +kernel
theorem in_X0_countCommons_0 : ∀ w ∈ wsX00, w ∈ wsX0_countCommons := by decide +kernel
def rX0_countCommons : Room := { frames := 1, cells := 0, slots := 0, locals := 22 }
set_option maxHeartbeats 4000000 in
set_option maxRecDepth 100000 in
theorem k_X0_countCommons {l : Launch} {Z : gZ} {B : gB} {C0 : gC} {k u k1 s1 k2 s2 : Nat} {a b : List Int} {R0 : Nat → Int} (h0 : C0 k u = some (.inr (0, [.ref (B (k + 1) u)]))) (h1 : C0 (k + 1) u = some (gJ Z 169 R0)) (ht1 : tx Z B C0 k1 s1 a) (ht2 : tx Z B C0 k2 s2 b) (ha12 : a.length ≤ 12) (hb12 : b.length ≤ 12) (hd1 : ¬ s1 = u ∨ k1 + 1 < k ∨ k + 1 < k1) (hd2 : ¬ s2 = u ∨ k2 + 1 < k ∨ k + 1 < k2) : Met l yX0_countCommons wsX0_countCommons rX0_countCommons (gPc Z B C0 [.ref (B k u), .ref (B k1 s1), .ref (B k2 s2)]) (gQv Z B (fun C1 => (∃ R, C1 (k + 1) u = some (gJ Z 169 R) ∧ tbc a b R (-1) b.length) ∧ ∀ k' i', ¬ (k' = k + 1 ∧ i' = u) → C1 k' i' = C0 k' i')) 0 0 (gA Z) := by
  refine g_ofV (cc := cX0_countCommons) (maxL := 6) (by decide) rfl (Nat.le_of_ble_eq_true rfl) ?_
  intro p e s m args below meth c Q X kret hW hS ls hl
  have hx := X.1.1
  have hb := X.1.2.1
  have hts := X.1.2.2.2.2
  have hl : lv_has ls 6 [(0, .ref (B k u)), (1, .ref (B k1 s1)), (2, .ref (B k2 s2))] := hl
  refine lv_aload_n hx hb dX0_countCommons_0 rfl (lv_at hl 1 rfl) ?_
  refine g_ci (g_runV X (k_X5_size (t := a) ht1 ) (cwV 0 hts gX0_countCommons_X5_size rfl rfl rfl ⟨rfl, ds_X5_size⟩ ⟨Nat.le_of_ble_eq_true rfl, Nat.le_of_ble_eq_true rfl⟩) hW hS ht1.2.2.1 rfl rfl hl.1 rfl (Nat.le_of_ble_eq_true rfl) dX0_countCommons_1 ⟨Nat.le_of_ble_eq_true rfl, Nat.le_of_ble_eq_true rfl⟩) hS (fun r3 C1 H locs hp2 hW hS => ?_)
  obtain ⟨rfl, ehp2⟩ := hp2
  rw [ehp2] at hW
  refine lv_istore_n (lv' := [(3, .int (zI (a.length : Int))), (0, .ref (B k u)), (1, .ref (B k1 s1)), (2, .ref (B k2 s2))]) hx hb dX0_countCommons_4 rfl hl (by decide) rfl (fun ls hl => ?_)
  have lp5 : ∀ (n : Nat) (i : Int) (R : Nat → Int) (Cl : gC) (H : Heap) (locs : List Loc), (i + 1 < (n : Int)) → (-1 ≤ i ∧ i ≤ a.length) → (tbc a b R i b.length) → (Cl (k + 1) u = some (gJ Z 169 R)) → (∀ k' i', ¬ (k' = k + 1 ∧ i' = u) → Cl k' i' = C0 k' i') → gw Z B Cl H → va_S (gA Z) s.heap H locs → ∀ ls : Array Slot, lv_has ls 6 [(0, .ref (B k u)), (1, .ref (B k1 s1)), (2, .ref (B k2 s2)), (3, .int (zI i))] → W p l e rX0_countCommons s m args below meth c H locs 0 0 Q (F0 m 5 ls []) := by
    intro n
    induction n with
    | zero =>
      intro i R Cl H locs hm hi hTl hRl hfl hW hS ls hl
      exact absurd hm (by omega)
    | succ n ih5 =>
      intro i R Cl H locs hm hi hTl hRl hfl hW hS ls hl
      have h0l := (hfl _ _ (by omega)).trans h0
      have ht1l := tx.kept ht1 (hfl k1 s1 (by omega)) (hfl (k1 + 1) s1 (by omega))
      have ht2l := tx.kept ht2 (hfl k2 s2 (by omega)) (hfl (k2 + 1) s2 (by omega))
      refine lv_iload_n hx hb dX0_countCommons_5 rfl (lv_at hl 3 rfl) ?_
      refine z_if_lt (tgt := 138) hx hb dX0_countCommons_6 (by decide) (⟨by omega, by omega⟩) (fun h_6 => ?_) (fun h_6 => ?_)
      · exact kret _ _ _ _ _ _ _ (⟨⟨R, hRl, (show i = -1 by omega) ▸ hTl⟩, hfl⟩) hW hS (Nat.le_of_ble_eq_true rfl) (Nat.le_of_ble_eq_true rfl) dX0_countCommons_138
      · refine lv_aload_n hx hb dX0_countCommons_9 rfl (lv_at hl 2 rfl) ?_
        refine g_ci (g_runV X (k_X5_size (t := b) ht2l ) (cwV 0 hts gX0_countCommons_X5_size rfl rfl rfl ⟨rfl, ds_X5_size⟩ ⟨Nat.le_of_ble_eq_true rfl, Nat.le_of_ble_eq_true rfl⟩) hW hS ht2l.2.2.1 rfl rfl hl.1 rfl (Nat.le_of_ble_eq_true rfl) dX0_countCommons_10 ⟨Nat.le_of_ble_eq_true rfl, Nat.le_of_ble_eq_true rfl⟩) hS (fun r6 C4 H locs hp5 hW hS => ?_)
        obtain ⟨rfl, ehp5⟩ := hp5
        rw [ehp5] at hW
        refine lv_istore (lv' := [(4, .int (zI (b.length : Int))), (0, .ref (B k u)), (1, .ref (B k1 s1)), (2, .ref (B k2 s2)), (3, .int (zI i))]) hx hb dX0_countCommons_13 hl (by decide) rfl (fun ls hl => ?_)
        have lp15 : ∀ (n : Nat) (j : Int) (R : Nat → Int) (Cl : gC) (H : Heap) (locs : List Loc), (j + 1 < (n : Int)) → (-1 ≤ j ∧ j ≤ b.length) → (tbc a b R i j) → (Cl (k + 1) u = some (gJ Z 169 R)) → (∀ k' i', ¬ (k' = k + 1 ∧ i' = u) → Cl k' i' = C0 k' i') → gw Z B Cl H → va_S (gA Z) s.heap H locs → ∀ ls : Array Slot, lv_has ls 6 [(0, .ref (B k u)), (1, .ref (B k1 s1)), (2, .ref (B k2 s2)), (3, .int (zI i)), (4, .int (zI j))] → W p l e rX0_countCommons s m args below meth c H locs 0 0 Q (F0 m 15 ls []) := by
          intro n
          induction n with
          | zero =>
            intro j R Cl H locs hm hj hTl hRl hfl hW hS ls hl
            exact absurd hm (by omega)
          | succ n ih15 =>
            intro j R Cl H locs hm hj hTl hRl hfl hW hS ls hl
            have h0l := (hfl _ _ (by omega)).trans h0
            have ht1l := tx.kept ht1 (hfl k1 s1 (by omega)) (hfl (k1 + 1) s1 (by omega))
            have ht2l := tx.kept ht2 (hfl k2 s2 (by omega)) (hfl (k2 + 1) s2 (by omega))
            refine lv_iload hx hb dX0_countCommons_15 (lv_at hl 4 rfl) ?_
            refine z_if_lt (tgt := 132) hx hb dX0_countCommons_17 (by decide) (⟨by omega, by omega⟩) (fun h_17 => ?_) (fun h_17 => ?_)
            · refine z_iinc (lv' := [(3, .int (zI (i + (-1)))), (0, .ref (B k u)), (1, .ref (B k1 s1)), (2, .ref (B k2 s2)), (4, .int (zI j))]) hx hb dX0_countCommons_132 hl (q := 3) rfl (by decide) rfl (fun ls hl => ?_)
              refine lv_goto (tgt := 5) hx hb dX0_countCommons_135 (by decide) ?_
              exact ih5 (i + -1) R _ _ _ (by omega) (by omega) (tbc_row ((show j = -1 by omega) ▸ hTl)) hRl hfl hW hS _ (lv_sub hl [1, 2, 3, 0] rfl)
            · refine lv_iconst (v := zI (0)) hx hb dX0_countCommons_20 rfl ?_
              refine lv_istore (lv' := [(5, .int (zI 0)), (0, .ref (B k u)), (1, .ref (B k1 s1)), (2, .ref (B k2 s2)), (3, .int (zI i)), (4, .int (zI j))]) hx hb dX0_countCommons_21 hl (by decide) rfl (fun ls hl => ?_)
              refine lv_aload_n hx hb dX0_countCommons_23 rfl (lv_at hl 2 rfl) ?_
              refine lv_iload_n hx hb dX0_countCommons_24 rfl (lv_at hl 4 rfl) ?_
              refine g_ci (g_runV X (k_X5_has (t := a) ht1l (a := i) (⟨by omega, by omega⟩)) (cwV 1 hts gX0_countCommons_X5_has rfl rfl rfl ⟨rfl, ds_X5_has⟩ ⟨Nat.le_of_ble_eq_true rfl, Nat.le_of_ble_eq_true rfl⟩) hW hS ht1l.2.2.1 rfl rfl hl.1 rfl (Nat.le_of_ble_eq_true rfl) dX0_countCommons_25 ⟨Nat.le_of_ble_eq_true rfl, Nat.le_of_ble_eq_true rfl⟩) hS (fun r9 C7 H locs hp8 hW hS => ?_)
              obtain ⟨rfl, ehp8⟩ := hp8
              rw [ehp8] at hW
              refine z_ifb_eq (tgt := 111) hx hb dX0_countCommons_28 (by decide) (fun h_28 => ?_) (fun h_28 => ?_)
              · refine lv_aload_n hx hb dX0_countCommons_111 rfl (lv_at hl 1 rfl) ?_
                refine g_get (ci := 0) X in_X0_countCommons_0 rfl hW h0l 0 (by decide) (hts _ (List.mem_of_getElem? (i := 1) rfl)) rfl dX0_countCommons_112 ?_
                refine lv_iload_n hx hb dX0_countCommons_115 rfl (lv_at hl 4 rfl) ?_
                refine lv_iload hx hb dX0_countCommons_116 (lv_at hl 5 rfl) ?_
                refine g_ci (g_runSN X (k_X7_place (a := i) (b := j)) ⟨va_cnB 2 hts gX0_countCommons_X7_place_n33 rfl rfl rfl (nmw_5 X.2.2.1) (hts _ (List.mem_of_getElem? (i := 22) rfl)) ds_X7_place ⟨Nat.le_of_ble_eq_true rfl, Nat.le_of_ble_eq_true rfl⟩, hts _ (List.mem_of_getElem? (i := 21) rfl), trivial⟩ hW hS rfl hl.1 rfl (Nat.le_of_ble_eq_true rfl) dX0_countCommons_118 ⟨Nat.le_of_ble_eq_true rfl, Nat.le_of_ble_eq_true rfl⟩) hS (fun r12 C10 H locs hp11 hW hS => ?_)
                obtain ⟨rfl, ehp11⟩ := hp11
                rw [ehp11] at hW
                refine lv_iload hx hb dX0_countCommons_121 (lv_at hl 0 rfl) ?_
                refine g_cv (g_runSN X (k_X7_put (a := (i * 13 + j)) (v := 0) hRl (by decide) (⟨by omega, by omega⟩)) ⟨va_cnB 3 hts gX0_countCommons_X7_put_n46 rfl rfl rfl (nmw_7 X.2.2.1) (hts _ (List.mem_of_getElem? (i := 22) rfl)) ds_X7_put ⟨Nat.le_of_ble_eq_true rfl, Nat.le_of_ble_eq_true rfl⟩, hts _ (List.mem_of_getElem? (i := 26) rfl), trivial⟩ hW hS rfl hl.1 rfl (Nat.le_of_ble_eq_true rfl) dX0_countCommons_123 ⟨Nat.le_of_ble_eq_true rfl, Nat.le_of_ble_eq_true rfl⟩) hS (fun C13 H locs hp14 hW hS => ?_)
                obtain ⟨hs15, hn16⟩ := hp14
                rw [if_pos (show (0 : Int) ≤ (i * 13 + j) ∧ (i * 13 + j) < ((169 : Nat) : Int) from ⟨by omega, by omega⟩)] at hs15
                refine z_iinc (lv' := [(4, .int (zI (j + (-1)))), (5, .int (zI 0)), (0, .ref (B k u)), (1, .ref (B k1 s1)), (2, .ref (B k2 s2)), (3, .int (zI i))]) hx hb dX0_countCommons_126 hl (q := 5) rfl (by decide) rfl (fun ls hl => ?_)
                refine lv_goto (tgt := 15) hx hb dX0_countCommons_129 (by decide) ?_
                exact ih15 (j + -1) (ju R (i * 13 + j).toNat 0) _ _ _ (by omega) (by omega) (tbc_step h_6 h_17 hj.2 hb12 hTl (tbc_end h_6 h_17 hi.2 hj.2 (Or.inl h_28))) hs15 (fun k' i' h => (hn16 k' i' h).trans (hfl k' i' h)) hW hS _ (lv_sub hl [2, 3, 4, 5, 0] rfl)
              · refine lv_aload_n hx hb dX0_countCommons_31 rfl (lv_at hl 3 rfl) ?_
                refine lv_iload hx hb dX0_countCommons_32 (lv_at hl 5 rfl) ?_
                refine g_ci (g_runV X (k_X5_has (t := b) ht2l (a := j) (⟨by omega, by omega⟩)) (cwV 1 hts gX0_countCommons_X5_has rfl rfl rfl ⟨rfl, ds_X5_has⟩ ⟨Nat.le_of_ble_eq_true rfl, Nat.le_of_ble_eq_true rfl⟩) hW hS ht2l.2.2.1 rfl rfl hl.1 rfl (Nat.le_of_ble_eq_true rfl) dX0_countCommons_34 ⟨Nat.le_of_ble_eq_true rfl, Nat.le_of_ble_eq_true rfl⟩) hS (fun r19 C17 H locs hp18 hW hS => ?_)
                obtain ⟨rfl, ehp18⟩ := hp18
                rw [ehp18] at hW
                refine z_ifb_eq (tgt := 111) hx hb dX0_countCommons_37 (by decide) (fun h_37 => ?_) (fun h_37 => ?_)
                · refine lv_aload_n hx hb dX0_countCommons_111 rfl (lv_at hl 1 rfl) ?_
                  refine g_get (ci := 0) X in_X0_countCommons_0 rfl hW h0l 0 (by decide) (hts _ (List.mem_of_getElem? (i := 1) rfl)) rfl dX0_countCommons_112 ?_
                  refine lv_iload_n hx hb dX0_countCommons_115 rfl (lv_at hl 4 rfl) ?_
                  refine lv_iload hx hb dX0_countCommons_116 (lv_at hl 5 rfl) ?_
                  refine g_ci (g_runSN X (k_X7_place (a := i) (b := j)) ⟨va_cnB 2 hts gX0_countCommons_X7_place_n33 rfl rfl rfl (nmw_5 X.2.2.1) (hts _ (List.mem_of_getElem? (i := 22) rfl)) ds_X7_place ⟨Nat.le_of_ble_eq_true rfl, Nat.le_of_ble_eq_true rfl⟩, hts _ (List.mem_of_getElem? (i := 21) rfl), trivial⟩ hW hS rfl hl.1 rfl (Nat.le_of_ble_eq_true rfl) dX0_countCommons_118 ⟨Nat.le_of_ble_eq_true rfl, Nat.le_of_ble_eq_true rfl⟩) hS (fun r22 C20 H locs hp21 hW hS => ?_)
                  obtain ⟨rfl, ehp21⟩ := hp21
                  rw [ehp21] at hW
                  refine lv_iload hx hb dX0_countCommons_121 (lv_at hl 0 rfl) ?_
                  refine g_cv (g_runSN X (k_X7_put (a := (i * 13 + j)) (v := 0) hRl (by decide) (⟨by omega, by omega⟩)) ⟨va_cnB 3 hts gX0_countCommons_X7_put_n46 rfl rfl rfl (nmw_7 X.2.2.1) (hts _ (List.mem_of_getElem? (i := 22) rfl)) ds_X7_put ⟨Nat.le_of_ble_eq_true rfl, Nat.le_of_ble_eq_true rfl⟩, hts _ (List.mem_of_getElem? (i := 26) rfl), trivial⟩ hW hS rfl hl.1 rfl (Nat.le_of_ble_eq_true rfl) dX0_countCommons_123 ⟨Nat.le_of_ble_eq_true rfl, Nat.le_of_ble_eq_true rfl⟩) hS (fun C23 H locs hp24 hW hS => ?_)
                  obtain ⟨hs25, hn26⟩ := hp24
                  rw [if_pos (show (0 : Int) ≤ (i * 13 + j) ∧ (i * 13 + j) < ((169 : Nat) : Int) from ⟨by omega, by omega⟩)] at hs25
                  refine z_iinc (lv' := [(4, .int (zI (j + (-1)))), (5, .int (zI 0)), (0, .ref (B k u)), (1, .ref (B k1 s1)), (2, .ref (B k2 s2)), (3, .int (zI i))]) hx hb dX0_countCommons_126 hl (q := 5) rfl (by decide) rfl (fun ls hl => ?_)
                  refine lv_goto (tgt := 15) hx hb dX0_countCommons_129 (by decide) ?_
                  exact ih15 (j + -1) (ju R (i * 13 + j).toNat 0) _ _ _ (by omega) (by omega) (tbc_step h_6 h_17 hj.2 hb12 hTl (tbc_end h_6 h_17 hi.2 hj.2 (Or.inr h_37))) hs25 (fun k' i' h => (hn26 k' i' h).trans (hfl k' i' h)) hW hS _ (lv_sub hl [2, 3, 4, 5, 0] rfl)
                · refine lv_aload_n hx hb dX0_countCommons_40 rfl (lv_at hl 2 rfl) ?_
                  refine lv_iload_n hx hb dX0_countCommons_41 rfl (lv_at hl 4 rfl) ?_
                  refine g_ci (g_runV X (k_X5_at (t := a) ht1l (a := i) (⟨by omega, by omega⟩)) (cwV 1 hts gX0_countCommons_X5_at rfl rfl rfl ⟨rfl, ds_X5_at⟩ ⟨Nat.le_of_ble_eq_true rfl, Nat.le_of_ble_eq_true rfl⟩) hW hS ht1l.2.2.1 rfl rfl hl.1 rfl (Nat.le_of_ble_eq_true rfl) dX0_countCommons_42 ⟨Nat.le_of_ble_eq_true rfl, Nat.le_of_ble_eq_true rfl⟩) hS (fun r29 C27 H locs hp28 hW hS => ?_)
                  obtain ⟨rfl, ehp28⟩ := hp28
                  rw [ehp28] at hW
                  refine lv_aload_n hx hb dX0_countCommons_45 rfl (lv_at hl 3 rfl) ?_
                  refine lv_iload hx hb dX0_countCommons_46 (lv_at hl 5 rfl) ?_
                  refine g_ci (g_runV X (k_X5_at (t := b) ht2l (a := j) (⟨by omega, by omega⟩)) (cwV 1 hts gX0_countCommons_X5_at rfl rfl rfl ⟨rfl, ds_X5_at⟩ ⟨Nat.le_of_ble_eq_true rfl, Nat.le_of_ble_eq_true rfl⟩) hW hS ht2l.2.2.1 rfl rfl hl.1 rfl (Nat.le_of_ble_eq_true rfl) dX0_countCommons_48 ⟨Nat.le_of_ble_eq_true rfl, Nat.le_of_ble_eq_true rfl⟩) hS (fun r32 C30 H locs hp31 hW hS => ?_)
                  obtain ⟨rfl, ehp31⟩ := hp31
                  rw [ehp31] at hW
                  refine z_icmp_ne (tgt := 76) hx hb dX0_countCommons_51 (by decide) (⟨by have := ta_rng ht1.2.1 i; omega, by have := ta_rng ht1.2.1 i; omega⟩) (⟨by have := ta_rng ht2.2.1 j; omega, by have := ta_rng ht2.2.1 j; omega⟩) (fun h_51 => ?_) (fun h_51 => ?_)
                  · refine lv_aload_n hx hb dX0_countCommons_76 rfl (lv_at hl 1 rfl) ?_
                    refine g_get (ci := 0) X in_X0_countCommons_0 rfl hW h0l 0 (by decide) (hts _ (List.mem_of_getElem? (i := 1) rfl)) rfl dX0_countCommons_77 ?_
                    refine lv_iload_n hx hb dX0_countCommons_80 rfl (lv_at hl 4 rfl) ?_
                    refine lv_iconst (v := zI (1)) hx hb dX0_countCommons_81 rfl ?_
                    refine z_iadd hx hb dX0_countCommons_82 ?_
                    refine lv_iload hx hb dX0_countCommons_83 (lv_at hl 5 rfl) ?_
                    refine g_ci (g_runSN X (k_X7_place (a := (i + 1)) (b := j)) ⟨va_cnB 2 hts gX0_countCommons_X7_place_n33 rfl rfl rfl (nmw_5 X.2.2.1) (hts _ (List.mem_of_getElem? (i := 22) rfl)) ds_X7_place ⟨Nat.le_of_ble_eq_true rfl, Nat.le_of_ble_eq_true rfl⟩, hts _ (List.mem_of_getElem? (i := 21) rfl), trivial⟩ hW hS rfl hl.1 rfl (Nat.le_of_ble_eq_true rfl) dX0_countCommons_85 ⟨Nat.le_of_ble_eq_true rfl, Nat.le_of_ble_eq_true rfl⟩) hS (fun r35 C33 H locs hp34 hW hS => ?_)
                    obtain ⟨rfl, ehp34⟩ := hp34
                    rw [ehp34] at hW
                    refine g_ci (g_runSN X (k_X7_cell (a := ((i + 1) * 13 + j)) hRl (by decide) (⟨by omega, by omega⟩)) ⟨va_cnB 2 hts gX0_countCommons_X7_cell_n37 rfl rfl rfl (nmw_6 X.2.2.1) (hts _ (List.mem_of_getElem? (i := 22) rfl)) ds_X7_cell ⟨Nat.le_of_ble_eq_true rfl, Nat.le_of_ble_eq_true rfl⟩, hts _ (List.mem_of_getElem? (i := 24) rfl), trivial⟩ hW hS rfl hl.1 rfl (Nat.le_of_ble_eq_true rfl) dX0_countCommons_88 ⟨Nat.le_of_ble_eq_true rfl, Nat.le_of_ble_eq_true rfl⟩) hS (fun r38 C36 H locs hp37 hW hS => ?_)
                    rw [if_pos (show (0 : Int) ≤ ((i + 1) * 13 + j) ∧ ((i + 1) * 13 + j) < ((169 : Nat) : Int) from ⟨by omega, by omega⟩)] at hp37
                    obtain ⟨rfl, ehp37⟩ := hp37
                    rw [ehp37] at hW
                    refine lv_aload_n hx hb dX0_countCommons_91 rfl (lv_at hl 1 rfl) ?_
                    refine g_get (ci := 0) X in_X0_countCommons_0 rfl hW h0l 0 (by decide) (hts _ (List.mem_of_getElem? (i := 1) rfl)) rfl dX0_countCommons_92 ?_
                    refine lv_iload_n hx hb dX0_countCommons_95 rfl (lv_at hl 4 rfl) ?_
                    refine lv_iload hx hb dX0_countCommons_96 (lv_at hl 5 rfl) ?_
                    refine lv_iconst (v := zI (1)) hx hb dX0_countCommons_98 rfl ?_
                    refine z_iadd hx hb dX0_countCommons_99 ?_
                    refine g_ci (g_runSN X (k_X7_place (a := i) (b := (j + 1))) ⟨va_cnB 2 hts gX0_countCommons_X7_place_n33 rfl rfl rfl (nmw_5 X.2.2.1) (hts _ (List.mem_of_getElem? (i := 22) rfl)) ds_X7_place ⟨Nat.le_of_ble_eq_true rfl, Nat.le_of_ble_eq_true rfl⟩, hts _ (List.mem_of_getElem? (i := 21) rfl), trivial⟩ hW hS rfl hl.1 rfl (Nat.le_of_ble_eq_true rfl) dX0_countCommons_100 ⟨Nat.le_of_ble_eq_true rfl, Nat.le_of_ble_eq_true rfl⟩) hS (fun r41 C39 H locs hp40 hW hS => ?_)
                    obtain ⟨rfl, ehp40⟩ := hp40
                    rw [ehp40] at hW
                    refine g_ci (g_runSN X (k_X7_cell (a := (i * 13 + (j + 1))) hRl (by decide) (⟨by omega, by omega⟩)) ⟨va_cnB 2 hts gX0_countCommons_X7_cell_n37 rfl rfl rfl (nmw_6 X.2.2.1) (hts _ (List.mem_of_getElem? (i := 22) rfl)) ds_X7_cell ⟨Nat.le_of_ble_eq_true rfl, Nat.le_of_ble_eq_true rfl⟩, hts _ (List.mem_of_getElem? (i := 24) rfl), trivial⟩ hW hS rfl hl.1 rfl (Nat.le_of_ble_eq_true rfl) dX0_countCommons_103 ⟨Nat.le_of_ble_eq_true rfl, Nat.le_of_ble_eq_true rfl⟩) hS (fun r44 C42 H locs hp43 hW hS => ?_)
                    rw [if_pos (show (0 : Int) ≤ (i * 13 + (j + 1)) ∧ (i * 13 + (j + 1)) < ((169 : Nat) : Int) from ⟨by omega, by omega⟩)] at hp43
                    obtain ⟨rfl, ehp43⟩ := hp43
                    rw [ehp43] at hW
                    refine va_mmax hx hb (X.1.2.2.1.trans hl.1.symm) X.1.2.2.2.1 (hts _ (List.mem_of_getElem? (i := 2) rfl)) (hts _ (List.mem_of_getElem? (i := 3) rfl)) (hts _ (List.mem_of_getElem? (i := 4) rfl)) (hts _ (List.mem_of_getElem? (i := 5) rfl)) (Nat.le_of_ble_eq_true rfl) (Nat.le_of_ble_eq_true rfl) (Nat.le_of_ble_eq_true rfl) (Nat.le_of_ble_eq_true rfl) dX0_countCommons_106 ?_
                    rw [z_max (by have := tbc_rng hTl ha12 hb12 (x := i + 1) (y := j) (by omega) (by omega) (by omega) (by omega) (by omega); exact ⟨by omega, by omega⟩) (by have := tbc_rng hTl ha12 hb12 (x := i) (y := j + 1) (by omega) (by omega) (by omega) (by omega) (by omega); exact ⟨by omega, by omega⟩)]
                    refine lv_istore (lv' := [(5, .int (zI (max (R ((i + 1) * 13 + j).toNat) (R (i * 13 + (j + 1)).toNat)))), (0, .ref (B k u)), (1, .ref (B k1 s1)), (2, .ref (B k2 s2)), (3, .int (zI i)), (4, .int (zI j))]) hx hb dX0_countCommons_109 hl (by decide) rfl (fun ls hl => ?_)
                    refine lv_aload_n hx hb dX0_countCommons_111 rfl (lv_at hl 1 rfl) ?_
                    refine g_get (ci := 0) X in_X0_countCommons_0 rfl hW h0l 0 (by decide) (hts _ (List.mem_of_getElem? (i := 1) rfl)) rfl dX0_countCommons_112 ?_
                    refine lv_iload_n hx hb dX0_countCommons_115 rfl (lv_at hl 4 rfl) ?_
                    refine lv_iload hx hb dX0_countCommons_116 (lv_at hl 5 rfl) ?_
                    refine g_ci (g_runSN X (k_X7_place (a := i) (b := j)) ⟨va_cnB 2 hts gX0_countCommons_X7_place_n33 rfl rfl rfl (nmw_5 X.2.2.1) (hts _ (List.mem_of_getElem? (i := 22) rfl)) ds_X7_place ⟨Nat.le_of_ble_eq_true rfl, Nat.le_of_ble_eq_true rfl⟩, hts _ (List.mem_of_getElem? (i := 21) rfl), trivial⟩ hW hS rfl hl.1 rfl (Nat.le_of_ble_eq_true rfl) dX0_countCommons_118 ⟨Nat.le_of_ble_eq_true rfl, Nat.le_of_ble_eq_true rfl⟩) hS (fun r47 C45 H locs hp46 hW hS => ?_)
                    obtain ⟨rfl, ehp46⟩ := hp46
                    rw [ehp46] at hW
                    refine lv_iload hx hb dX0_countCommons_121 (lv_at hl 0 rfl) ?_
                    refine g_cv (g_runSN X (k_X7_put (a := (i * 13 + j)) (v := (max (R ((i + 1) * 13 + j).toNat) (R (i * 13 + (j + 1)).toNat))) hRl (by decide) (⟨by omega, by omega⟩)) ⟨va_cnB 3 hts gX0_countCommons_X7_put_n46 rfl rfl rfl (nmw_7 X.2.2.1) (hts _ (List.mem_of_getElem? (i := 22) rfl)) ds_X7_put ⟨Nat.le_of_ble_eq_true rfl, Nat.le_of_ble_eq_true rfl⟩, hts _ (List.mem_of_getElem? (i := 26) rfl), trivial⟩ hW hS rfl hl.1 rfl (Nat.le_of_ble_eq_true rfl) dX0_countCommons_123 ⟨Nat.le_of_ble_eq_true rfl, Nat.le_of_ble_eq_true rfl⟩) hS (fun C48 H locs hp49 hW hS => ?_)
                    obtain ⟨hs50, hn51⟩ := hp49
                    rw [if_pos (show (0 : Int) ≤ (i * 13 + j) ∧ (i * 13 + j) < ((169 : Nat) : Int) from ⟨by omega, by omega⟩)] at hs50
                    refine z_iinc (lv' := [(4, .int (zI (j + (-1)))), (5, .int (zI (max (R ((i + 1) * 13 + j).toNat) (R (i * 13 + (j + 1)).toNat)))), (0, .ref (B k u)), (1, .ref (B k1 s1)), (2, .ref (B k2 s2)), (3, .int (zI i))]) hx hb dX0_countCommons_126 hl (q := 5) rfl (by decide) rfl (fun ls hl => ?_)
                    refine lv_goto (tgt := 15) hx hb dX0_countCommons_129 (by decide) ?_
                    exact ih15 (j + -1) (ju R (i * 13 + j).toNat (max (R ((i + 1) * 13 + j).toNat) (R (i * 13 + (j + 1)).toNat))) _ _ _ (by omega) (by omega) (tbc_step h_6 h_17 hj.2 hb12 hTl (tbc_ne hTl h_6 h_17 (by omega) (by omega) h_51)) hs50 (fun k' i' h => (hn51 k' i' h).trans (hfl k' i' h)) hW hS _ (lv_sub hl [2, 3, 4, 5, 0] rfl)
                  · refine lv_iconst (v := zI (1)) hx hb dX0_countCommons_54 rfl ?_
                    refine lv_aload_n hx hb dX0_countCommons_55 rfl (lv_at hl 1 rfl) ?_
                    refine g_get (ci := 0) X in_X0_countCommons_0 rfl hW h0l 0 (by decide) (hts _ (List.mem_of_getElem? (i := 1) rfl)) rfl dX0_countCommons_56 ?_
                    refine lv_iload_n hx hb dX0_countCommons_59 rfl (lv_at hl 4 rfl) ?_
                    refine lv_iconst (v := zI (1)) hx hb dX0_countCommons_60 rfl ?_
                    refine z_iadd hx hb dX0_countCommons_61 ?_
                    refine lv_iload hx hb dX0_countCommons_62 (lv_at hl 5 rfl) ?_
                    refine lv_iconst (v := zI (1)) hx hb dX0_countCommons_64 rfl ?_
                    refine z_iadd hx hb dX0_countCommons_65 ?_
                    refine g_ci (g_runSN X (k_X7_place (a := (i + 1)) (b := (j + 1))) ⟨va_cnB 2 hts gX0_countCommons_X7_place_n33 rfl rfl rfl (nmw_5 X.2.2.1) (hts _ (List.mem_of_getElem? (i := 22) rfl)) ds_X7_place ⟨Nat.le_of_ble_eq_true rfl, Nat.le_of_ble_eq_true rfl⟩, hts _ (List.mem_of_getElem? (i := 21) rfl), trivial⟩ hW hS rfl hl.1 rfl (Nat.le_of_ble_eq_true rfl) dX0_countCommons_66 ⟨Nat.le_of_ble_eq_true rfl, Nat.le_of_ble_eq_true rfl⟩) hS (fun r54 C52 H locs hp53 hW hS => ?_)
                    obtain ⟨rfl, ehp53⟩ := hp53
                    rw [ehp53] at hW
                    refine g_ci (g_runSN X (k_X7_cell (a := ((i + 1) * 13 + (j + 1))) hRl (by decide) (⟨by omega, by omega⟩)) ⟨va_cnB 2 hts gX0_countCommons_X7_cell_n37 rfl rfl rfl (nmw_6 X.2.2.1) (hts _ (List.mem_of_getElem? (i := 22) rfl)) ds_X7_cell ⟨Nat.le_of_ble_eq_true rfl, Nat.le_of_ble_eq_true rfl⟩, hts _ (List.mem_of_getElem? (i := 24) rfl), trivial⟩ hW hS rfl hl.1 rfl (Nat.le_of_ble_eq_true rfl) dX0_countCommons_69 ⟨Nat.le_of_ble_eq_true rfl, Nat.le_of_ble_eq_true rfl⟩) hS (fun r57 C55 H locs hp56 hW hS => ?_)
                    rw [if_pos (show (0 : Int) ≤ ((i + 1) * 13 + (j + 1)) ∧ ((i + 1) * 13 + (j + 1)) < ((169 : Nat) : Int) from ⟨by omega, by omega⟩)] at hp56
                    obtain ⟨rfl, ehp56⟩ := hp56
                    rw [ehp56] at hW
                    refine z_iadd hx hb dX0_countCommons_72 ?_
                    refine lv_goto (tgt := 109) hx hb dX0_countCommons_73 (by decide) ?_
                    refine lv_istore (lv' := [(5, .int (zI (1 + (R ((i + 1) * 13 + (j + 1)).toNat)))), (0, .ref (B k u)), (1, .ref (B k1 s1)), (2, .ref (B k2 s2)), (3, .int (zI i)), (4, .int (zI j))]) hx hb dX0_countCommons_109 hl (by decide) rfl (fun ls hl => ?_)
                    refine lv_aload_n hx hb dX0_countCommons_111 rfl (lv_at hl 1 rfl) ?_
                    refine g_get (ci := 0) X in_X0_countCommons_0 rfl hW h0l 0 (by decide) (hts _ (List.mem_of_getElem? (i := 1) rfl)) rfl dX0_countCommons_112 ?_
                    refine lv_iload_n hx hb dX0_countCommons_115 rfl (lv_at hl 4 rfl) ?_
                    refine lv_iload hx hb dX0_countCommons_116 (lv_at hl 5 rfl) ?_
                    refine g_ci (g_runSN X (k_X7_place (a := i) (b := j)) ⟨va_cnB 2 hts gX0_countCommons_X7_place_n33 rfl rfl rfl (nmw_5 X.2.2.1) (hts _ (List.mem_of_getElem? (i := 22) rfl)) ds_X7_place ⟨Nat.le_of_ble_eq_true rfl, Nat.le_of_ble_eq_true rfl⟩, hts _ (List.mem_of_getElem? (i := 21) rfl), trivial⟩ hW hS rfl hl.1 rfl (Nat.le_of_ble_eq_true rfl) dX0_countCommons_118 ⟨Nat.le_of_ble_eq_true rfl, Nat.le_of_ble_eq_true rfl⟩) hS (fun r60 C58 H locs hp59 hW hS => ?_)
                    obtain ⟨rfl, ehp59⟩ := hp59
                    rw [ehp59] at hW
                    refine lv_iload hx hb dX0_countCommons_121 (lv_at hl 0 rfl) ?_
                    refine g_cv (g_runSN X (k_X7_put (a := (i * 13 + j)) (v := (1 + (R ((i + 1) * 13 + (j + 1)).toNat))) hRl (by decide) (⟨by omega, by omega⟩)) ⟨va_cnB 3 hts gX0_countCommons_X7_put_n46 rfl rfl rfl (nmw_7 X.2.2.1) (hts _ (List.mem_of_getElem? (i := 22) rfl)) ds_X7_put ⟨Nat.le_of_ble_eq_true rfl, Nat.le_of_ble_eq_true rfl⟩, hts _ (List.mem_of_getElem? (i := 26) rfl), trivial⟩ hW hS rfl hl.1 rfl (Nat.le_of_ble_eq_true rfl) dX0_countCommons_123 ⟨Nat.le_of_ble_eq_true rfl, Nat.le_of_ble_eq_true rfl⟩) hS (fun C61 H locs hp62 hW hS => ?_)
                    obtain ⟨hs63, hn64⟩ := hp62
                    rw [if_pos (show (0 : Int) ≤ (i * 13 + j) ∧ (i * 13 + j) < ((169 : Nat) : Int) from ⟨by omega, by omega⟩)] at hs63
                    refine z_iinc (lv' := [(4, .int (zI (j + (-1)))), (5, .int (zI (1 + (R ((i + 1) * 13 + (j + 1)).toNat)))), (0, .ref (B k u)), (1, .ref (B k1 s1)), (2, .ref (B k2 s2)), (3, .int (zI i))]) hx hb dX0_countCommons_126 hl (q := 5) rfl (by decide) rfl (fun ls hl => ?_)
                    refine lv_goto (tgt := 15) hx hb dX0_countCommons_129 (by decide) ?_
                    exact ih15 (j + -1) (ju R (i * 13 + j).toNat (1 + (R ((i + 1) * 13 + (j + 1)).toNat))) _ _ _ (by omega) (by omega) (tbc_step h_6 h_17 hj.2 hb12 hTl (tbc_eq hTl h_6 h_17 (by omega) (by omega) h_51)) hs63 (fun k' i' h => (hn64 k' i' h).trans (hfl k' i' h)) hW hS _ (lv_sub hl [2, 3, 4, 5, 0] rfl)
        exact lp15 (b.length + 2) (b.length : Int) R _ _ _ (by omega) (by omega) hTl hRl hfl hW hS _ (lv_sub hl [1, 2, 3, 4, 0] rfl)
  exact lp5 (a.length + 2) (a.length : Int) R0 _ _ _ (by omega) (by omega) tbc_init h1 (fun _ _ _ => rfl) hW hS _ (lv_sub hl [1, 2, 3, 0] rfl)

theorem ds_X0_lineBefore : yX0_lineBefore.cls ≠ "java/lang/invoke/MethodHandle" ∧ yX0_lineBefore.cls ≠ "java/lang/invoke/VarHandle" ∧ (parseMethodDescriptor yX0_lineBefore.desc).map (fun d => d.parameters.length) = some 3 := by decide +kernel
theorem in_X0_lineBefore_0 : ∀ w ∈ wsX00, w ∈ wsX0_lineBefore := by decide +kernel
def rX0_lineBefore : Room := { frames := 2, cells := 0, slots := 0, locals := 47 }
set_option maxHeartbeats 4000000 in
set_option maxRecDepth 100000 in
theorem k_X0_lineBefore {l : Launch} {Z : gZ} {B : gB} {C0 : gC} {k u k1 s1 k2 s2 : Nat} {a b : List Int} {x : Nat} (hao : ao Z B C0 k u) (ht1 : tx Z B C0 k1 s1 a) (ht2 : tx Z B C0 k2 s2 b) (ha12 : a.length ≤ 12) (hb12 : b.length ≤ 12) (hd1 : ¬ s1 = u ∨ k1 + 1 < k ∨ k + 1 < k1) (hd2 : ¬ s2 = u ∨ k2 + 1 < k ∨ k + 1 < k2) (hxb : x < b.length) : Met l yX0_lineBefore wsX0_lineBefore rX0_lineBefore (gPc Z B C0 [.ref (B k u), .ref (B k1 s1), .ref (B k2 s2), .int (zI (x : Int))]) (gQi Z B (fun r C1 => r = zI (enc (kf a b x)) ∧ (∃ R : Nat → Int, C1 (k + 1) u = some (gJ Z 169 R)) ∧ ∀ k' i', ¬ (k' = k + 1 ∧ i' = u) → C1 k' i' = C0 k' i')) 0 0 (gA Z) := by
  refine g_ofI (cc := cX0_lineBefore) (maxL := 7) (by decide) rfl (Nat.le_of_ble_eq_true rfl) ?_
  intro p e s m args below meth c Q X kret hW hS ls hl
  have hx := X.1.1
  have hb := X.1.2.1
  have hts := X.1.2.2.2.2
  have hl : lv_has ls 7 [(0, .ref (B k u)), (1, .ref (B k1 s1)), (2, .ref (B k2 s2)), (3, .int (zI (x : Int)))] := hl
  obtain ⟨R0, h0, h1⟩ := hao
  refine lv_aload_n hx hb dX0_lineBefore_0 rfl (lv_at hl 0 rfl) ?_
  refine lv_aload_n hx hb dX0_lineBefore_1 rfl (lv_at hl 1 rfl) ?_
  refine lv_aload_n hx hb dX0_lineBefore_2 rfl (lv_at hl 2 rfl) ?_
  refine g_cv (g_runV X (k_X0_countCommons h0 h1 ht1 ht2 (by omega) (by omega) (by omega) (by omega)) (cwV 2 hts gX0_lineBefore_X0_countCommons rfl rfl rfl ⟨rfl, ds_X0_countCommons⟩ ⟨Nat.le_of_ble_eq_true rfl, Nat.le_of_ble_eq_true rfl⟩) hW hS h0 rfl rfl hl.1 rfl (Nat.le_of_ble_eq_true rfl) dX0_lineBefore_3 ⟨Nat.le_of_ble_eq_true rfl, Nat.le_of_ble_eq_true rfl⟩) hS (fun C1 H locs hp2 hW hS => ?_)
  obtain ⟨⟨R3, hR4, hT5⟩, hf6⟩ := hp2
  have hTb := hT5
  refine lv_iconst (v := zI (0)) hx hb dX0_lineBefore_6 rfl ?_
  refine lv_istore (lv' := [(4, .int (zI 0)), (0, .ref (B k u)), (1, .ref (B k1 s1)), (2, .ref (B k2 s2)), (3, .int (zI (x : Int)))]) hx hb dX0_lineBefore_7 hl (by decide) rfl (fun ls hl => ?_)
  refine lv_iconst (v := zI (0)) hx hb dX0_lineBefore_9 rfl ?_
  refine lv_istore (lv' := [(5, .int (zI 0)), (4, .int (zI 0)), (0, .ref (B k u)), (1, .ref (B k1 s1)), (2, .ref (B k2 s2)), (3, .int (zI (x : Int)))]) hx hb dX0_lineBefore_10 hl (by decide) rfl (fun ls hl => ?_)
  refine lv_iconst (v := zI (0)) hx hb dX0_lineBefore_12 rfl ?_
  refine lv_istore (lv' := [(6, .int (zI 0)), (5, .int (zI 0)), (4, .int (zI 0)), (0, .ref (B k u)), (1, .ref (B k1 s1)), (2, .ref (B k2 s2)), (3, .int (zI (x : Int)))]) hx hb dX0_lineBefore_13 hl (by decide) rfl (fun ls hl => ?_)
  have f7 : C1 k u = some (.inr (0, [.ref (B (k + 1) u)])) := ((hf6 k u (by omega)).trans h0)
  have ht8 : tx Z B C1 k1 s1 a := (tx.kept ht1 (hf6 k1 s1 (by omega)) (hf6 (k1 + 1) s1 (by omega)))
  have ht9 : tx Z B C1 k2 s2 b := (tx.kept ht2 (hf6 k2 s2 (by omega)) (hf6 (k2 + 1) s2 (by omega)))
  have lp15 : ∀ (n : Nat) (i j st : Nat) (pre : List Int) (K Fm : Nat → Int) (H : Heap) (locs : List Loc), (a.length + b.length - st < n) → (i ≤ a.length ∧ j ≤ b.length ∧ j ≤ x + 1 ∧ st ≤ i + j) → (fol a b i j pre K Fm) → (j ≤ x ∨ kf a b x = none) → gw Z B C1 H → va_S (gA Z) s.heap H locs → ∀ ls : Array Slot, lv_has ls 7 [(0, .ref (B k u)), (1, .ref (B k1 s1)), (2, .ref (B k2 s2)), (3, .int (zI (x : Int))), (4, .int (zI (i : Int))), (5, .int (zI (j : Int))), (6, .int (zI (st : Int)))] → W p l e rX0_lineBefore s m args below meth c H locs 0 0 Q (F0 m 15 ls []) := by
    intro n
    induction n with
    | zero =>
      intro i j st pre K Fm  H locs hm hij hfo hjx hW hS ls hl
      exact absurd hm (by omega)
    | succ n ih15 =>
      intro i j st pre K Fm  H locs hm hij hfo hjx hW hS ls hl
      refine lv_iload hx hb dX0_lineBefore_15 (lv_at hl 6 rfl) ?_
      refine lv_aload_n hx hb dX0_lineBefore_17 rfl (lv_at hl 1 rfl) ?_
      refine g_ci (g_runV X (k_X5_size (t := a) ht8 ) (cwV 0 hts gX0_lineBefore_X5_size rfl rfl rfl ⟨rfl, ds_X5_size⟩ ⟨Nat.le_of_ble_eq_true rfl, Nat.le_of_ble_eq_true rfl⟩) hW hS ht8.2.2.1 rfl rfl hl.1 rfl (Nat.le_of_ble_eq_true rfl) dX0_lineBefore_18 ⟨Nat.le_of_ble_eq_true rfl, Nat.le_of_ble_eq_true rfl⟩) hS (fun r12 C10 H locs hp11 hW hS => ?_)
      obtain ⟨rfl, ehp11⟩ := hp11
      rw [ehp11] at hW
      refine lv_aload_n hx hb dX0_lineBefore_21 rfl (lv_at hl 2 rfl) ?_
      refine g_ci (g_runV X (k_X5_size (t := b) ht9 ) (cwV 0 hts gX0_lineBefore_X5_size rfl rfl rfl ⟨rfl, ds_X5_size⟩ ⟨Nat.le_of_ble_eq_true rfl, Nat.le_of_ble_eq_true rfl⟩) hW hS ht9.2.2.1 rfl rfl hl.1 rfl (Nat.le_of_ble_eq_true rfl) dX0_lineBefore_22 ⟨Nat.le_of_ble_eq_true rfl, Nat.le_of_ble_eq_true rfl⟩) hS (fun r15 C13 H locs hp14 hW hS => ?_)
      obtain ⟨rfl, ehp14⟩ := hp14
      rw [ehp14] at hW
      refine z_iadd hx hb dX0_lineBefore_25 ?_
      refine z_icmp_ge (tgt := 127) hx hb dX0_lineBefore_26 (by decide) (⟨by omega, by omega⟩) (⟨by omega, by omega⟩) (fun h_26 => ?_) (fun h_26 => ?_)
      · refine lv_iconst (v := zI (-1)) hx hb dX0_lineBefore_127 rfl ?_
        have hnone : kf a b x = none := by
          rcases hjx with hjx | hjx
          · have := kf_past hfo (by omega) (x - j)
            rwa [show j + (x - j) = x by omega] at this
          · exact hjx
        exact kret _ _ _ _ _ _ _ _ (⟨congrArg zI (by rw [hnone]; rfl), ⟨_, hR4⟩, fun k' i' h => (hf6 k' i' (by omega))⟩) hW hS (Nat.le_of_ble_eq_true rfl) (Nat.le_of_ble_eq_true rfl) dX0_lineBefore_128
      · refine lv_aload_n hx hb dX0_lineBefore_29 rfl (lv_at hl 1 rfl) ?_
        refine lv_iload hx hb dX0_lineBefore_30 (lv_at hl 4 rfl) ?_
        refine g_ci (g_runV X (k_X5_has (t := a) ht8 (a := (i : Int)) (⟨by omega, by omega⟩)) (cwV 1 hts gX0_lineBefore_X5_has rfl rfl rfl ⟨rfl, ds_X5_has⟩ ⟨Nat.le_of_ble_eq_true rfl, Nat.le_of_ble_eq_true rfl⟩) hW hS ht8.2.2.1 rfl rfl hl.1 rfl (Nat.le_of_ble_eq_true rfl) dX0_lineBefore_32 ⟨Nat.le_of_ble_eq_true rfl, Nat.le_of_ble_eq_true rfl⟩) hS (fun r18 C16 H locs hp17 hW hS => ?_)
        obtain ⟨rfl, ehp17⟩ := hp17
        rw [ehp17] at hW
        refine z_ifb_eq (tgt := 127) hx hb dX0_lineBefore_35 (by decide) (fun h_35 => ?_) (fun h_35 => ?_)
        · refine lv_iconst (v := zI (-1)) hx hb dX0_lineBefore_127 rfl ?_
          have hnone : kf a b x = none := by
            rcases hjx with hjx | hjx
            · have := kf_past hfo (by omega) (x - j)
              rwa [show j + (x - j) = x by omega] at this
            · exact hjx
          exact kret _ _ _ _ _ _ _ _ (⟨congrArg zI (by rw [hnone]; rfl), ⟨_, hR4⟩, fun k' i' h => (hf6 k' i' (by omega))⟩) hW hS (Nat.le_of_ble_eq_true rfl) (Nat.le_of_ble_eq_true rfl) dX0_lineBefore_128
        · refine lv_iload hx hb dX0_lineBefore_38 (lv_at hl 5 rfl) ?_
          refine lv_iload_n hx hb dX0_lineBefore_40 rfl (lv_at hl 3 rfl) ?_
          refine z_icmp_gt (tgt := 127) hx hb dX0_lineBefore_41 (by decide) (⟨by omega, by omega⟩) (⟨by omega, by omega⟩) (fun h_41 => ?_) (fun h_41 => ?_)
          · refine lv_iconst (v := zI (-1)) hx hb dX0_lineBefore_127 rfl ?_
            have hnone : kf a b x = none := by
              rcases hjx with hjx | hjx
              · have := kf_past hfo (by omega) (x - j)
                rwa [show j + (x - j) = x by omega] at this
              · exact hjx
            exact kret _ _ _ _ _ _ _ _ (⟨congrArg zI (by rw [hnone]; rfl), ⟨_, hR4⟩, fun k' i' h => (hf6 k' i' (by omega))⟩) hW hS (Nat.le_of_ble_eq_true rfl) (Nat.le_of_ble_eq_true rfl) dX0_lineBefore_128
          · refine lv_aload_n hx hb dX0_lineBefore_44 rfl (lv_at hl 1 rfl) ?_
            refine lv_iload hx hb dX0_lineBefore_45 (lv_at hl 4 rfl) ?_
            refine g_ci (g_runV X (k_X5_at (t := a) ht8 (a := (i : Int)) (⟨by omega, by omega⟩)) (cwV 1 hts gX0_lineBefore_X5_at rfl rfl rfl ⟨rfl, ds_X5_at⟩ ⟨Nat.le_of_ble_eq_true rfl, Nat.le_of_ble_eq_true rfl⟩) hW hS ht8.2.2.1 rfl rfl hl.1 rfl (Nat.le_of_ble_eq_true rfl) dX0_lineBefore_47 ⟨Nat.le_of_ble_eq_true rfl, Nat.le_of_ble_eq_true rfl⟩) hS (fun r21 C19 H locs hp20 hW hS => ?_)
            obtain ⟨rfl, ehp20⟩ := hp20
            rw [ehp20] at hW
            refine lv_aload_n hx hb dX0_lineBefore_50 rfl (lv_at hl 2 rfl) ?_
            refine lv_iload hx hb dX0_lineBefore_51 (lv_at hl 5 rfl) ?_
            refine g_ci (g_runV X (k_X5_at (t := b) ht9 (a := (j : Int)) (⟨by omega, by omega⟩)) (cwV 1 hts gX0_lineBefore_X5_at rfl rfl rfl ⟨rfl, ds_X5_at⟩ ⟨Nat.le_of_ble_eq_true rfl, Nat.le_of_ble_eq_true rfl⟩) hW hS ht9.2.2.1 rfl rfl hl.1 rfl (Nat.le_of_ble_eq_true rfl) dX0_lineBefore_53 ⟨Nat.le_of_ble_eq_true rfl, Nat.le_of_ble_eq_true rfl⟩) hS (fun r24 C22 H locs hp23 hW hS => ?_)
            obtain ⟨rfl, ehp23⟩ := hp23
            rw [ehp23] at hW
            refine z_icmp_ne (tgt := 77) hx hb dX0_lineBefore_56 (by decide) (⟨by have := ta_rng ht1.2.1 (i : Int); omega, by have := ta_rng ht1.2.1 (i : Int); omega⟩) (⟨by have := ta_rng ht2.2.1 (j : Int); omega, by have := ta_rng ht2.2.1 (j : Int); omega⟩) (fun h_56 => ?_) (fun h_56 => ?_)
            · have hRf1 := tbc_at hTb (x := (i : Int) + 1) (y := (j : Int)) (by omega) (by omega) (by omega) (by omega) (by omega)
              have hRf2 := tbc_at hTb (x := (i : Int)) (y := (j : Int) + 1) (by omega) (by omega) (by omega) (by omega) (by omega)
              rw [show ((i : Int) + 1).toNat = i + 1 by omega, show ((j : Int)).toNat = j by omega] at hRf1
              rw [show ((j : Int) + 1).toNat = j + 1 by omega, show ((i : Int)).toNat = i by omega] at hRf2
              have hRg1 := rst_le a b (i + 1) j
              have hRg2 := rst_le a b i (j + 1)
              refine lv_aload_n hx hb dX0_lineBefore_77 rfl (lv_at hl 0 rfl) ?_
              refine g_get (ci := 0) X in_X0_lineBefore_0 rfl hW f7 0 (by decide) (hts _ (List.mem_of_getElem? (i := 1) rfl)) rfl dX0_lineBefore_78 ?_
              refine lv_iload hx hb dX0_lineBefore_81 (lv_at hl 4 rfl) ?_
              refine lv_iconst (v := zI (1)) hx hb dX0_lineBefore_83 rfl ?_
              refine z_iadd hx hb dX0_lineBefore_84 ?_
              refine lv_iload hx hb dX0_lineBefore_85 (lv_at hl 5 rfl) ?_
              refine g_ci (g_runSN X (k_X7_place (a := ((i : Int) + 1)) (b := (j : Int))) ⟨va_cnB 2 hts gX0_lineBefore_X7_place_n33 rfl rfl rfl (nmw_5 X.2.2.1) (hts _ (List.mem_of_getElem? (i := 27) rfl)) ds_X7_place ⟨Nat.le_of_ble_eq_true rfl, Nat.le_of_ble_eq_true rfl⟩, hts _ (List.mem_of_getElem? (i := 26) rfl), trivial⟩ hW hS rfl hl.1 rfl (Nat.le_of_ble_eq_true rfl) dX0_lineBefore_87 ⟨Nat.le_of_ble_eq_true rfl, Nat.le_of_ble_eq_true rfl⟩) hS (fun r27 C25 H locs hp26 hW hS => ?_)
              obtain ⟨rfl, ehp26⟩ := hp26
              rw [ehp26] at hW
              refine g_ci (g_runSN X (k_X7_cell (a := (((i : Int) + 1) * 13 + (j : Int))) hR4 (by decide) (⟨by omega, by omega⟩)) ⟨va_cnB 2 hts gX0_lineBefore_X7_cell_n37 rfl rfl rfl (nmw_6 X.2.2.1) (hts _ (List.mem_of_getElem? (i := 27) rfl)) ds_X7_cell ⟨Nat.le_of_ble_eq_true rfl, Nat.le_of_ble_eq_true rfl⟩, hts _ (List.mem_of_getElem? (i := 29) rfl), trivial⟩ hW hS rfl hl.1 rfl (Nat.le_of_ble_eq_true rfl) dX0_lineBefore_90 ⟨Nat.le_of_ble_eq_true rfl, Nat.le_of_ble_eq_true rfl⟩) hS (fun r30 C28 H locs hp29 hW hS => ?_)
              rw [if_pos (show (0 : Int) ≤ (((i : Int) + 1) * 13 + (j : Int)) ∧ (((i : Int) + 1) * 13 + (j : Int)) < ((169 : Nat) : Int) from ⟨by omega, by omega⟩)] at hp29
              obtain ⟨rfl, ehp29⟩ := hp29
              rw [ehp29] at hW
              refine lv_aload_n hx hb dX0_lineBefore_93 rfl (lv_at hl 0 rfl) ?_
              refine g_get (ci := 0) X in_X0_lineBefore_0 rfl hW f7 0 (by decide) (hts _ (List.mem_of_getElem? (i := 1) rfl)) rfl dX0_lineBefore_94 ?_
              refine lv_iload hx hb dX0_lineBefore_97 (lv_at hl 4 rfl) ?_
              refine lv_iload hx hb dX0_lineBefore_99 (lv_at hl 5 rfl) ?_
              refine lv_iconst (v := zI (1)) hx hb dX0_lineBefore_101 rfl ?_
              refine z_iadd hx hb dX0_lineBefore_102 ?_
              refine g_ci (g_runSN X (k_X7_place (a := (i : Int)) (b := ((j : Int) + 1))) ⟨va_cnB 2 hts gX0_lineBefore_X7_place_n33 rfl rfl rfl (nmw_5 X.2.2.1) (hts _ (List.mem_of_getElem? (i := 27) rfl)) ds_X7_place ⟨Nat.le_of_ble_eq_true rfl, Nat.le_of_ble_eq_true rfl⟩, hts _ (List.mem_of_getElem? (i := 26) rfl), trivial⟩ hW hS rfl hl.1 rfl (Nat.le_of_ble_eq_true rfl) dX0_lineBefore_103 ⟨Nat.le_of_ble_eq_true rfl, Nat.le_of_ble_eq_true rfl⟩) hS (fun r33 C31 H locs hp32 hW hS => ?_)
              obtain ⟨rfl, ehp32⟩ := hp32
              rw [ehp32] at hW
              refine g_ci (g_runSN X (k_X7_cell (a := ((i : Int) * 13 + ((j : Int) + 1))) hR4 (by decide) (⟨by omega, by omega⟩)) ⟨va_cnB 2 hts gX0_lineBefore_X7_cell_n37 rfl rfl rfl (nmw_6 X.2.2.1) (hts _ (List.mem_of_getElem? (i := 27) rfl)) ds_X7_cell ⟨Nat.le_of_ble_eq_true rfl, Nat.le_of_ble_eq_true rfl⟩, hts _ (List.mem_of_getElem? (i := 29) rfl), trivial⟩ hW hS rfl hl.1 rfl (Nat.le_of_ble_eq_true rfl) dX0_lineBefore_106 ⟨Nat.le_of_ble_eq_true rfl, Nat.le_of_ble_eq_true rfl⟩) hS (fun r36 C34 H locs hp35 hW hS => ?_)
              rw [if_pos (show (0 : Int) ≤ ((i : Int) * 13 + ((j : Int) + 1)) ∧ ((i : Int) * 13 + ((j : Int) + 1)) < ((169 : Nat) : Int) from ⟨by omega, by omega⟩)] at hp35
              obtain ⟨rfl, ehp35⟩ := hp35
              rw [ehp35] at hW
              refine z_icmp_lt (tgt := 118) hx hb dX0_lineBefore_109 (by decide) (⟨by omega, by omega⟩) (⟨by omega, by omega⟩) (fun h_109 => ?_) (fun h_109 => ?_)
              · refine z_iinc (lv' := [(5, .int (zI ((j : Int) + 1))), (0, .ref (B k u)), (1, .ref (B k1 s1)), (2, .ref (B k2 s2)), (3, .int (zI (x : Int))), (4, .int (zI (i : Int))), (6, .int (zI (st : Int)))]) hx hb dX0_lineBefore_118 hl (q := 5) rfl (by decide) rfl (fun ls hl => ?_)
                refine z_iinc (lv' := [(6, .int (zI ((st : Int) + 1))), (5, .int (zI ((j : Int) + 1))), (0, .ref (B k u)), (1, .ref (B k1 s1)), (2, .ref (B k2 s2)), (3, .int (zI (x : Int))), (4, .int (zI (i : Int)))]) hx hb dX0_lineBefore_121 hl (q := 6) rfl (by decide) rfl (fun ls hl => ?_)
                refine lv_goto (tgt := 15) hx hb dX0_lineBefore_124 (by decide) ?_
                have hfa := fol_add hfo (j := j) (by omega) (Or.inr ⟨by omega, (by rw [← ta_nat, ← ta_nat]; exact h_56), by omega⟩)
                exact ih15 i (j + 1) (st + 1) (pre ++ [b.getD j (-1)]) K (ju Fm j (-1)) _ _ (by omega) (by omega) hfa (by by_cases hjx : j = x; exact Or.inr (hjx ▸ kf_add hfa); exact Or.inl (by omega)) hW hS _ (lv_sub hl [2, 3, 4, 5, 6, 1, 0] rfl)
              · refine z_iinc (lv' := [(4, .int (zI ((i : Int) + 1))), (0, .ref (B k u)), (1, .ref (B k1 s1)), (2, .ref (B k2 s2)), (3, .int (zI (x : Int))), (5, .int (zI (j : Int))), (6, .int (zI (st : Int)))]) hx hb dX0_lineBefore_112 hl (q := 4) rfl (by decide) rfl (fun ls hl => ?_)
                refine lv_goto (tgt := 121) hx hb dX0_lineBefore_115 (by decide) ?_
                refine z_iinc (lv' := [(6, .int (zI ((st : Int) + 1))), (4, .int (zI ((i : Int) + 1))), (0, .ref (B k u)), (1, .ref (B k1 s1)), (2, .ref (B k2 s2)), (3, .int (zI (x : Int))), (5, .int (zI (j : Int)))]) hx hb dX0_lineBefore_121 hl (q := 6) rfl (by decide) rfl (fun ls hl => ?_)
                refine lv_goto (tgt := 15) hx hb dX0_lineBefore_124 (by decide) ?_
                exact ih15 (i + 1) j (st + 1) (pre ++ [a.getD i (-1)]) (ju K i (-1)) Fm _ _ (by omega) (by omega) (fol_rem hfo (by omega) (Or.inr ⟨by omega, (by rw [← ta_nat, ← ta_nat]; exact h_56), by omega⟩)) (Or.inl (by omega)) hW hS _ (lv_sub hl [2, 3, 4, 5, 1, 6, 0] rfl)
            · refine lv_iload hx hb dX0_lineBefore_59 (lv_at hl 5 rfl) ?_
              refine lv_iload_n hx hb dX0_lineBefore_61 rfl (lv_at hl 3 rfl) ?_
              refine z_icmp_ne (tgt := 68) hx hb dX0_lineBefore_62 (by decide) (⟨by omega, by omega⟩) (⟨by omega, by omega⟩) (fun h_62 => ?_) (fun h_62 => ?_)
              · refine z_iinc (lv' := [(4, .int (zI ((i : Int) + 1))), (0, .ref (B k u)), (1, .ref (B k1 s1)), (2, .ref (B k2 s2)), (3, .int (zI (x : Int))), (5, .int (zI (j : Int))), (6, .int (zI (st : Int)))]) hx hb dX0_lineBefore_68 hl (q := 4) rfl (by decide) rfl (fun ls hl => ?_)
                refine z_iinc (lv' := [(5, .int (zI ((j : Int) + 1))), (4, .int (zI ((i : Int) + 1))), (0, .ref (B k u)), (1, .ref (B k1 s1)), (2, .ref (B k2 s2)), (3, .int (zI (x : Int))), (6, .int (zI (st : Int)))]) hx hb dX0_lineBefore_71 hl (q := 5) rfl (by decide) rfl (fun ls hl => ?_)
                refine lv_goto (tgt := 121) hx hb dX0_lineBefore_74 (by decide) ?_
                refine z_iinc (lv' := [(6, .int (zI ((st : Int) + 1))), (5, .int (zI ((j : Int) + 1))), (4, .int (zI ((i : Int) + 1))), (0, .ref (B k u)), (1, .ref (B k1 s1)), (2, .ref (B k2 s2)), (3, .int (zI (x : Int)))]) hx hb dX0_lineBefore_121 hl (q := 6) rfl (by decide) rfl (fun ls hl => ?_)
                refine lv_goto (tgt := 15) hx hb dX0_lineBefore_124 (by decide) ?_
                exact ih15 (i + 1) (j + 1) (st + 1) pre (ju K i j) (ju Fm j i) _ _ (by omega) (by omega) (fol_keep hfo (by omega) (by omega) (by rw [← ta_nat, ← ta_nat]; exact h_56)) (Or.inl (by omega)) hW hS _ (lv_sub hl [3, 4, 5, 6, 2, 1, 0] rfl)
              · refine lv_iload hx hb dX0_lineBefore_65 (lv_at hl 4 rfl) ?_
                exact kret _ _ _ _ _ _ _ _ (⟨congrArg zI (by rw [(show x = j by omega), kf_hit hfo (by omega) (by omega) (by rw [← ta_nat, ← ta_nat]; exact h_56)]; rfl), ⟨_, hR4⟩, fun k' i' h => (hf6 k' i' (by omega))⟩) hW hS (Nat.le_of_ble_eq_true rfl) (Nat.le_of_ble_eq_true rfl) dX0_lineBefore_67
  exact lp15 (a.length + b.length + 1) 0 0 0 [] R0 R0 _ _ (by omega) (by omega) (fol_0 a b R0 R0) (Or.inl (by omega)) hW hS _ (lv_sub hl [3, 4, 5, 6, 2, 1, 0] rfl)
