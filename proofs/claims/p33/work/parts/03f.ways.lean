/-! THE FARTHEST WAYS, BY THEIR ROW -/
def stx (F : Nat → Int) (d kk : Int) : Int := if kk = -d then F (25 + kk + 1).toNat else if kk = d then F (25 + kk - 1).toNat + 1 else max (F (25 + kk + 1).toNat) (F (25 + kk - 1).toNat + 1)
def rnd (a b : List Int) (d : Nat) (F : Nat → Int) : Prop := ∀ k' : Int, -(d : Int) ≤ k' → k' ≤ d → (k' + d) % 2 = 0 → far a b d k' (F (25 + k').toNat)
theorem st_ok {a b : List Int} {F : Nat → Int} {d : Nat} {kk : Int} (hr : rnd a b d F) (h1 : -((d : Int) + 1) ≤ kk) (h2 : kk ≤ (d : Int) + 1) (h3 : (kk + (d + 1)) % 2 = 0) :
    0 ≤ stx F (d + 1) kk ∧ kk ≤ stx F (d + 1) kk ∧ stx F (d + 1) kk ≤ a.length + d + 1 ∧ (kk = -((d : Int) + 1) ∨ ∃ v, far a b d (kk - 1) v ∧ v + 1 ≤ stx F (d + 1) kk) ∧ (kk = (d : Int) + 1 ∨ ∃ v, far a b d (kk + 1) v ∧ v ≤ stx F (d + 1) kk) ∧
    ((∃ v, far a b d (kk - 1) v ∧ v + 1 = stx F (d + 1) kk) ∨ ∃ v, far a b d (kk + 1) v ∧ v = stx F (d + 1) kk) := by
  have hA : ¬ kk = (d : Int) + 1 → far a b d (kk + 1) (F (25 + kk + 1).toNat) := fun h => by
    have := hr (kk + 1) (by omega) (by omega) (by omega)
    rwa [show 25 + (kk + 1) = 25 + kk + 1 by omega] at this
  have hB : ¬ kk = -((d : Int) + 1) → far a b d (kk - 1) (F (25 + kk - 1).toNat) := fun h => by
    have := hr (kk - 1) (by omega) (by omega) (by omega)
    rwa [show 25 + (kk - 1) = 25 + kk - 1 by omega] at this
  unfold stx
  by_cases e1 : kk = -((d : Int) + 1)
  · rw [if_pos e1]
    have hAA := hA (by omega)
    have r := far_rng hAA
    obtain ⟨g0, g1, -⟩ := id hAA
    exact ⟨g0, by omega, by omega, Or.inl e1, Or.inr ⟨_, hAA, Int.le_refl _⟩, Or.inr ⟨_, hAA, rfl⟩⟩
  · rw [if_neg e1]
    have hBB := hB e1
    have rB := far_rng hBB
    obtain ⟨g0, g1, -⟩ := id hBB
    by_cases e2 : kk = (d : Int) + 1
    · rw [if_pos e2]
      exact ⟨by omega, by omega, by omega, Or.inr ⟨_, hBB, Int.le_refl _⟩, Or.inl e2, Or.inl ⟨_, hBB, rfl⟩⟩
    · rw [if_neg e2]
      have hAA := hA e2
      have rA := far_rng hAA
      obtain ⟨f0, f1, -⟩ := id hAA
      refine ⟨by omega, by omega, by omega, Or.inr ⟨_, hBB, by omega⟩, Or.inr ⟨_, hAA, by omega⟩, ?_⟩
      by_cases q : F (25 + kk + 1).toNat ≤ F (25 + kk - 1).toNat + 1
      · exact Or.inl ⟨_, hBB, by omega⟩
      · exact Or.inr ⟨_, hAA, by omega⟩
def wo (Z : gZ) (B : gB) (C : gC) (k u : Nat) : Prop := ∃ F : Nat → Int, C k u = some (.inr (6, [.ref (B (k + 1) u)])) ∧ C (k + 1) u = some (gJ Z 51 F)
theorem wo.kept {Z : gZ} {B : gB} {C C' : gC} {k u : Nat} (h : wo Z B C k u) (h0 : C' k u = C k u) (h1 : C' (k + 1) u = C (k + 1) u) : wo Z B C' k u := by
  obtain ⟨F, a1, a2⟩ := h
  exact ⟨F, h0.trans a1, h1.trans a2⟩
theorem round_end {a b : List Int} {F : Nat → Int} {d : Nat} (hd : d ≤ ed a b) (h : ∀ k' : Int, -(d : Int) ≤ k' → k' ≤ d → (k' + d) % 2 = 0 → far a b d k' (F (25 + k').toNat) ∧ ¬ ((a.length : Int) ≤ F (25 + k').toNat ∧ (b.length : Int) ≤ F (25 + k').toNat - k')) : d + 1 ≤ ed a b := by
  have hp := ed_par a b
  have hg := ed_ge a b
  by_cases q : -(d : Int) ≤ (a.length : Int) - b.length ∧ (a.length : Int) - b.length ≤ d ∧ ((a.length : Int) - b.length + d) % 2 = 0
  · have h1 := h _ q.1 q.2.1 q.2.2
    exact far_not h1.1 h1.2
  · omega

theorem w_f1 {a b : List Int} {F : Nat → Int} {d : Nat} {kk x : Int} (hd : d ≤ 24) (hkk : -(d : Int) ≤ kk ∧ kk ≤ d) (hF1 : ∀ k' : Int, -(d : Int) ≤ k' → k' < kk → (k' + d) % 2 = 0 → far a b d k' (F (25 + k').toNat) ∧ ¬ ((a.length : Int) ≤ F (25 + k').toNat ∧ (b.length : Int) ≤ F (25 + k').toNat - k')) (hfar : far a b d kk x) (hn : ¬ ((a.length : Int) ≤ x ∧ (b.length : Int) ≤ x - kk)) (hpar : (kk + d) % 2 = 0) : ∀ k' : Int, -(d : Int) ≤ k' → k' < kk + 2 → (k' + d) % 2 = 0 → far a b d k' (ju F (25 + kk).toNat x (25 + k').toNat) ∧ ¬ ((a.length : Int) ≤ ju F (25 + kk).toNat x (25 + k').toNat ∧ (b.length : Int) ≤ ju F (25 + kk).toNat x (25 + k').toNat - k') := by
  intro k' q1 q2 q3
  by_cases he : k' = kk
  · subst he
    rw [ju_s]
    exact ⟨hfar, hn⟩
  · rw [ju_n (by omega)]
    exact hF1 k' q1 (by omega) q3
theorem w_f0 {a b : List Int} {F : Nat → Int} {d : Nat} {kk x : Int} (hd : d ≤ 24) (hkk : -(d : Int) ≤ kk ∧ kk ≤ d) (hpar : (kk + d) % 2 = 0) (hF0 : ∀ d0, d = d0 + 1 → rnd a b d0 F) : ∀ d0, d = d0 + 1 → rnd a b d0 (ju F (25 + kk).toNat x) := by
  intro d0 hd0 k' q1 q2 q3
  rw [ju_n (by omega)]
  exact hF0 d0 hd0 k' q1 q2 q3
theorem w_00 {F : Nat → Int} {d : Nat} {kk x : Int} (hkk : -(d : Int) ≤ kk ∧ kk ≤ d) (h : d = 0 → F 26 = 0) : d = 0 → ju F (25 + kk).toNat x 26 = 0 := by
  intro h0
  rw [ju_n (by omega)]
  exact h h0

theorem ds_X6_goAlong : yX6_goAlong.cls ≠ "java/lang/invoke/MethodHandle" ∧ yX6_goAlong.cls ≠ "java/lang/invoke/VarHandle" ∧ (parseMethodDescriptor yX6_goAlong.desc).map (fun d => d.parameters.length) = some 4 := by decide +kernel
def rX6_goAlong : Room := { frames := 1, cells := 0, slots := 0, locals := 21 }
set_option maxHeartbeats 4000000 in
set_option maxRecDepth 100000 in
theorem k_X6_goAlong {l : Launch} {Z : gZ} {B : gB} {C0 : gC} {k1 s1 k2 s2 : Nat} {a b : List Int} {kk x0 : Int} (ht1 : tx Z B C0 k1 s1 a) (ht2 : tx Z B C0 k2 s2 b) (hx0 : 0 ≤ x0 ∧ kk ≤ x0 ∧ x0 ≤ 100 ∧ -100 ≤ kk) : Met l yX6_goAlong wsX6_goAlong rX6_goAlong (gPc Z B C0 [.ref (B k1 s1), .ref (B k2 s2), .int (zI kk), .int (zI x0)]) (gQi Z B (fun r C1 => (∃ x, r = zI x ∧ x0 ≤ x ∧ x ≤ 100 ∧ (∀ q : Int, x0 ≤ q → q < x → q < a.length ∧ q - kk < b.length ∧ ta a q = ta b (q - kk)) ∧ ¬ (x < a.length ∧ x - kk < b.length ∧ ta a x = ta b (x - kk))) ∧ C1 = C0)) 0 0 (gA Z) := by
  refine g_ofI (cc := cX6_goAlong) (maxL := 5) (by decide) rfl (Nat.le_of_ble_eq_true rfl) ?_
  intro p e s m args below meth c Q X kret hW hS ls hl
  have hx := X.1.1
  have hb := X.1.2.1
  have hts := X.1.2.2.2.2
  have hl : lv_has ls 5 [(0, .ref (B k1 s1)), (1, .ref (B k2 s2)), (2, .int (zI kk)), (3, .int (zI x0))] := hl
  have hl1 := ht1.1
  have hl2 := ht2.1
  refine lv_iload_n hx hb dX6_goAlong_0 rfl (lv_at hl 3 rfl) ?_
  refine lv_istore (lv' := [(4, .int (zI x0)), (0, .ref (B k1 s1)), (1, .ref (B k2 s2)), (2, .int (zI kk)), (3, .int (zI x0))]) hx hb dX6_goAlong_1 hl (by decide) rfl (fun ls hl => ?_)
  have lp3 : ∀ (n : Nat) (x : Int) (H : Heap) (locs : List Loc), (500 - x < n) → (x0 ≤ x ∧ x ≤ 100) → (∀ q : Int, x0 ≤ q → q < x → q < a.length ∧ q - kk < b.length ∧ ta a q = ta b (q - kk)) → gw Z B C0 H → va_S (gA Z) s.heap H locs → ∀ ls : Array Slot, lv_has ls 5 [(0, .ref (B k1 s1)), (1, .ref (B k2 s2)), (2, .int (zI kk)), (3, .int (zI x0)), (4, .int (zI x))] → W p l e rX6_goAlong s m args below meth c H locs 0 0 Q (F0 m 3 ls []) := by
    intro n
    induction n with
    | zero =>
      intro x  H locs hm hxr hsl hW hS ls hl
      exact absurd hm (by omega)
    | succ n ih3 =>
      intro x  H locs hm hxr hsl hW hS ls hl
      refine lv_iload hx hb dX6_goAlong_3 (lv_at hl 4 rfl) ?_
      refine lv_aload_n hx hb dX6_goAlong_5 rfl (lv_at hl 0 rfl) ?_
      refine g_ci (g_runV X (k_X5_size (t := a) ht1 ) (cwV 0 hts gX6_goAlong_X5_size rfl rfl rfl ⟨rfl, ds_X5_size⟩ ⟨Nat.le_of_ble_eq_true rfl, Nat.le_of_ble_eq_true rfl⟩) hW hS ht1.2.2.1 rfl rfl hl.1 rfl (Nat.le_of_ble_eq_true rfl) dX6_goAlong_6 ⟨Nat.le_of_ble_eq_true rfl, Nat.le_of_ble_eq_true rfl⟩) hS (fun r3 C1 H locs hp2 hW hS => ?_)
      obtain ⟨rfl, ehp2⟩ := hp2
      rw [ehp2] at hW
      refine z_icmp_ge (tgt := 49) hx hb dX6_goAlong_9 (by decide) (⟨by omega, by omega⟩) (⟨by omega, by omega⟩) (fun h_9 => ?_) (fun h_9 => ?_)
      · refine lv_iload hx hb dX6_goAlong_49 (lv_at hl 4 rfl) ?_
        exact kret _ _ _ _ _ _ _ _ (⟨⟨x, rfl, hxr.1, hxr.2, hsl, fun h => by omega⟩, rfl⟩) hW hS (Nat.le_of_ble_eq_true rfl) (Nat.le_of_ble_eq_true rfl) dX6_goAlong_51
      · refine lv_iload hx hb dX6_goAlong_12 (lv_at hl 4 rfl) ?_
        refine lv_iload_n hx hb dX6_goAlong_14 rfl (lv_at hl 2 rfl) ?_
        refine z_isub hx hb dX6_goAlong_15 ?_
        refine lv_aload_n hx hb dX6_goAlong_16 rfl (lv_at hl 1 rfl) ?_
        refine g_ci (g_runV X (k_X5_size (t := b) ht2 ) (cwV 0 hts gX6_goAlong_X5_size rfl rfl rfl ⟨rfl, ds_X5_size⟩ ⟨Nat.le_of_ble_eq_true rfl, Nat.le_of_ble_eq_true rfl⟩) hW hS ht2.2.2.1 rfl rfl hl.1 rfl (Nat.le_of_ble_eq_true rfl) dX6_goAlong_17 ⟨Nat.le_of_ble_eq_true rfl, Nat.le_of_ble_eq_true rfl⟩) hS (fun r6 C4 H locs hp5 hW hS => ?_)
        obtain ⟨rfl, ehp5⟩ := hp5
        rw [ehp5] at hW
        refine z_icmp_ge (tgt := 49) hx hb dX6_goAlong_20 (by decide) (⟨by omega, by omega⟩) (⟨by omega, by omega⟩) (fun h_20 => ?_) (fun h_20 => ?_)
        · refine lv_iload hx hb dX6_goAlong_49 (lv_at hl 4 rfl) ?_
          exact kret _ _ _ _ _ _ _ _ (⟨⟨x, rfl, hxr.1, hxr.2, hsl, fun h => by omega⟩, rfl⟩) hW hS (Nat.le_of_ble_eq_true rfl) (Nat.le_of_ble_eq_true rfl) dX6_goAlong_51
        · refine lv_aload_n hx hb dX6_goAlong_23 rfl (lv_at hl 0 rfl) ?_
          refine lv_iload hx hb dX6_goAlong_24 (lv_at hl 4 rfl) ?_
          refine g_ci (g_runV X (k_X5_at (t := a) ht1 (a := x) (⟨by omega, by omega⟩)) (cwV 1 hts gX6_goAlong_X5_at rfl rfl rfl ⟨rfl, ds_X5_at⟩ ⟨Nat.le_of_ble_eq_true rfl, Nat.le_of_ble_eq_true rfl⟩) hW hS ht1.2.2.1 rfl rfl hl.1 rfl (Nat.le_of_ble_eq_true rfl) dX6_goAlong_26 ⟨Nat.le_of_ble_eq_true rfl, Nat.le_of_ble_eq_true rfl⟩) hS (fun r9 C7 H locs hp8 hW hS => ?_)
          obtain ⟨rfl, ehp8⟩ := hp8
          rw [ehp8] at hW
          refine lv_aload_n hx hb dX6_goAlong_29 rfl (lv_at hl 1 rfl) ?_
          refine lv_iload hx hb dX6_goAlong_30 (lv_at hl 4 rfl) ?_
          refine lv_iload_n hx hb dX6_goAlong_32 rfl (lv_at hl 2 rfl) ?_
          refine z_isub hx hb dX6_goAlong_33 ?_
          refine g_ci (g_runV X (k_X5_at (t := b) ht2 (a := (x - kk)) (⟨by omega, by omega⟩)) (cwV 1 hts gX6_goAlong_X5_at rfl rfl rfl ⟨rfl, ds_X5_at⟩ ⟨Nat.le_of_ble_eq_true rfl, Nat.le_of_ble_eq_true rfl⟩) hW hS ht2.2.2.1 rfl rfl hl.1 rfl (Nat.le_of_ble_eq_true rfl) dX6_goAlong_34 ⟨Nat.le_of_ble_eq_true rfl, Nat.le_of_ble_eq_true rfl⟩) hS (fun r12 C10 H locs hp11 hW hS => ?_)
          obtain ⟨rfl, ehp11⟩ := hp11
          rw [ehp11] at hW
          refine z_icmp_eq (tgt := 43) hx hb dX6_goAlong_37 (by decide) (⟨by have := ta_rng ht1.2.1 x; omega, by have := ta_rng ht1.2.1 x; omega⟩) (⟨by have := ta_rng ht2.2.1 (x - kk); omega, by have := ta_rng ht2.2.1 (x - kk); omega⟩) (fun h_37 => ?_) (fun h_37 => ?_)
          · refine z_iinc (lv' := [(4, .int (zI (x + 1))), (0, .ref (B k1 s1)), (1, .ref (B k2 s2)), (2, .int (zI kk)), (3, .int (zI x0))]) hx hb dX6_goAlong_43 hl (q := 4) rfl (by decide) rfl (fun ls hl => ?_)
            refine lv_goto (tgt := 3) hx hb dX6_goAlong_46 (by decide) ?_
            exact ih3 (x + 1) _ _ (by omega) (by omega) (fun q h1 h2 => by by_cases hq : q = x; (subst hq; exact ⟨by omega, by omega, h_37⟩); exact hsl q h1 (by omega)) hW hS _ (lv_sub hl [1, 2, 3, 4, 0] rfl)
          · refine lv_iload hx hb dX6_goAlong_40 (lv_at hl 4 rfl) ?_
            exact kret _ _ _ _ _ _ _ _ (⟨⟨x, rfl, hxr.1, hxr.2, hsl, fun h => h_37 h.2.2⟩, rfl⟩) hW hS (Nat.le_of_ble_eq_true rfl) (Nat.le_of_ble_eq_true rfl) dX6_goAlong_42
  exact lp3 501 x0 _ _ (by omega) (by omega) (fun q h1 h2 => by omega) hW hS _ (lv_sub hl [1, 2, 3, 4, 0] rfl)

theorem ds_X6_start : yX6_start.cls ≠ "java/lang/invoke/MethodHandle" ∧ yX6_start.cls ≠ "java/lang/invoke/VarHandle" ∧ (parseMethodDescriptor yX6_start.desc).map (fun d => d.parameters.length) = some 2 := by decide +kernel
theorem in_X6_start_6 : ∀ w ∈ wsX60, w ∈ wsX6_start := by decide +kernel
def rX6_start : Room := { frames := 1, cells := 0, slots := 0, locals := 21 }
set_option maxHeartbeats 4000000 in
set_option maxRecDepth 100000 in
theorem k_X6_start {l : Launch} {Z : gZ} {B : gB} {C0 : gC} {k u : Nat} {F : Nat → Int} {d kk : Int} (h0 : C0 k u = some (.inr (6, [.ref (B (k + 1) u)]))) (h1 : C0 (k + 1) u = some (gJ Z 51 F)) (hkk : -24 ≤ kk ∧ kk ≤ 24 ∧ 0 ≤ d ∧ d ≤ 24) (hzz : ¬ kk = -d → ¬ kk = d → zr (F (25 + kk + 1).toNat) ∧ zr (F (25 + kk - 1).toNat + 1)) : Met l yX6_start wsX6_start rX6_start (gPc Z B C0 [.ref (B k u), .int (zI d), .int (zI kk)]) (gQi Z B (fun r C1 => r = zI (stx F d kk) ∧ C1 = C0)) 0 0 (gA Z) := by
  refine g_ofI (cc := cX6_start) (maxL := 5) (by decide) rfl (Nat.le_of_ble_eq_true rfl) ?_
  intro p e s m args below meth c Q X kret hW hS ls hl
  have hx := X.1.1
  have hb := X.1.2.1
  have hts := X.1.2.2.2.2
  have hl : lv_has ls 5 [(0, .ref (B k u)), (1, .int (zI d)), (2, .int (zI kk))] := hl
  refine lv_aload_n hx hb dX6_start_0 rfl (lv_at hl 0 rfl) ?_
  refine g_get (ci := 6) X in_X6_start_6 rfl hW h0 0 (by decide) (hts _ (List.mem_of_getElem? (i := 1) rfl)) rfl dX6_start_1 ?_
  refine lv_bipush (v := zI (25)) hx hb dX6_start_4 (by decide) ?_
  refine lv_iload_n hx hb dX6_start_6 rfl (lv_at hl 2 rfl) ?_
  refine z_iadd hx hb dX6_start_7 ?_
  refine lv_iconst (v := zI (1)) hx hb dX6_start_8 rfl ?_
  refine z_iadd hx hb dX6_start_9 ?_
  refine g_ci (g_runSN X (k_X7_cell (a := ((25 + kk) + 1)) h1 (by decide) (⟨by omega, by omega⟩)) ⟨va_cnB 2 hts gX6_start_X7_cell_n33 rfl rfl rfl (nmw_18 X.2.2.1) (hts _ (List.mem_of_getElem? (i := 7) rfl)) ds_X7_cell ⟨Nat.le_of_ble_eq_true rfl, Nat.le_of_ble_eq_true rfl⟩, hts _ (List.mem_of_getElem? (i := 6) rfl), trivial⟩ hW hS rfl hl.1 rfl (Nat.le_of_ble_eq_true rfl) dX6_start_10 ⟨Nat.le_of_ble_eq_true rfl, Nat.le_of_ble_eq_true rfl⟩) hS (fun r3 C1 H locs hp2 hW hS => ?_)
  rw [if_pos (show (0 : Int) ≤ ((25 + kk) + 1) ∧ ((25 + kk) + 1) < ((51 : Nat) : Int) from ⟨by omega, by omega⟩)] at hp2
  obtain ⟨rfl, ehp2⟩ := hp2
  rw [ehp2] at hW
  refine lv_istore_n (lv' := [(3, .int (zI (F ((25 + kk) + 1).toNat))), (0, .ref (B k u)), (1, .int (zI d)), (2, .int (zI kk))]) hx hb dX6_start_13 rfl hl (by decide) rfl (fun ls hl => ?_)
  refine lv_aload_n hx hb dX6_start_14 rfl (lv_at hl 1 rfl) ?_
  refine g_get (ci := 6) X in_X6_start_6 rfl hW h0 0 (by decide) (hts _ (List.mem_of_getElem? (i := 1) rfl)) rfl dX6_start_15 ?_
  refine lv_bipush (v := zI (25)) hx hb dX6_start_18 (by decide) ?_
  refine lv_iload_n hx hb dX6_start_20 rfl (lv_at hl 3 rfl) ?_
  refine z_iadd hx hb dX6_start_21 ?_
  refine lv_iconst (v := zI (1)) hx hb dX6_start_22 rfl ?_
  refine z_isub hx hb dX6_start_23 ?_
  refine g_ci (g_runSN X (k_X7_cell (a := ((25 + kk) - 1)) h1 (by decide) (⟨by omega, by omega⟩)) ⟨va_cnB 2 hts gX6_start_X7_cell_n33 rfl rfl rfl (nmw_18 X.2.2.1) (hts _ (List.mem_of_getElem? (i := 7) rfl)) ds_X7_cell ⟨Nat.le_of_ble_eq_true rfl, Nat.le_of_ble_eq_true rfl⟩, hts _ (List.mem_of_getElem? (i := 6) rfl), trivial⟩ hW hS rfl hl.1 rfl (Nat.le_of_ble_eq_true rfl) dX6_start_24 ⟨Nat.le_of_ble_eq_true rfl, Nat.le_of_ble_eq_true rfl⟩) hS (fun r6 C4 H locs hp5 hW hS => ?_)
  rw [if_pos (show (0 : Int) ≤ ((25 + kk) - 1) ∧ ((25 + kk) - 1) < ((51 : Nat) : Int) from ⟨by omega, by omega⟩)] at hp5
  obtain ⟨rfl, ehp5⟩ := hp5
  rw [ehp5] at hW
  refine lv_iconst (v := zI (1)) hx hb dX6_start_27 rfl ?_
  refine z_iadd hx hb dX6_start_28 ?_
  refine lv_istore (lv' := [(4, .int (zI ((F ((25 + kk) - 1).toNat) + 1))), (3, .int (zI (F ((25 + kk) + 1).toNat))), (0, .ref (B k u)), (1, .int (zI d)), (2, .int (zI kk))]) hx hb dX6_start_29 hl (by decide) rfl (fun ls hl => ?_)
  refine lv_iload_n hx hb dX6_start_31 rfl (lv_at hl 4 rfl) ?_
  refine lv_iload_n hx hb dX6_start_32 rfl (lv_at hl 3 rfl) ?_
  refine z_ineg hx hb dX6_start_33 ?_
  refine z_icmp_ne (tgt := 39) hx hb dX6_start_34 (by decide) (⟨by omega, by omega⟩) (⟨by omega, by omega⟩) (fun h_34 => ?_) (fun h_34 => ?_)
  · refine lv_iload_n hx hb dX6_start_39 rfl (lv_at hl 4 rfl) ?_
    refine lv_iload_n hx hb dX6_start_40 rfl (lv_at hl 3 rfl) ?_
    refine z_icmp_ne (tgt := 49) hx hb dX6_start_41 (by decide) (⟨by omega, by omega⟩) (⟨by omega, by omega⟩) (fun h_41 => ?_) (fun h_41 => ?_)
    · refine lv_iload_n hx hb dX6_start_49 rfl (lv_at hl 1 rfl) ?_
      refine lv_iload hx hb dX6_start_50 (lv_at hl 0 rfl) ?_
      refine va_mmax hx hb (X.1.2.2.1.trans hl.1.symm) X.1.2.2.2.1 (hts _ (List.mem_of_getElem? (i := 2) rfl)) (hts _ (List.mem_of_getElem? (i := 3) rfl)) (hts _ (List.mem_of_getElem? (i := 4) rfl)) (hts _ (List.mem_of_getElem? (i := 5) rfl)) (Nat.le_of_ble_eq_true rfl) (Nat.le_of_ble_eq_true rfl) (Nat.le_of_ble_eq_true rfl) (Nat.le_of_ble_eq_true rfl) dX6_start_52 ?_
      rw [z_max (hzz h_34 h_41).1 (hzz h_34 h_41).2]
      exact kret _ _ _ _ _ _ _ _ (⟨by rw [stx, if_neg h_34, if_neg h_41], rfl⟩) hW hS (Nat.le_of_ble_eq_true rfl) (Nat.le_of_ble_eq_true rfl) dX6_start_55
    · refine lv_iload hx hb dX6_start_44 (lv_at hl 0 rfl) ?_
      refine lv_goto (tgt := 55) hx hb dX6_start_46 (by decide) ?_
      exact kret _ _ _ _ _ _ _ _ (⟨by rw [stx, if_neg h_34, if_pos h_41], rfl⟩) hW hS (Nat.le_of_ble_eq_true rfl) (Nat.le_of_ble_eq_true rfl) dX6_start_55
  · refine lv_iload_n hx hb dX6_start_37 rfl (lv_at hl 1 rfl) ?_
    exact kret _ _ _ _ _ _ _ _ (⟨by rw [stx, if_pos h_34], rfl⟩) hW hS (Nat.le_of_ble_eq_true rfl) (Nat.le_of_ble_eq_true rfl) dX6_start_38

theorem ds_X6_fewestEdits : yX6_fewestEdits.cls ≠ "java/lang/invoke/MethodHandle" ∧ yX6_fewestEdits.cls ≠ "java/lang/invoke/VarHandle" ∧ (parseMethodDescriptor yX6_fewestEdits.desc).map (fun d => d.parameters.length) = some 2 := by decide +kernel
theorem in_X6_fewestEdits_6 : ∀ w ∈ wsX60, w ∈ wsX6_fewestEdits := by decide +kernel
def rX6_fewestEdits : Room := { frames := 2, cells := 0, slots := 0, locals := 45 }
set_option maxHeartbeats 4000000 in
set_option maxRecDepth 100000 in
theorem k_X6_fewestEdits {l : Launch} {Z : gZ} {B : gB} {C0 : gC} {k u k1 s1 k2 s2 : Nat} {a b : List Int} (hwo : wo Z B C0 k u) (ht1 : tx Z B C0 k1 s1 a) (ht2 : tx Z B C0 k2 s2 b) (ha12 : a.length ≤ 12) (hb12 : b.length ≤ 12) (hd1 : ¬ s1 = u ∨ k1 + 1 < k ∨ k + 1 < k1) (hd2 : ¬ s2 = u ∨ k2 + 1 < k ∨ k + 1 < k2) : Met l yX6_fewestEdits wsX6_fewestEdits rX6_fewestEdits (gPc Z B C0 [.ref (B k u), .ref (B k1 s1), .ref (B k2 s2)]) (gQi Z B (fun r C1 => r = zI (ed a b : Int) ∧ (∃ F : Nat → Int, C1 (k + 1) u = some (gJ Z 51 F)) ∧ ∀ k' i', ¬ (k' = k + 1 ∧ i' = u) → C1 k' i' = C0 k' i')) 0 0 (gA Z) := by
  refine g_ofI (cc := cX6_fewestEdits) (maxL := 7) (by decide) rfl (Nat.le_of_ble_eq_true rfl) ?_
  intro p e s m args below meth c Q X kret hW hS ls hl
  have hx := X.1.1
  have hb := X.1.2.1
  have hts := X.1.2.2.2.2
  have hl : lv_has ls 7 [(0, .ref (B k u)), (1, .ref (B k1 s1)), (2, .ref (B k2 s2))] := hl
  obtain ⟨G0, h0, h1⟩ := hwo
  refine lv_aload_n hx hb dX6_fewestEdits_0 rfl (lv_at hl 1 rfl) ?_
  refine g_ci (g_runV X (k_X5_size (t := a) ht1 ) (cwV 0 hts gX6_fewestEdits_X5_size rfl rfl rfl ⟨rfl, ds_X5_size⟩ ⟨Nat.le_of_ble_eq_true rfl, Nat.le_of_ble_eq_true rfl⟩) hW hS ht1.2.2.1 rfl rfl hl.1 rfl (Nat.le_of_ble_eq_true rfl) dX6_fewestEdits_1 ⟨Nat.le_of_ble_eq_true rfl, Nat.le_of_ble_eq_true rfl⟩) hS (fun r3 C1 H locs hp2 hW hS => ?_)
  obtain ⟨rfl, ehp2⟩ := hp2
  rw [ehp2] at hW
  refine lv_aload_n hx hb dX6_fewestEdits_4 rfl (lv_at hl 2 rfl) ?_
  refine g_ci (g_runV X (k_X5_size (t := b) ht2 ) (cwV 0 hts gX6_fewestEdits_X5_size rfl rfl rfl ⟨rfl, ds_X5_size⟩ ⟨Nat.le_of_ble_eq_true rfl, Nat.le_of_ble_eq_true rfl⟩) hW hS ht2.2.2.1 rfl rfl hl.1 rfl (Nat.le_of_ble_eq_true rfl) dX6_fewestEdits_5 ⟨Nat.le_of_ble_eq_true rfl, Nat.le_of_ble_eq_true rfl⟩) hS (fun r6 C4 H locs hp5 hW hS => ?_)
  obtain ⟨rfl, ehp5⟩ := hp5
  rw [ehp5] at hW
  refine z_iadd hx hb dX6_fewestEdits_8 ?_
  refine lv_istore_n (lv' := [(3, .int (zI ((a.length : Int) + (b.length : Int)))), (0, .ref (B k u)), (1, .ref (B k1 s1)), (2, .ref (B k2 s2))]) hx hb dX6_fewestEdits_9 rfl hl (by decide) rfl (fun ls hl => ?_)
  refine lv_aload_n hx hb dX6_fewestEdits_10 rfl (lv_at hl 1 rfl) ?_
  refine g_get (ci := 6) X in_X6_fewestEdits_6 rfl hW h0 0 (by decide) (hts _ (List.mem_of_getElem? (i := 1) rfl)) rfl dX6_fewestEdits_11 ?_
  refine lv_bipush (v := zI (26)) hx hb dX6_fewestEdits_14 (by decide) ?_
  refine lv_iconst (v := zI (0)) hx hb dX6_fewestEdits_16 rfl ?_
  refine g_cv (g_runSN X (k_X7_put (a := 26) (v := 0) h1 (by decide) (⟨by omega, by omega⟩)) ⟨va_cnB 3 hts gX6_fewestEdits_X7_put_n21 rfl rfl rfl (nmw_17 X.2.2.1) (hts _ (List.mem_of_getElem? (i := 9) rfl)) ds_X7_put ⟨Nat.le_of_ble_eq_true rfl, Nat.le_of_ble_eq_true rfl⟩, hts _ (List.mem_of_getElem? (i := 8) rfl), trivial⟩ hW hS rfl hl.1 rfl (Nat.le_of_ble_eq_true rfl) dX6_fewestEdits_17 ⟨Nat.le_of_ble_eq_true rfl, Nat.le_of_ble_eq_true rfl⟩) hS (fun C7 H locs hp8 hW hS => ?_)
  obtain ⟨hs9, hn10⟩ := hp8
  rw [if_pos (show (0 : Int) ≤ 26 ∧ 26 < ((51 : Nat) : Int) from ⟨by decide, by decide⟩)] at hs9
  refine lv_iconst (v := zI (0)) hx hb dX6_fewestEdits_20 rfl ?_
  refine lv_istore (lv' := [(4, .int (zI 0)), (3, .int (zI ((a.length : Int) + (b.length : Int)))), (0, .ref (B k u)), (1, .ref (B k1 s1)), (2, .ref (B k2 s2))]) hx hb dX6_fewestEdits_21 hl (by decide) rfl (fun ls hl => ?_)
  have lp23 : ∀ (n : Nat) (d : Nat) (F : Nat → Int) (Cl : gC) (H : Heap) (locs : List Loc), (a.length + b.length - d < n) → (d ≤ a.length + b.length ∧ d ≤ ed a b) → (∀ d0, d = d0 + 1 → rnd a b d0 F) → (d = 0 → F 26 = 0) → (Cl (k + 1) u = some (gJ Z 51 F)) → (∀ k' i', ¬ (k' = k + 1 ∧ i' = u) → Cl k' i' = C0 k' i') → gw Z B Cl H → va_S (gA Z) s.heap H locs → ∀ ls : Array Slot, lv_has ls 7 [(0, .ref (B k u)), (1, .ref (B k1 s1)), (2, .ref (B k2 s2)), (3, .int (zI ((a.length : Int) + (b.length : Int)))), (4, .int (zI (d : Int)))] → W p l e rX6_fewestEdits s m args below meth c H locs 0 0 Q (F0 m 23 ls []) := by
    intro n
    induction n with
    | zero =>
      intro d F Cl H locs hm hd hF0 h00 hRl hfl hW hS ls hl
      exact absurd hm (by omega)
    | succ n ih23 =>
      intro d F Cl H locs hm hd hF0 h00 hRl hfl hW hS ls hl
      have h0l := (hfl _ _ (by omega)).trans h0
      have ht1l := tx.kept ht1 (hfl k1 s1 (by omega)) (hfl (k1 + 1) s1 (by omega))
      have ht2l := tx.kept ht2 (hfl k2 s2 (by omega)) (hfl (k2 + 1) s2 (by omega))
      refine lv_iload hx hb dX6_fewestEdits_23 (lv_at hl 4 rfl) ?_
      refine lv_iload_n hx hb dX6_fewestEdits_25 rfl (lv_at hl 3 rfl) ?_
      refine z_icmp_ge (tgt := 108) hx hb dX6_fewestEdits_26 (by decide) (⟨by omega, by omega⟩) (⟨by omega, by omega⟩) (fun h_26 => ?_) (fun h_26 => ?_)
      · refine lv_iload_n hx hb dX6_fewestEdits_108 rfl (lv_at hl 3 rfl) ?_
        exact kret _ _ _ _ _ _ _ _ (⟨congrArg zI (by have := ed_le a b; omega), ⟨F, hRl⟩, hfl⟩) hW hS (Nat.le_of_ble_eq_true rfl) (Nat.le_of_ble_eq_true rfl) dX6_fewestEdits_109
      · refine lv_iload hx hb dX6_fewestEdits_29 (lv_at hl 4 rfl) ?_
        refine z_ineg hx hb dX6_fewestEdits_31 ?_
        refine lv_istore (lv' := [(5, .int (zI (-(d : Int)))), (0, .ref (B k u)), (1, .ref (B k1 s1)), (2, .ref (B k2 s2)), (3, .int (zI ((a.length : Int) + (b.length : Int)))), (4, .int (zI (d : Int)))]) hx hb dX6_fewestEdits_32 hl (by decide) rfl (fun ls hl => ?_)
        have lp34 : ∀ (n : Nat) (kk : Int) (F : Nat → Int) (Cl : gC) (H : Heap) (locs : List Loc), ((d : Int) + 2 - kk < n) → (-(d : Int) ≤ kk ∧ kk ≤ d + 2 ∧ (kk + d) % 2 = 0) → (∀ k' : Int, -(d : Int) ≤ k' → k' < kk → (k' + d) % 2 = 0 → far a b d k' (F (25 + k').toNat) ∧ ¬ ((a.length : Int) ≤ F (25 + k').toNat ∧ (b.length : Int) ≤ F (25 + k').toNat - k')) → (∀ d0, d = d0 + 1 → rnd a b d0 F) → (d = 0 → F 26 = 0) → (Cl (k + 1) u = some (gJ Z 51 F)) → (∀ k' i', ¬ (k' = k + 1 ∧ i' = u) → Cl k' i' = C0 k' i') → gw Z B Cl H → va_S (gA Z) s.heap H locs → ∀ ls : Array Slot, lv_has ls 7 [(0, .ref (B k u)), (1, .ref (B k1 s1)), (2, .ref (B k2 s2)), (3, .int (zI ((a.length : Int) + (b.length : Int)))), (4, .int (zI (d : Int))), (5, .int (zI kk))] → W p l e rX6_fewestEdits s m args below meth c H locs 0 0 Q (F0 m 34 ls []) := by
          intro n
          induction n with
          | zero =>
            intro kk F Cl H locs hm hkk hF1 hF0 h00 hRl hfl hW hS ls hl
            exact absurd hm (by omega)
          | succ n ih34 =>
            intro kk F Cl H locs hm hkk hF1 hF0 h00 hRl hfl hW hS ls hl
            have h0l := (hfl _ _ (by omega)).trans h0
            have ht1l := tx.kept ht1 (hfl k1 s1 (by omega)) (hfl (k1 + 1) s1 (by omega))
            have ht2l := tx.kept ht2 (hfl k2 s2 (by omega)) (hfl (k2 + 1) s2 (by omega))
            refine lv_iload hx hb dX6_fewestEdits_34 (lv_at hl 5 rfl) ?_
            refine lv_iload hx hb dX6_fewestEdits_36 (lv_at hl 4 rfl) ?_
            refine z_icmp_gt (tgt := 102) hx hb dX6_fewestEdits_38 (by decide) (⟨by omega, by omega⟩) (⟨by omega, by omega⟩) (fun h_38 => ?_) (fun h_38 => ?_)
            · refine z_iinc (lv' := [(4, .int (zI ((d : Int) + 1))), (0, .ref (B k u)), (1, .ref (B k1 s1)), (2, .ref (B k2 s2)), (3, .int (zI ((a.length : Int) + (b.length : Int)))), (5, .int (zI kk))]) hx hb dX6_fewestEdits_102 hl (q := 4) rfl (by decide) rfl (fun ls hl => ?_)
              refine lv_goto (tgt := 23) hx hb dX6_fewestEdits_105 (by decide) ?_
              have hnext : ∀ d0, d + 1 = d0 + 1 → rnd a b d0 F := by
                intro d0 h k' q1 q2 q3
                obtain rfl : d = d0 := by omega
                exact (hF1 k' q1 (by omega) q3).1
              exact ih23 (d + 1) F _ _ _ (by omega) ⟨by omega, round_end hd.2 (fun k' q1 q2 q3 => hF1 k' q1 (by omega) q3)⟩ hnext (fun h => by omega) hRl hfl hW hS _ (lv_sub hl [1, 2, 3, 4, 0] rfl)
            · have hst : 0 ≤ stx F d kk ∧ kk ≤ stx F d kk ∧ stx F d kk ≤ 100 ∧ -100 ≤ kk := by
                rcases d with _ | d
                · have e9 : kk = 0 := by omega
                  subst e9
                  have e8 := h00 rfl
                  simp only [stx]
                  simp [e8]
                · have := st_ok (hF0 d rfl) (kk := kk) (by omega) (by omega) (by omega)
                  rw [show ((d + 1 : Nat) : Int) = (d : Int) + 1 by omega]
                  omega
              have hzz : ¬ kk = -(d : Int) → ¬ kk = (d : Int) → zr (F (25 + kk + 1).toNat) ∧ zr (F (25 + kk - 1).toNat + 1) := by
                intro z1 z2
                rcases d with _ | d
                · omega
                · have q1 := far_rng (hF0 d rfl (kk + 1) (by omega) (by omega) (by omega))
                  have q2 := far_rng (hF0 d rfl (kk - 1) (by omega) (by omega) (by omega))
                  have q3 := (hF0 d rfl (kk + 1) (by omega) (by omega) (by omega)).1
                  have q4 := (hF0 d rfl (kk - 1) (by omega) (by omega) (by omega)).1
                  rw [show 25 + (kk + 1) = 25 + kk + 1 by omega] at q1 q3
                  rw [show 25 + (kk - 1) = 25 + kk - 1 by omega] at q2 q4
                  exact ⟨⟨by omega, by omega⟩, ⟨by omega, by omega⟩⟩
              refine lv_aload_n hx hb dX6_fewestEdits_41 rfl (lv_at hl 1 rfl) ?_
              refine lv_aload_n hx hb dX6_fewestEdits_42 rfl (lv_at hl 2 rfl) ?_
              refine lv_iload hx hb dX6_fewestEdits_43 (lv_at hl 5 rfl) ?_
              refine lv_aload_n hx hb dX6_fewestEdits_45 rfl (lv_at hl 0 rfl) ?_
              refine lv_iload hx hb dX6_fewestEdits_46 (lv_at hl 4 rfl) ?_
              refine lv_iload hx hb dX6_fewestEdits_48 (lv_at hl 5 rfl) ?_
              refine g_ci (g_runV X (k_X6_start (d := (d : Int)) (kk := kk) h0l hRl (by omega) (hzz)) (cwV 2 hts gX6_fewestEdits_X6_start rfl rfl rfl ⟨rfl, ds_X6_start⟩ ⟨Nat.le_of_ble_eq_true rfl, Nat.le_of_ble_eq_true rfl⟩) hW hS h0l rfl rfl hl.1 rfl (Nat.le_of_ble_eq_true rfl) dX6_fewestEdits_50 ⟨Nat.le_of_ble_eq_true rfl, Nat.le_of_ble_eq_true rfl⟩) hS (fun r13 C11 H locs hp12 hW hS => ?_)
              obtain ⟨rfl, ehp12⟩ := hp12
              rw [ehp12] at hW
              refine g_ci (g_runS X (k_X6_goAlong (kk := kk) (x0 := (stx F (d : Int) kk)) ht1l ht2l (hst)) (va_cwS 4 hts gX6_fewestEdits_X6_goAlong rfl rfl rfl ds_X6_goAlong ⟨Nat.le_of_ble_eq_true rfl, Nat.le_of_ble_eq_true rfl⟩) hW hS rfl hl.1 rfl (Nat.le_of_ble_eq_true rfl) dX6_fewestEdits_53 ⟨Nat.le_of_ble_eq_true rfl, Nat.le_of_ble_eq_true rfl⟩) hS (fun r16 C14 H locs hp15 hW hS => ?_)
              obtain ⟨⟨x, rfl, hxa, hxb, hxs, hxe⟩, ehp15⟩ := hp15
              rw [ehp15] at hW
              have hfar : far a b d kk x := by
                rcases d with _ | d
                · have e9 : kk = 0 := by omega
                  subst e9
                  have e8 : stx F ((0 : Nat) : Int) 0 = 0 := by simp only [stx]; simp [h00 rfl]
                  rw [e8] at hxa hxs
                  exact far_0 hxa hxs hxe
                · obtain ⟨g0, g1, g2, g3, g4, g5⟩ := st_ok (hF0 d rfl) (kk := kk) (by omega) (by omega) (by omega)
                  exact far_next ⟨by omega, by omega⟩ hxa g0 g1 g3 g4 g5 hxs hxe
              refine lv_istore (lv' := [(6, .int (zI x)), (0, .ref (B k u)), (1, .ref (B k1 s1)), (2, .ref (B k2 s2)), (3, .int (zI ((a.length : Int) + (b.length : Int)))), (4, .int (zI (d : Int))), (5, .int (zI kk))]) hx hb dX6_fewestEdits_56 hl (by decide) rfl (fun ls hl => ?_)
              refine lv_aload_n hx hb dX6_fewestEdits_58 rfl (lv_at hl 1 rfl) ?_
              refine g_get (ci := 6) X in_X6_fewestEdits_6 rfl hW h0l 0 (by decide) (hts _ (List.mem_of_getElem? (i := 1) rfl)) rfl dX6_fewestEdits_59 ?_
              refine lv_bipush (v := zI (25)) hx hb dX6_fewestEdits_62 (by decide) ?_
              refine lv_iload hx hb dX6_fewestEdits_64 (lv_at hl 6 rfl) ?_
              refine z_iadd hx hb dX6_fewestEdits_66 ?_
              refine lv_iload hx hb dX6_fewestEdits_67 (lv_at hl 0 rfl) ?_
              refine g_cv (g_runSN X (k_X7_put (a := (25 + kk)) (v := x) hRl (by decide) (⟨by omega, by omega⟩)) ⟨va_cnB 3 hts gX6_fewestEdits_X7_put_n21 rfl rfl rfl (nmw_17 X.2.2.1) (hts _ (List.mem_of_getElem? (i := 9) rfl)) ds_X7_put ⟨Nat.le_of_ble_eq_true rfl, Nat.le_of_ble_eq_true rfl⟩, hts _ (List.mem_of_getElem? (i := 8) rfl), trivial⟩ hW hS rfl hl.1 rfl (Nat.le_of_ble_eq_true rfl) dX6_fewestEdits_69 ⟨Nat.le_of_ble_eq_true rfl, Nat.le_of_ble_eq_true rfl⟩) hS (fun C17 H locs hp18 hW hS => ?_)
              obtain ⟨hs19, hn20⟩ := hp18
              rw [if_pos (show (0 : Int) ≤ (25 + kk) ∧ (25 + kk) < ((51 : Nat) : Int) from ⟨by omega, by omega⟩)] at hs19
              refine lv_iload hx hb dX6_fewestEdits_72 (lv_at hl 0 rfl) ?_
              refine lv_aload_n hx hb dX6_fewestEdits_74 rfl (lv_at hl 2 rfl) ?_
              have ht21 : tx Z B C17 k1 s1 a := (tx.kept ht1l (hn20 k1 s1 (by omega)) (hn20 (k1 + 1) s1 (by omega)))
              refine g_ci (g_runV X (k_X5_size (t := a) ht21 ) (cwV 0 hts gX6_fewestEdits_X5_size rfl rfl rfl ⟨rfl, ds_X5_size⟩ ⟨Nat.le_of_ble_eq_true rfl, Nat.le_of_ble_eq_true rfl⟩) hW hS ht21.2.2.1 rfl rfl hl.1 rfl (Nat.le_of_ble_eq_true rfl) dX6_fewestEdits_75 ⟨Nat.le_of_ble_eq_true rfl, Nat.le_of_ble_eq_true rfl⟩) hS (fun r24 C22 H locs hp23 hW hS => ?_)
              obtain ⟨rfl, ehp23⟩ := hp23
              rw [ehp23] at hW
              refine z_icmp_lt (tgt := 96) hx hb dX6_fewestEdits_78 (by decide) (⟨by omega, by omega⟩) (⟨by omega, by omega⟩) (fun h_78 => ?_) (fun h_78 => ?_)
              · refine z_iinc (lv' := [(5, .int (zI (kk + 2))), (6, .int (zI x)), (0, .ref (B k u)), (1, .ref (B k1 s1)), (2, .ref (B k2 s2)), (3, .int (zI ((a.length : Int) + (b.length : Int)))), (4, .int (zI (d : Int)))]) hx hb dX6_fewestEdits_96 hl (q := 6) rfl (by decide) rfl (fun ls hl => ?_)
                refine lv_goto (tgt := 34) hx hb dX6_fewestEdits_99 (by decide) ?_
                exact ih34 (kk + 2) (ju F (25 + kk).toNat x) _ _ _ (by omega) (by omega) (w_f1 (by omega) ⟨by omega, by omega⟩ hF1 hfar (by omega) hkk.2.2) (w_f0 (by omega) ⟨by omega, by omega⟩ hkk.2.2 hF0) (w_00 ⟨by omega, by omega⟩ h00) hs19 (fun k' i' h => (hn20 k' i' (by omega)).trans (hfl k' i' h)) hW hS _ (lv_sub hl [2, 3, 4, 5, 6, 0] rfl)
              · refine lv_iload hx hb dX6_fewestEdits_81 (lv_at hl 0 rfl) ?_
                refine lv_iload hx hb dX6_fewestEdits_83 (lv_at hl 6 rfl) ?_
                refine z_isub hx hb dX6_fewestEdits_85 ?_
                refine lv_aload_n hx hb dX6_fewestEdits_86 rfl (lv_at hl 3 rfl) ?_
                have ht25 : tx Z B C17 k2 s2 b := (tx.kept ht2l (hn20 k2 s2 (by omega)) (hn20 (k2 + 1) s2 (by omega)))
                refine g_ci (g_runV X (k_X5_size (t := b) ht25 ) (cwV 0 hts gX6_fewestEdits_X5_size rfl rfl rfl ⟨rfl, ds_X5_size⟩ ⟨Nat.le_of_ble_eq_true rfl, Nat.le_of_ble_eq_true rfl⟩) hW hS ht25.2.2.1 rfl rfl hl.1 rfl (Nat.le_of_ble_eq_true rfl) dX6_fewestEdits_87 ⟨Nat.le_of_ble_eq_true rfl, Nat.le_of_ble_eq_true rfl⟩) hS (fun r28 C26 H locs hp27 hW hS => ?_)
                obtain ⟨rfl, ehp27⟩ := hp27
                rw [ehp27] at hW
                refine z_icmp_lt (tgt := 96) hx hb dX6_fewestEdits_90 (by decide) (⟨by omega, by omega⟩) (⟨by omega, by omega⟩) (fun h_90 => ?_) (fun h_90 => ?_)
                · refine z_iinc (lv' := [(5, .int (zI (kk + 2))), (6, .int (zI x)), (0, .ref (B k u)), (1, .ref (B k1 s1)), (2, .ref (B k2 s2)), (3, .int (zI ((a.length : Int) + (b.length : Int)))), (4, .int (zI (d : Int)))]) hx hb dX6_fewestEdits_96 hl (q := 6) rfl (by decide) rfl (fun ls hl => ?_)
                  refine lv_goto (tgt := 34) hx hb dX6_fewestEdits_99 (by decide) ?_
                  exact ih34 (kk + 2) (ju F (25 + kk).toNat x) _ _ _ (by omega) (by omega) (w_f1 (by omega) ⟨by omega, by omega⟩ hF1 hfar (by omega) hkk.2.2) (w_f0 (by omega) ⟨by omega, by omega⟩ hkk.2.2 hF0) (w_00 ⟨by omega, by omega⟩ h00) hs19 (fun k' i' h => (hn20 k' i' (by omega)).trans (hfl k' i' h)) hW hS _ (lv_sub hl [2, 3, 4, 5, 6, 0] rfl)
                · refine lv_iload hx hb dX6_fewestEdits_93 (lv_at hl 5 rfl) ?_
                  exact kret _ _ _ _ _ _ _ _ (⟨congrArg zI (by have := far_end hfar (by omega) (by omega); omega), ⟨_, hs19⟩, fun k' i' h => (hn20 k' i' (by omega)).trans (hfl k' i' h)⟩) hW hS (Nat.le_of_ble_eq_true rfl) (Nat.le_of_ble_eq_true rfl) dX6_fewestEdits_95
        exact lp34 (2 * d + 3) (-(d : Int)) F _ _ _ (by omega) (by omega) (fun k' q1 q2 => by omega) hF0 h00 hRl hfl hW hS _ (lv_sub hl [1, 2, 3, 4, 5, 0] rfl)
  exact lp23 (a.length + b.length + 1) 0 (ju G0 (26 : Int).toNat 0) _ _ _ (by omega) (by omega) (fun d0 h => by omega) (fun _ => rfl) hs9 (fun k' i' h => (hn10 k' i' (by omega))) hW hS _ (lv_sub hl [2, 3, 4, 1, 0] rfl)
