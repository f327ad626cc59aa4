/-! NEW ROUNDS, CHANGES, COMMENTS, RANGES -/
/-- the addresses of the bench's fixed parts and of what is not the bench's stand -/
def gfB (B B' : gB) : Prop := ∀ k' i', k' < 40 ∨ 70 ≤ k' → B' k' i' = B k' i'
/-- a change's cells: those of its own index, and of its rounds -/
theorem chg.kept' {Z : gZ} {B : gB} {C C' : gC} {S : gS} {T : gTx} {i : Nat} (h : chg Z B C S T i) (hf : ∀ k' i', 40 ≤ k' → k' ≤ 50 → (k' = 46 ∨ k' = 47 ∨ i' = i) → C' k' i' = C k' i') (_ : S 2 i ≤ 4) : chg Z B C' S T i := by
  obtain ⟨h1, h2, h3, ⟨f, h4, h5, h6⟩, h7, h8, h9, F, h10, h11⟩ := h
  refine ⟨(hf _ _ (by omega) (by omega) (by omega)).trans h1, h2.kept (hf _ _ (by omega) (by omega) (by omega)) (hf _ _ (by omega) (by omega) (by omega)), h3.kept (hf _ _ (by omega) (by omega) (by omega)) (hf _ _ (by omega) (by omega) (by omega)), ⟨f, (hf _ _ (by omega) (by omega) (by omega)).trans h4, h5, h6⟩, fun r hr => (h7 r hr).kept (hf _ _ (by omega) (by omega) (by omega)) (hf _ _ (by omega) (by omega) (by omega)), fun r hr hr2 => ⟨(hf _ _ (by omega) (by omega) (by omega)).trans (h8 r hr hr2).1, (hf _ _ (by omega) (by omega) (by omega)).trans (h8 r hr hr2).2⟩, h9.kept (hf _ _ (by omega) (by omega) (by omega)) (hf _ _ (by omega) (by omega) (by omega)), F, (hf _ _ (by omega) (by omega) (by omega)).trans h10, h11⟩
theorem chg.Bx {Z : gZ} {B B1 : gB} {C : gC} {S : gS} {T : gTx} {i : Nat} (h : chg Z B C S T i) (hb : ∀ k' i', (k' = 46 ∨ k' = 47 ∨ i' = i) → B1 k' i' = B k' i') (_ : S 2 i ≤ 4) : chg Z B1 C S T i := by
  obtain ⟨h1, h2, h3, ⟨f, h4, h5, h6⟩, h7, h8, h9, h10⟩ := h
  refine ⟨?_, h2.B (hb _ _ (by omega)), h3.B (hb _ _ (by omega)), ⟨f, h4, fun r hr => by rw [hb _ _ (by omega)]; exact h5 r hr, h6⟩, fun r hr => (h7 r hr).B (hb _ _ (by omega)), h8, h9.B (hb _ _ (by omega)), h10⟩
  unfold chO
  rw [hb 41 i (by omega), hb 43 i (by omega), hb 45 i (by omega), hb 48 i (by omega), hb 50 i (by omega)]
  exact h1
theorem chg.lay {Z : gZ} {B B1 : gB} {C C1 : gC} {S : gS} {T : gTx} {i : Nat} {f45 : Nat → Option Nat} (h : chg Z B C S T i) (hi4 : i < 4) (hr4 : S 2 i < 4)
    (e40 : C1 40 i = chO B1 i (i : Int) (S 1 i : Int) ((S 2 i : Int) + 1) (S 4 i : Int) (S 5 i : Int) (S 3 i : Int)) (e43 : tx Z B1 C1 43 i []) (e46 : tx Z B1 C1 46 (4 * i + S 2 i) (T (5 + i)))
    (ha : ∀ r, r < S 2 i → f45 r = some (B 46 (4 * i + r))) (hb : ∀ r, S 2 i ≤ r → f45 r = none) (e45 : C1 45 i = some (gR Z 3 4 (va_up f45 (S 2 i) (some (B1 46 (4 * i + S 2 i))))))
    (hB : ∀ k' i', ¬ ((k' = 46 ∨ k' = 47) ∧ i' = 4 * i + S 2 i) → B1 k' i' = B k' i')
    (hC : ∀ k' i', ¬ ((k' = 40 ∨ k' = 43 ∨ k' = 44 ∨ k' = 45) ∧ i' = i) → ¬ ((k' = 46 ∨ k' = 47) ∧ i' = 4 * i + S 2 i) → C1 k' i' = C k' i') : chg Z B1 C1 (nS_lay S i) (nT_lay S T i) i := by
  obtain ⟨d1, d2, d3, ⟨f9, d4, d5, d6⟩, d7, d8, d9, F9, d10, d11⟩ := h
  have s2 : nS_lay S i 2 i = S 2 i + 1 := su_s
  have so : ∀ k' i', k' ≠ 2 → nS_lay S i k' i' = S k' i' := fun k' i' a => su_k a
  refine ⟨?_, ?_, ?_, ⟨_, e45, fun r hr => ?_, fun r hr => ?_⟩, fun r hr => ?_, fun r hr hr2 => ?_, (d9.kept (hC _ _ (by omega) (by omega)) (hC _ _ (by omega) (by omega))).B (hB _ _ (by omega)), F9, (hC _ _ (by omega) (by omega)).trans d10, fun u hu => by rw [so 7 _ (by omega)]; exact d11 u hu⟩
  · rw [so 1 i (by omega), s2, so 4 i (by omega), so 5 i (by omega), so 3 i (by omega)]; exact e40
  · rw [nT_lay, tu_n (by omega), tu_n (by omega)]
    exact (d2.kept (hC _ _ (by omega) (by omega)) (hC _ _ (by omega) (by omega))).B (hB _ _ (by omega))
  · rw [nT_lay, tu_s]; exact e43
  · rw [s2] at hr
    unfold va_up
    by_cases q : r = S 2 i
    · subst q; exact if_pos rfl
    · rw [if_neg q, hB _ _ (by omega)]; exact ha r (by omega)
  · rw [s2] at hr
    unfold va_up
    rw [if_neg (by omega)]; exact hb r (by omega)
  · rw [s2] at hr
    by_cases q : r = S 2 i
    · subst q; rw [nT_lay, tu_n (by omega), tu_s]; exact e46
    · rw [nT_lay, tu_n (by omega), tu_n (by omega)]
      exact ((d7 r (by omega)).kept (hC _ _ (by omega) (by omega)) (hC _ _ (by omega) (by omega))).B (hB _ _ (by omega))
  · rw [s2] at hr
    have := d8 r (by omega) hr2
    exact ⟨(hC _ _ (by omega) (by omega)).trans this.1, (hC _ _ (by omega) (by omega)).trans this.2⟩
theorem cs.lay {Z : gZ} {B B1 : gB} {C C1 : gC} {S : gS} {T : gTx} {i : Nat} (h : cs Z B C S T) (hwf : wf S T) (hi : i < S 0 0) (hr4 : S 2 i < 4) (hch : chg Z B1 C1 (nS_lay S i) (nT_lay S T i) i)
    (hB : ∀ k' i', ¬ ((k' = 46 ∨ k' = 47) ∧ i' = 4 * i + S 2 i) → B1 k' i' = B k' i')
    (hC : ∀ k' i', ¬ ((k' = 40 ∨ k' = 43 ∨ k' = 44 ∨ k' = 45) ∧ i' = i) → ¬ ((k' = 46 ∨ k' = 47) ∧ i' = 4 * i + S 2 i) → C1 k' i' = C k' i') : cs Z B1 C1 (nS_lay S i) (nT_lay S T i) := by
  have h4 := hwf.n.1
  have hn := (cs.ch h hi).2.2.2.2.2.1 (S 2 i) (Nat.le_refl _) hr4
  refine cs.one h hi (fun k' i' z _ => su_n (by omega)) ?_ (fun c hc => ?_) (fun c hc => ?_) (fun c r hc hr => ?_) h4 (fun c hc => (hwf.ch hc).2.1) (fun q hq => (hwf.rm hq).1) hch (fun k' i' z z2 => hC k' i' (by omega) (by omega)) (fun k' i' z => ?_)
  · rw [nT_lay, tu_n (by omega), tu_n (by omega)]
  · by_cases q : c < 4
    · rw [nT_lay, tu_n (by omega), tu_n (by omega)]; exact Or.inl rfl
    · exact Or.inr (by omega)
  · by_cases q : c < 4
    · rw [nT_lay, tu_n (by omega), tu_n (by omega)]; exact Or.inl rfl
    · exact Or.inr (by omega)
  · rw [nT_lay, tu_n (by omega), tu_n (by omega)]
  · refine hB k' i' (fun z3 => ?_)
    rcases z with z | z
    · omega
    · rcases z3 with ⟨z3 | z3, z4⟩
      · subst z3; subst z4; exact z hn.1
      · subst z3; subst z4; exact z hn.2
theorem cs.newc {Z : gZ} {B B1 : gB} {C C1 : gC} {S : gS} {T : gTx} {u : Int} {f4 : Nat → Option Nat} (h : cs Z B C S T) (hwf : wf S T) (hz : wz S T) (hu : 0 ≤ u) (hn4 : S 0 0 < 4)
    (e0 : C1 0 0 = beO B1 (S 0 1 : Int) ((S 0 0 : Int) + 1) (S 0 2 : Int) (S 0 3 : Int)) (e40 : C1 40 (S 0 0) = chO B1 (S 0 0) (S 0 0 : Int) u 0 0 0 0) (e41 : tx Z B1 C1 41 (S 0 0) (T 0)) (e43 : tx Z B1 C1 43 (S 0 0) []) (e45 : C1 45 (S 0 0) = some (gR Z 3 4 (fun _ => none)))
    (e48 : tx Z B1 C1 48 (S 0 0) []) (e50 : ∃ F, C1 50 (S 0 0) = some (gJ Z 5 F) ∧ ∀ u, u < 5 → F u = -1)
    (ha : ∀ i, i < S 0 0 → f4 i = some (B 40 i)) (hb : ∀ i, S 0 0 ≤ i → f4 i = none) (e4 : C1 4 0 = some (gR Z 1 4 (va_up f4 (S 0 0) (some (B1 40 (S 0 0))))))
    (hB : ∀ k' i', ¬ (40 ≤ k' ∧ k' ≤ 50 ∧ k' ≠ 46 ∧ k' ≠ 47 ∧ i' = S 0 0) → B1 k' i' = B k' i')
    (hC : ∀ k' i', ¬ (k' = 0 ∧ i' = 0) → ¬ (k' = 4 ∧ i' = 0) → ¬ (40 ≤ k' ∧ k' ≤ 50 ∧ k' ≠ 46 ∧ k' ≠ 47 ∧ i' = S 0 0) → C1 k' i' = C k' i') : cs Z B1 C1 (nS_open S u) (nT_open S T) := by
  have hcs := h
  obtain ⟨h1, h2, ⟨F, h3, h3'⟩, ⟨f, h4', h4a, h4b⟩, ⟨g, h5, h5a, h5b⟩, ⟨G, h6, h6'⟩, h7, h8, h9, h10, h11⟩ := h
  obtain ⟨z2, z3, z4, z5, z7, zT⟩ := hz.1 (S 0 0) (Nat.le_refl _)
  have s00 : nS_open S u 0 0 = S 0 0 + 1 := su_s
  have s1 : nS_open S u 1 (S 0 0) = u.toNat := by rw [nS_open, su_n (by omega), su_s]
  have so : ∀ k' i', ¬ (k' = 0 ∧ i' = 0) → ¬ (k' = 1 ∧ i' = S 0 0) → nS_open S u k' i' = S k' i' := fun k' i' a b => by rw [nS_open, su_n a, su_n b]
  have oo : ∀ n x, ownr (nS_open S u) n x = ownr S n x := fun n x => by
    induction n with
    | zero => rfl
    | succ n ih => unfold ownr; rw [so 8 n (by omega) (by omega), so 9 n (by omega) (by omega), so 10 n (by omega) (by omega), ih]
  have tn : ∀ k, ¬ k = 1 + S 0 0 → nT_open S T k = T k := fun k a => tu_n a
  refine ⟨?_, ?_, ⟨F, (hC _ _ (by omega) (by omega) (by omega)).trans h3, fun x hx => by rw [h3' x hx, ownf, ownf, so 0 1 (by omega) (by omega), oo]⟩, ⟨_, e4, fun i hi => ?_, fun i hi => ?_⟩, ⟨g, (hC _ _ (by omega) (by omega) (by omega)).trans h5, fun q hq => ?_, fun q hq => h5b q (by rwa [so 0 2 (by omega) (by omega)] at hq)⟩, ⟨G, (hC _ _ (by omega) (by omega) (by omega)).trans h6, fun p hp => ?_⟩, fun i hi => ?_, fun q hq => ?_, fun i k a1 a2 a3 a4 a5 => ?_, fun i hi => ?_, fun q hq => ?_⟩
  · rw [s00, so 0 1 (by omega) (by omega), so 0 2 (by omega) (by omega), so 0 3 (by omega) (by omega)]; exact e0
  · rw [tn 0 (by omega)]
    exact (h2.kept (hC _ _ (by omega) (by omega) (by omega)) (hC _ _ (by omega) (by omega) (by omega))).B (hB _ _ (by omega))
  · rw [s00] at hi
    unfold va_up
    by_cases q : i = S 0 0
    · subst q; exact if_pos rfl
    · rw [if_neg q, hB _ _ (by omega)]; exact ha i (by omega)
  · rw [s00] at hi
    unfold va_up
    rw [if_neg (by omega)]; exact hb i (by omega)
  · rw [so 0 2 (by omega) (by omega)] at hq
    rw [hB _ _ (by omega)]; exact h5a q hq
  · rw [so 0 3 (by omega) (by omega)] at hp
    rw [so 6 p (by omega) (by omega)]; exact h6' p hp
  · rw [s00] at hi
    by_cases q : i = S 0 0
    · subst q
      refine ⟨?_, ?_, ?_, ⟨_, e45, fun r hr => ?_, fun r hr => rfl⟩, fun r hr => ?_, fun r hr hr2 => ?_, e48, ?_⟩
      · rw [s1, so 2 _ (by omega) (by omega), so 3 _ (by omega) (by omega), so 4 _ (by omega) (by omega), so 5 _ (by omega) (by omega), z2, z3, z4, z5, show ((u.toNat : Nat) : Int) = u by omega]; exact e40
      · rw [nT_open, tu_s]; exact e41
      · rw [tn _ (by omega), zT hn4]; exact e43
      · rw [so 2 _ (by omega) (by omega), z2] at hr; omega
      · rw [so 2 _ (by omega) (by omega), z2] at hr; omega
      · have := h10 (4 * S 0 0 + r) (by omega)
        exact ⟨(hC _ _ (by omega) (by omega) (by omega)).trans this.1, (hC _ _ (by omega) (by omega) (by omega)).trans this.2⟩
      · obtain ⟨F9, e51, e52⟩ := e50
        exact ⟨F9, e51, fun v hv => by rw [e52 v hv, so 7 _ (by omega) (by omega), z7 v hv]; rfl⟩
    · have hi' : i < S 0 0 := by omega
      have hw4 := (hwf.ch hi').2.1
      have hk := ((h7 i hi').kept' (C' := C1) (fun k' i' a b c => hC k' i' (by omega) (by omega) (by omega)) hw4).Bx (B1 := B1) (fun k' i' a => hB k' i' (by omega)) hw4
      unfold chg at hk ⊢
      rw [so 1 i (by omega) (by omega), so 2 i (by omega) (by omega), so 3 i (by omega) (by omega), so 4 i (by omega) (by omega), so 5 i (by omega) (by omega), tn (1 + i) (by omega), tn (5 + i) (by omega)]
      refine ⟨hk.1, hk.2.1, hk.2.2.1, hk.2.2.2.1, fun r hr => by rw [tn _ (by omega)]; exact hk.2.2.2.2.1 r hr, hk.2.2.2.2.2.1, hk.2.2.2.2.2.2.1, ?_⟩
      obtain ⟨F9, e51, e52⟩ := hk.2.2.2.2.2.2.2
      exact ⟨F9, e51, fun v hv => by rw [so 7 _ (by omega) (by omega)]; exact e52 v hv⟩
  · rw [so 0 2 (by omega) (by omega)] at hq
    have hw := (hwf.rm hq).1
    rw [so 11 q (by omega) (by omega), so 12 q (by omega) (by omega), so 13 q (by omega) (by omega), so 14 q (by omega) (by omega)]
    unfold rmO
    rw [hB _ _ (by omega)]
    exact (hC _ _ (by omega) (by omega) (by omega)).trans (h8 q hq)
  · rw [s00] at a1
    exact (hC _ _ (by omega) (by omega) (by omega)).trans (h9 i k (by omega) a2 a3 a4 a5)
  · rw [s00] at hi
    exact ⟨(hC _ _ (by omega) (by omega) (by omega)).trans (h10 i (by omega)).1, (hC _ _ (by omega) (by omega) (by omega)).trans (h10 i (by omega)).2⟩
  · rw [so 0 2 (by omega) (by omega)] at hq
    exact (hC _ _ (by omega) (by omega) (by omega)).trans (h11 q hq)
