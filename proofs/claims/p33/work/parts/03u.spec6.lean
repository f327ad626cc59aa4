/-! WHAT CALLS CHANGE -/
theorem lsum_su {S : gS} {k i v : Nat} (hk : ¬ k = 5) : ∀ n, lsum (su S k i v) n = lsum S n
  | 0 => rfl
  | n + 1 => by
    unfold lsum
    rw [lsum_su hk n, su_k (by omega)]
theorem wf.upd {S : gS} {T : gTx} (h : wf S T) {k i v : Nat} (hk : k = 3 ∨ k = 4 ∨ k = 7) (h3 : k = 3 → v < 16) (h4 : k = 4 → v ≤ 9) (h7 : k = 7 → ∀ c u, i = 5 * c + u → u < 5 → c < S 0 0 → v ≤ S 2 c) : wf (su S k i v) T := by
  obtain ⟨a1, a2, a3, a4, a5, a6, a7, a8, a9⟩ := id h
  have o : ∀ k' i', k' ≠ k → su S k i v k' i' = S k' i' := fun k' i' b => su_k b
  refine ⟨by rw [o 0 0 (by omega)]; exact a1, by rw [o 0 1 (by omega)]; exact a2, by rw [o 0 2 (by omega)]; exact a3, by rw [o 0 3 (by omega), o 0 0 (by omega), lsum_su (by omega)]; exact a4, fun c hc => ?_, fun p hp => ?_, fun r hr => ?_, fun q hq => ?_, a9⟩
  · rw [o 0 0 (by omega)] at hc
    have hw := a5 c hc
    rw [o 1 c (by omega), o 2 c (by omega), o 5 c (by omega)]
    refine ⟨hw.1, hw.2.1, ?_, ?_, hw.2.2.2.2.1, fun u hu => ?_⟩
    · by_cases e : k = 3 ∧ i = c
      · rw [e.1, e.2, su_s]; exact h3 e.1
      · rw [su_n (by omega)]; exact hw.2.2.1
    · by_cases e : k = 4 ∧ i = c
      · rw [e.1, e.2, su_s]; exact h4 e.1
      · rw [su_n (by omega)]; exact hw.2.2.2.1
    · by_cases e : k = 7 ∧ i = 5 * c + u
      · rw [e.1, e.2, su_s]; exact h7 e.1 c u e.2 hu hc
      · rw [su_n (by omega)]; exact hw.2.2.2.2.2 u hu
  · rw [o 0 3 (by omega)] at hp
    rw [o 6 p (by omega)]; exact a6 p hp
  · rw [o 0 1 (by omega)] at hr
    rw [o 8 r (by omega), o 9 r (by omega), o 10 r (by omega)]; exact a7 r hr
  · rw [o 0 2 (by omega)] at hq
    rw [o 11 q (by omega), o 12 q (by omega), o 13 q (by omega), o 14 q (by omega), o 0 0 (by omega), o 2 _ (by omega)]; exact a8 q hq
theorem wf.draft {S : gS} {T : gTx} (h : wf S T) {i : Nat} {t : List Int} (hi : i < 4) (ht : t.length ≤ 12) (ht2 : ∀ x ∈ t, 0 ≤ x ∧ x < 100) : wf S (tu T (5 + i) t) := by
  obtain ⟨a1, a2, a3, a4, a5, a6, a7, a8, a9⟩ := id h
  refine ⟨a1, a2, a3, a4, a5, a6, a7, fun q hq => ?_, fun k => ?_⟩
  · rw [tu_n (by omega)]; exact a8 q hq
  · by_cases e : k = 5 + i
    · rw [e, tu_s]; exact ⟨ht, ht2⟩
    · rw [tu_n e]; exact a9 k
theorem cs.prio {Z : gZ} {B : gB} {C C' : gC} {S : gS} {T : gTx} {i v : Nat} (h : cs Z B C S T) (hwf : wf S T) (hi : i < S 0 0) (e : C' 40 i = chO B i (i : Int) (S 1 i : Int) (S 2 i : Int) (v : Int) (S 5 i : Int) (S 3 i : Int))
    (hf : ∀ k' i', ¬ (k' = 40 ∧ i' = i) → C' k' i' = C k' i') : cs Z B C' (su S 4 i v) T := by
  refine cs.one h hi (fun k' i' z _ => su_n (by omega)) rfl (fun _ _ => Or.inl rfl) (fun _ _ => Or.inl rfl) (fun _ _ _ _ => rfl) hwf.n.1 (fun c hc => (hwf.ch hc).2.1) (fun q hq => (hwf.rm hq).1) ?_ (fun k' i' z _ => hf k' i' (by omega)) (fun _ _ _ => rfl)
  obtain ⟨d1, d2, d3, ⟨f9, d4, d5, d6⟩, d7, d8, d9, F9, d10, d11⟩ := cs.ch h hi
  have hC : ∀ k' i', 41 ≤ k' → C' k' i' = C k' i' := fun k' i' a => hf _ _ (by omega)
  refine ⟨?_, d2.kept (hC _ _ (by omega)) (hC _ _ (by omega)), d3.kept (hC _ _ (by omega)) (hC _ _ (by omega)), ⟨f9, (hC _ _ (by omega)).trans d4, fun r hr => d5 r (by rwa [su_n (by omega)] at hr), fun r hr => d6 r (by rwa [su_n (by omega)] at hr)⟩, fun r hr => (d7 r (by rwa [su_n (by omega)] at hr)).kept (hC _ _ (by omega)) (hC _ _ (by omega)), fun r hr hr2 => ?_, d9.kept (hC _ _ (by omega)) (hC _ _ (by omega)), F9, (hC _ _ (by omega)).trans d10, fun u hu => by rw [su_n (by omega)]; exact d11 u hu⟩
  · rw [su_n (by omega), su_n (by omega), su_s, su_n (by omega), su_n (by omega)]; exact e
  · have := d8 r (by rwa [su_n (by omega)] at hr) hr2
    exact ⟨(hC _ _ (by omega)).trans this.1, (hC _ _ (by omega)).trans this.2⟩
theorem cs.bef {Z : gZ} {B : gB} {C C' : gC} {S : gS} {T : gTx} {i v : Nat} (h : cs Z B C S T) (hwf : wf S T) (hi : i < S 0 0) (e : C' 40 i = chO B i (i : Int) (S 1 i : Int) (S 2 i : Int) (S 4 i : Int) (S 5 i : Int) (v : Int))
    (hf : ∀ k' i', ¬ (k' = 40 ∧ i' = i) → C' k' i' = C k' i') : cs Z B C' (su S 3 i v) T := by
  refine cs.one h hi (fun k' i' z _ => su_n (by omega)) rfl (fun _ _ => Or.inl rfl) (fun _ _ => Or.inl rfl) (fun _ _ _ _ => rfl) hwf.n.1 (fun c hc => (hwf.ch hc).2.1) (fun q hq => (hwf.rm hq).1) ?_ (fun k' i' z _ => hf k' i' (by omega)) (fun _ _ _ => rfl)
  obtain ⟨d1, d2, d3, ⟨f9, d4, d5, d6⟩, d7, d8, d9, F9, d10, d11⟩ := cs.ch h hi
  have hC : ∀ k' i', 41 ≤ k' → C' k' i' = C k' i' := fun k' i' a => hf _ _ (by omega)
  refine ⟨?_, d2.kept (hC _ _ (by omega)) (hC _ _ (by omega)), d3.kept (hC _ _ (by omega)) (hC _ _ (by omega)), ⟨f9, (hC _ _ (by omega)).trans d4, fun r hr => d5 r (by rwa [su_n (by omega)] at hr), fun r hr => d6 r (by rwa [su_n (by omega)] at hr)⟩, fun r hr => (d7 r (by rwa [su_n (by omega)] at hr)).kept (hC _ _ (by omega)) (hC _ _ (by omega)), fun r hr hr2 => ?_, d9.kept (hC _ _ (by omega)) (hC _ _ (by omega)), F9, (hC _ _ (by omega)).trans d10, fun u hu => by rw [su_n (by omega)]; exact d11 u hu⟩
  · rw [su_n (by omega), su_n (by omega), su_n (by omega), su_n (by omega), su_s]; exact e
  · have := d8 r (by rwa [su_n (by omega)] at hr) hr2
    exact ⟨(hC _ _ (by omega)).trans this.1, (hC _ _ (by omega)).trans this.2⟩
theorem cs.appr {Z : gZ} {B : gB} {C C' : gC} {S : gS} {T : gTx} {i u v : Nat} {F50 : Nat → Int} (h : cs Z B C S T) (hwf : wf S T) (hi : i < S 0 0) (hu : u < 5) (hF : ∀ u, u < 5 → F50 u = (S 7 (5 * i + u) : Int) - 1) (e : C' 50 i = some (gJ Z 5 (ju F50 u ((v : Int) - 1))))
    (hf : ∀ k' i', ¬ (k' = 50 ∧ i' = i) → C' k' i' = C k' i') : cs Z B C' (su S 7 (5 * i + u) v) T := by
  refine cs.one h hi (fun k' i' _ z => su_n (by omega)) rfl (fun _ _ => Or.inl rfl) (fun _ _ => Or.inl rfl) (fun _ _ _ _ => rfl) hwf.n.1 (fun c hc => (hwf.ch hc).2.1) (fun q hq => (hwf.rm hq).1) ?_ (fun k' i' z _ => hf k' i' (by omega)) (fun _ _ _ => rfl)
  obtain ⟨d1, d2, d3, ⟨f9, d4, d5, d6⟩, d7, d8, d9, F9, d10, d11⟩ := cs.ch h hi
  have hC : ∀ k' i', k' < 50 → C' k' i' = C k' i' := fun k' i' a => hf _ _ (by omega)
  refine ⟨?_, d2.kept (hC _ _ (by omega)) (hC _ _ (by omega)), d3.kept (hC _ _ (by omega)) (hC _ _ (by omega)), ⟨f9, (hC _ _ (by omega)).trans d4, fun r hr => d5 r (by rwa [su_n (by omega)] at hr), fun r hr => d6 r (by rwa [su_n (by omega)] at hr)⟩, fun r hr => (d7 r (by rwa [su_n (by omega)] at hr)).kept (hC _ _ (by omega)) (hC _ _ (by omega)), fun r hr hr2 => ?_, d9.kept (hC _ _ (by omega)) (hC _ _ (by omega)), _, e, fun w hw => ?_⟩
  · rw [su_n (by omega), su_n (by omega), su_n (by omega), su_n (by omega), su_n (by omega)]; exact (hC _ _ (by omega)).trans d1
  · have := d8 r (by rwa [su_n (by omega)] at hr) hr2
    exact ⟨(hC _ _ (by omega)).trans this.1, (hC _ _ (by omega)).trans this.2⟩
  · by_cases q : w = u
    · rw [q, ju_s, su_s]
    · rw [ju_n q, su_n (by omega)]; exact hF w hw
theorem cs.draft {Z : gZ} {B : gB} {C C' : gC} {S : gS} {T : gTx} {i : Nat} {t : List Int} (h : cs Z B C S T) (hwf : wf S T) (hi : i < S 0 0) (e : tx Z B C' 43 i t)
    (hf : ∀ k' i', ¬ ((k' = 43 ∨ k' = 44) ∧ i' = i) → C' k' i' = C k' i') : cs Z B C' S (tu T (5 + i) t) := by
  have h4 := hwf.n.1
  refine cs.one h hi (fun k' i' _ _ => rfl) (tu_n (by omega)) (fun c hc => by by_cases q : c < 4; (exact Or.inl (tu_n (by omega))); exact Or.inr (by omega)) (fun c hc => Or.inl (tu_n (by omega))) (fun c r _ _ => tu_n (by omega)) hwf.n.1 (fun c hc => (hwf.ch hc).2.1) (fun q hq => (hwf.rm hq).1) ?_ (fun k' i' z _ => hf k' i' (by omega)) (fun _ _ _ => rfl)
  obtain ⟨d1, d2, d3, ⟨f9, d4, d5, d6⟩, d7, d8, d9, F9, d10, d11⟩ := cs.ch h hi
  have hC : ∀ k' i', k' ≠ 43 → k' ≠ 44 → C' k' i' = C k' i' := fun k' i' a b => hf _ _ (by omega)
  refine ⟨(hC _ _ (by omega) (by omega)).trans d1, ?_, by rw [tu_s]; exact e, ⟨f9, (hC _ _ (by omega) (by omega)).trans d4, d5, d6⟩, fun r hr => ?_, fun r hr hr2 => ⟨(hC _ _ (by omega) (by omega)).trans (d8 r hr hr2).1, (hC _ _ (by omega) (by omega)).trans (d8 r hr hr2).2⟩, d9.kept (hC _ _ (by omega) (by omega)) (hC _ _ (by omega) (by omega)), F9, (hC _ _ (by omega) (by omega)).trans d10, d11⟩
  · rw [tu_n (by omega)]; exact d2.kept (hC _ _ (by omega) (by omega)) (hC _ _ (by omega) (by omega))
  · rw [tu_n (by omega)]; exact (d7 r hr).kept (hC _ _ (by omega) (by omega)) (hC _ _ (by omega) (by omega))
/-- a comment is resolved -/
theorem cs.reso {Z : gZ} {B : gB} {C C' : gC} {S : gS} {T : gTx} {q : Nat} (h : cs Z B C S T) (hq : q < S 0 2) (e : C' 60 q = rmO B (S 11 q) (S 12 q : Int) (S 13 q : Int) 1)
    (hf : ∀ k' i', ¬ (k' = 60 ∧ i' = q) → C' k' i' = C k' i') : cs Z B C' (su S 14 q 1) T := by
  obtain ⟨h1, h2, ⟨F, h3, h3'⟩, ⟨f, h4, h4'⟩, ⟨g, h5, h5'⟩, ⟨G, h6, h6'⟩, h7, h8, h9, h10, h11⟩ := h
  have o : ∀ k' i', k' ≠ 14 → su S 14 q 1 k' i' = S k' i' := fun k' i' a => su_k a
  have oo : ∀ n x, ownr (su S 14 q 1) n x = ownr S n x := fun n x => by
    induction n with
    | zero => rfl
    | succ n ih => unfold ownr; rw [o 8 n (by omega), o 9 n (by omega), o 10 n (by omega), ih]
  have hC : ∀ k' i', k' ≠ 60 → C' k' i' = C k' i' := fun k' i' a => hf _ _ (by omega)
  refine ⟨by rw [o 0 0 (by omega), o 0 1 (by omega), o 0 2 (by omega), o 0 3 (by omega)]; exact (hC _ _ (by omega)).trans h1, h2.kept (hC _ _ (by omega)) (hC _ _ (by omega)), ⟨F, (hC _ _ (by omega)).trans h3, fun x hx => by rw [h3' x hx, ownf, ownf, o 0 1 (by omega), oo]⟩, ⟨f, (hC _ _ (by omega)).trans h4, by rw [o 0 0 (by omega)]; exact h4'⟩, ⟨g, (hC _ _ (by omega)).trans h5, by rw [o 0 2 (by omega)]; exact h5'⟩, ⟨G, (hC _ _ (by omega)).trans h6, fun p hp => by rw [o 6 p (by omega)]; exact h6' p (by rwa [o 0 3 (by omega)] at hp)⟩, fun i hi => ?_, fun p hp => ?_, fun i k a1 a2 a3 a4 a5 => (hC _ _ (by omega)).trans (h9 i k (by rwa [o 0 0 (by omega)] at a1) a2 a3 a4 a5), fun i hi => ?_, fun p hp => ?_⟩
  · rw [o 0 0 (by omega)] at hi
    have hc := (h7 i hi).kept (C' := C') (fun k' i' a b => hC _ _ (by omega))
    unfold chg at hc ⊢
    rw [o 1 i (by omega), o 2 i (by omega), o 3 i (by omega), o 4 i (by omega), o 5 i (by omega)]
    simpa only [o 7 _ (show (7 : Nat) ≠ 14 by omega)] using hc
  · rw [o 0 2 (by omega)] at hp
    rw [o 11 p (by omega), o 12 p (by omega), o 13 p (by omega)]
    by_cases q9 : p = q
    · subst q9; rw [su_s]; exact e
    · rw [su_n (by omega)]; exact (hf _ _ (by omega)).trans (h8 p hp)
  · rw [o 0 0 (by omega)] at hi
    exact ⟨(hC _ _ (by omega)).trans (h10 i hi).1, (hC _ _ (by omega)).trans (h10 i hi).2⟩
  · rw [o 0 2 (by omega)] at hp
    exact (hf _ _ (by omega)).trans (h11 p hp)
theorem fst5_t {n k : Nat} (hk : k < 5) (h : n.testBit k = true) : fst5 n (5 - k) = some k := by
  rw [show 5 - k = (4 - k) + 1 by omega, fst5, show 5 - (4 - k + 1) = k by omega, if_pos h]
theorem fst5_f {n k : Nat} (hk : k < 5) (h : ¬ n.testBit k = true) : fst5 n (5 - (k + 1)) = fst5 n (5 - k) := by
  rw [show 5 - k = (4 - k) + 1 by omega]
  conv => rhs; unfold fst5
  rw [show 5 - (4 - k + 1) = k by omega, if_neg h, show 5 - (k + 1) = 4 - k by omega]
theorem mis_0 {S : gS} {T : gTx} {i : Nat} (h : S 2 i = 0) : mis S T i = none := by
  unfold mis nee bdif
  rw [if_pos h, Nat.zero_and]
  decide
theorem bset_16' {n j : Nat} (hn : n < 16) (hj : j < 4) : bset n j < 16 := bset_16 ⟨n, hn⟩ ⟨j, hj⟩
