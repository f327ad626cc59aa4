/-! LANDING -/
theorem rsn_l {S : gS} {T : gTx} {i : Nat} (h : S 5 i ≠ 0) : rsn S T i = 108 := by unfold rsn; rw [if_pos h]
theorem rsn_r {S : gS} {T : gTx} {i : Nat} (h : S 5 i = 0) (h1 : S 2 i = 0) : rsn S T i = 114 := by unfold rsn; rw [if_neg (by omega), if_pos h1]
theorem rsn_d {S : gS} {T : gTx} {i : Nat} (h : S 5 i = 0) (h1 : ¬ S 2 i = 0) (h2 : wai S i (S 0 0) = true) : rsn S T i = 100 := by unfold rsn; rw [if_neg (by omega), if_neg h1, if_pos h2]
theorem rsn_c {S : gS} {T : gTx} {i : Nat} (h : S 5 i = 0) (h1 : ¬ S 2 i = 0) (h2 : ¬ wai S i (S 0 0) = true) (h3 : 0 < opn S i) : rsn S T i = 99 := by unfold rsn; rw [if_neg (by omega), if_neg h1, if_neg h2, if_pos h3]
theorem rsn_a {S : gS} {T : gTx} {i : Nat} (h : S 5 i = 0) (h1 : ¬ S 2 i = 0) (h2 : ¬ wai S i (S 0 0) = true) (h3 : ¬ 0 < opn S i) (h4 : bdif (nee S T i) (fre S T i) ≠ 0) : rsn S T i = 97 := by
  unfold rsn; rw [if_neg (by omega), if_neg h1, if_neg h2, if_neg h3, if_pos h4]
theorem rsn_m {S : gS} {T : gTx} {i : Nat} (h : S 5 i = 0) (h1 : ¬ S 2 i = 0) (h2 : ¬ wai S i (S 0 0) = true) (h3 : ¬ 0 < opn S i) (h4 : bdif (nee S T i) (fre S T i) = 0) (h5 : mg3 (T (1 + i)) (T 0) (prs S T i) = none) : rsn S T i = 109 := by
  unfold rsn; rw [if_neg (by omega), if_neg h1, if_neg h2, if_neg h3, if_neg (by omega), h5]
theorem rsn_s {S : gS} {T : gTx} {i : Nat} {x : List Int} (h : S 5 i = 0) (h1 : ¬ S 2 i = 0) (h2 : ¬ wai S i (S 0 0) = true) (h3 : ¬ 0 < opn S i) (h4 : bdif (nee S T i) (fre S T i) = 0) (h5 : mg3 (T (1 + i)) (T 0) (prs S T i) = some x) (h6 : 12 < x.length) : rsn S T i = 115 := by
  unfold rsn; rw [if_neg (by omega), if_neg h1, if_neg h2, if_neg h3, if_neg (by omega), h5]; exact if_pos h6
theorem rsn_k {S : gS} {T : gTx} {i : Nat} {x : List Int} (h : S 5 i = 0) (h1 : ¬ S 2 i = 0) (h2 : ¬ wai S i (S 0 0) = true) (h3 : ¬ 0 < opn S i) (h4 : bdif (nee S T i) (fre S T i) = 0) (h5 : mg3 (T (1 + i)) (T 0) (prs S T i) = some x) (h6 : ¬ 12 < x.length) : rsn S T i = 32 := by
  unfold rsn; rw [if_neg (by omega), if_neg h1, if_neg h2, if_neg h3, if_neg (by omega), h5]; exact if_neg h6
theorem rsn_nar (S : gS) (T : gTx) (i : Nat) : narrow .char (.int (zI (rsn S T i : Int))) = .int (zI (rsn S T i : Int)) := by
  rcases rsn_cases S T i with h | h | h | h | h | h | h | h <;> rw [h] <;> rfl
theorem ldS_o {S : gS} {i k' i' : Nat} (h1 : ¬ (k' = 5 ∧ i' = i)) (h2 : ¬ (k' = 6 ∧ i' = S 0 3)) (h3 : ¬ (k' = 0 ∧ i' = 3)) : ldS S i k' i' = S k' i' := by
  unfold ldS
  rw [su_n h3, su_n h2, su_n h1]
theorem ldS_5 {S : gS} {i : Nat} : ldS S i 5 i = 1 := by
  unfold ldS
  rw [su_n (by omega), su_n (by omega), su_s]
theorem ldS_6 {S : gS} {i : Nat} : ldS S i 6 (S 0 3) = i := by
  unfold ldS
  rw [su_n (by omega), su_s]
theorem ldS_3 {S : gS} {i : Nat} : ldS S i 0 3 = S 0 3 + 1 := by
  unfold ldS
  rw [su_s]
theorem ldT_0 {S : gS} {T : gTx} {i : Nat} {x : List Int} (h : mg3 (T (1 + i)) (T 0) (prs S T i) = some x) : ldT S T i 0 = x := by
  unfold ldT
  rw [tu_s, h]; rfl
theorem ldT_o {S : gS} {T : gTx} {i k : Nat} (h : ¬ k = 0) : ldT S T i k = T k := by
  unfold ldT
  exact tu_n h
theorem ownr_ld {S : gS} {i : Nat} : ∀ n x, ownr (ldS S i) n x = ownr S n x
  | 0, x => rfl
  | n + 1, x => by
    unfold ownr
    rw [ldS_o (k' := 8) (by omega) (by omega) (by omega), ldS_o (k' := 9) (by omega) (by omega) (by omega), ldS_o (k' := 10) (by omega) (by omega) (by omega), ownr_ld n x]
theorem lsum_ld {S : gS} {i : Nat} (h : S 5 i = 0) : ∀ n, lsum (ldS S i) n = lsum S n + if i < n then 1 else 0
  | 0 => rfl
  | n + 1 => by
    unfold lsum
    rw [lsum_ld h n]
    by_cases e : n = i
    · subst e
      rw [ldS_5, h, if_neg (by omega), if_pos (by omega)]
    · rw [ldS_o (by omega) (by omega) (by omega)]
      by_cases q : i < n
      · rw [if_pos q, if_pos (by omega)]; omega
      · rw [if_neg q, if_neg (by omega), Nat.add_zero, Nat.add_zero]
theorem wf.land {S : gS} {T : gTx} (h : wf S T) {i : Nat} (hi : i < S 0 0) (hr : rsn S T i = 32) : wf (ldS S i) (ldT S T i) := by
  obtain ⟨h5, h2, x, hx, hx12⟩ := rsn_ok hr
  obtain ⟨a1, a2, a3, a4, a5, a6, a7, a8, a9⟩ := id h
  have o : ∀ k' i', k' ≠ 5 → k' ≠ 6 → ¬ (k' = 0 ∧ i' = 3) → ldS S i k' i' = S k' i' := fun k' i' b1 b2 b3 => ldS_o (by omega) (by omega) b3
  have hld := h.ld' hi h5
  refine ⟨by rw [o 0 0 (by omega) (by omega) (by omega)]; exact a1, by rw [o 0 1 (by omega) (by omega) (by omega)]; exact a2, by rw [o 0 2 (by omega) (by omega) (by omega)]; exact a3, ?_, fun c hc => ?_, fun p hp => ?_, fun r hr => ?_, fun q hq => ?_, fun k => ?_⟩
  · rw [ldS_3, o 0 0 (by omega) (by omega) (by omega), lsum_ld h5, if_pos hi, a4]
  · rw [o 0 0 (by omega) (by omega) (by omega)] at hc
    have hw := a5 c hc
    rw [o 1 c (by omega) (by omega) (by omega), o 2 c (by omega) (by omega) (by omega), o 3 c (by omega) (by omega) (by omega), o 4 c (by omega) (by omega) (by omega)]
    refine ⟨hw.1, hw.2.1, hw.2.2.1, hw.2.2.2.1, ?_, fun u hu => by rw [o 7 _ (by omega) (by omega) (by omega)]; exact hw.2.2.2.2.2 u hu⟩
    by_cases e : c = i
    · subst e; rw [ldS_5]; omega
    · rw [ldS_o (by omega) (by omega) (by omega)]; exact hw.2.2.2.2.1
  · rw [ldS_3] at hp
    by_cases e : p = S 0 3
    · subst e; rw [ldS_6]; omega
    · rw [ldS_o (by omega) (by omega) (by omega)]; exact a6 p (by omega)
  · rw [o 0 1 (by omega) (by omega) (by omega)] at hr
    rw [o 8 r (by omega) (by omega) (by omega), o 9 r (by omega) (by omega) (by omega), o 10 r (by omega) (by omega) (by omega)]
    exact a7 r hr
  · rw [o 0 2 (by omega) (by omega) (by omega)] at hq
    rw [o 11 q (by omega) (by omega) (by omega), o 12 q (by omega) (by omega) (by omega), o 13 q (by omega) (by omega) (by omega), o 14 q (by omega) (by omega) (by omega), o 0 0 (by omega) (by omega) (by omega), o 2 _ (by omega) (by omega) (by omega), ldT_o (by omega)]
    exact a8 q hq
  · by_cases e : k = 0
    · subst e
      rw [ldT_0 hx]
      exact ⟨hx12, mg3_mem (h.tc _) (h.tc _) (h.tc _) hx⟩
    · rw [ldT_o e]; exact a9 k
theorem cs.land {Z : gZ} {B : gB} {C C' : gC} {S : gS} {T : gTx} {i : Nat} {x : List Int} {F6 : Nat → Int} (h : cs Z B C S T) (hwf : wf S T) (hi : i < S 0 0) (hx : mg3 (T (1 + i)) (T 0) (prs S T i) = some x)
    (hF6 : ∀ p, p < S 0 3 → F6 p = (S 6 p : Int)) (e0 : C' 0 0 = beO B (S 0 1 : Int) (S 0 0 : Int) (S 0 2 : Int) ((S 0 3 : Int) + 1)) (e1 : tx Z B C' 1 0 x) (e6 : C' 6 0 = some (gJ Z 4 (ju F6 (S 0 3) (i : Int))))
    (e40 : C' 40 i = chO B i (i : Int) (S 1 i : Int) (S 2 i : Int) (S 4 i : Int) 1 (S 3 i : Int))
    (hf : ∀ k' i', ¬ (k' = 0 ∧ i' = 0) → ¬ ((k' = 1 ∨ k' = 2) ∧ i' = 0) → ¬ (k' = 6 ∧ i' = 0) → ¬ (k' = 40 ∧ i' = i) → ¬ (10 ≤ k' ∧ k' ≤ 37) → C' k' i' = C k' i') : cs Z B C' (ldS S i) (ldT S T i) := by
  obtain ⟨h1, h2, ⟨F, h3, h3'⟩, ⟨f, h4', h4a, h4b⟩, ⟨g, h5, h5a, h5b⟩, ⟨G, h6, h6'⟩, h7, h8, h9, h10, h11⟩ := h
  have o : ∀ k' i', k' ≠ 5 → k' ≠ 6 → ¬ (k' = 0 ∧ i' = 3) → ldS S i k' i' = S k' i' := fun k' i' b1 b2 b3 => ldS_o (by omega) (by omega) b3
  have e00 := o 0 0 (by omega) (by omega) (by omega)
  have e01 := o 0 1 (by omega) (by omega) (by omega)
  have e02 := o 0 2 (by omega) (by omega) (by omega)
  refine ⟨?_, ?_, ⟨F, (hf _ _ (by omega) (by omega) (by omega) (by omega) (by omega)).trans h3, fun x hx => by rw [h3' x hx, ownf, ownf, e01, ownr_ld]⟩, ⟨f, (hf _ _ (by omega) (by omega) (by omega) (by omega) (by omega)).trans h4', fun j hj => h4a j (by omega), fun j hj => h4b j (by omega)⟩, ⟨g, (hf _ _ (by omega) (by omega) (by omega) (by omega) (by omega)).trans h5, fun q hq => h5a q (by omega), fun q hq => h5b q (by omega)⟩, ⟨_, e6, fun p hp => ?_⟩, fun j hj => ?_, fun q hq => ?_, fun j k a1 a2 a3 a4 a5 => ?_, fun j hj => ?_, fun q hq => ?_⟩
  · rw [e0, e00, e01, e02, ldS_3]; rfl
  · rw [ldT_0 hx]; exact e1
  · rw [ldS_3] at hp
    by_cases e : p = S 0 3
    · subst e; rw [ju_s, ldS_6]
    · rw [ju_n e, ldS_o (by omega) (by omega) (by omega)]; exact hF6 p (by omega)
  · rw [e00] at hj
    obtain ⟨d1, d2, d3, ⟨f9, d4, d5, d6⟩, d7, d8, d9, F9, d10, d11⟩ := h7 j hj
    have hC : ∀ k' i', 41 ≤ k' → k' ≤ 50 → C' k' i' = C k' i' := fun k' i' a b => hf _ _ (by omega) (by omega) (by omega) (by omega) (by omega)
    have e2 := o 2 j (by omega) (by omega) (by omega)
    refine ⟨?_, ?_, ?_, ⟨f9, (hC _ _ (by omega) (by omega)).trans d4, fun r hr => d5 r (by omega), fun r hr => d6 r (by omega)⟩, fun r hr => ?_, fun r hr hr2 => ?_, d9.kept (hC _ _ (by omega) (by omega)) (hC _ _ (by omega) (by omega)), F9, (hC _ _ (by omega) (by omega)).trans d10, fun u hu => by rw [o 7 _ (by omega) (by omega) (by omega)]; exact d11 u hu⟩
    · rw [o 1 j (by omega) (by omega) (by omega), e2, o 4 j (by omega) (by omega) (by omega), o 3 j (by omega) (by omega) (by omega)]
      by_cases e : j = i
      · subst e; rw [ldS_5]; exact e40
      · rw [ldS_o (by omega) (by omega) (by omega)]
        exact (hf _ _ (by omega) (by omega) (by omega) (by omega) (by omega)).trans d1
    · rw [ldT_o (by omega)]; exact d2.kept (hC _ _ (by omega) (by omega)) (hC _ _ (by omega) (by omega))
    · rw [ldT_o (by omega)]; exact d3.kept (hC _ _ (by omega) (by omega)) (hC _ _ (by omega) (by omega))
    · rw [ldT_o (by omega)]; exact (d7 r (by omega)).kept (hC _ _ (by omega) (by omega)) (hC _ _ (by omega) (by omega))
    · have := d8 r (by omega) hr2
      exact ⟨(hC _ _ (by omega) (by omega)).trans this.1, (hC _ _ (by omega) (by omega)).trans this.2⟩
  · rw [e02] at hq
    rw [o 11 q (by omega) (by omega) (by omega), o 12 q (by omega) (by omega) (by omega), o 13 q (by omega) (by omega) (by omega), o 14 q (by omega) (by omega) (by omega)]
    exact (hf _ _ (by omega) (by omega) (by omega) (by omega) (by omega)).trans (h8 q hq)
  · by_cases e : k = 40 ∧ j = i
    · omega
    · exact (hf _ _ (by omega) (by omega) (by omega) e (by omega)).trans (h9 j k (by omega) a2 a3 a4 a5)
  · exact ⟨(hf _ _ (by omega) (by omega) (by omega) (by omega) (by omega)).trans (h10 j (by omega)).1, (hf _ _ (by omega) (by omega) (by omega) (by omega) (by omega)).trans (h10 j (by omega)).2⟩
  · exact (hf _ _ (by omega) (by omega) (by omega) (by omega) (by omega)).trans (h11 q (by omega))
