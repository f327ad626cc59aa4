theorem cs.comm {Z : gZ} {B B1 : gB} {C C1 : gC} {S : gS} {T : gTx} {a l : Int} {f5 : Nat → Option Nat} (h : cs Z B C S T) (hwf : wf S T) (hz : wz S T) (ha0 : isC S a) (hl : 0 ≤ l) (hr : 0 < S 2 a.toNat) 
    (e0 : C1 0 0 = beO B1 (S 0 1 : Int) (S 0 0 : Int) ((S 0 2 : Int) + 1) (S 0 3 : Int)) (e60 : C1 60 (S 0 2) = rmO B1 a.toNat ((S 2 a.toNat : Int) - 1) l 0)
    (ha : ∀ i, i < S 0 2 → f5 i = some (B 60 i)) (hb : ∀ i, S 0 2 ≤ i → f5 i = none) (e5 : C1 5 0 = some (gR Z 2 12 (va_up f5 (S 0 2) (some (B1 60 (S 0 2))))))
    (hB : ∀ k' i', ¬ (k' = 60 ∧ i' = S 0 2) → B1 k' i' = B k' i')
    (hC : ∀ k' i', ¬ (k' = 0 ∧ i' = 0) → ¬ (k' = 5 ∧ i' = 0) → ¬ (k' = 60 ∧ i' = S 0 2) → C1 k' i' = C k' i') : cs Z B1 C1 (nS_comment S a l) T := by
  obtain ⟨h1, h2, ⟨F, h3, h3'⟩, ⟨f, h4, h4a, h4b⟩, ⟨g, h5, h5a, h5b⟩, ⟨G, h6, h6'⟩, h7, h8, h9, h10, h11⟩ := h
  have z14 := hz.2 (S 0 2) (Nat.le_refl _)
  have so : ∀ k' i', ¬ (k' = 0 ∧ i' = 2) → ¬ (k' = 11 ∧ i' = S 0 2) → ¬ (k' = 12 ∧ i' = S 0 2) → ¬ (k' = 13 ∧ i' = S 0 2) → nS_comment S a l k' i' = S k' i' := fun k' i' a b c d => by rw [nS_comment, su_n a, su_n d, su_n c, su_n b]
  have s02 : nS_comment S a l 0 2 = S 0 2 + 1 := su_s
  have s11 : nS_comment S a l 11 (S 0 2) = a.toNat := by rw [nS_comment, su_n (by omega), su_n (by omega), su_n (by omega), su_s]
  have s12 : nS_comment S a l 12 (S 0 2) = S 2 a.toNat - 1 := by rw [nS_comment, su_n (by omega), su_n (by omega), su_s]
  have s13 : nS_comment S a l 13 (S 0 2) = l.toNat := by rw [nS_comment, su_n (by omega), su_s]
  have oo : ∀ n x, ownr (nS_comment S a l) n x = ownr S n x := fun n x => by
    induction n with
    | zero => rfl
    | succ n ih => unfold ownr; rw [so 8 n (by omega) (by omega) (by omega) (by omega), so 9 n (by omega) (by omega) (by omega) (by omega), so 10 n (by omega) (by omega) (by omega) (by omega), ih]
  have s00 := so 0 0 (by omega) (by omega) (by omega) (by omega)
  refine ⟨?_, (h2.kept (hC _ _ (by omega) (by omega) (by omega)) (hC _ _ (by omega) (by omega) (by omega))).B (hB _ _ (by omega)), ⟨F, (hC _ _ (by omega) (by omega) (by omega)).trans h3, fun x hx => by rw [h3' x hx, ownf, ownf, so 0 1 (by omega) (by omega) (by omega) (by omega), oo]⟩, ⟨f, (hC _ _ (by omega) (by omega) (by omega)).trans h4, fun i hi => by rw [hB _ _ (by omega)]; exact h4a i (by rwa [s00] at hi), fun i hi => h4b i (by rwa [s00] at hi)⟩, ⟨_, e5, fun i hi => ?_, fun i hi => ?_⟩, ⟨G, (hC _ _ (by omega) (by omega) (by omega)).trans h6, fun p hp => ?_⟩, fun i hi => ?_, fun q hq => ?_, fun i k a1 a2 a3 a4 a5 => ?_, fun i hi => ?_, fun q hq => ?_⟩
  · rw [s02, s00, so 0 1 (by omega) (by omega) (by omega) (by omega), so 0 3 (by omega) (by omega) (by omega) (by omega)]; exact e0
  · rw [s02] at hi
    unfold va_up
    by_cases q : i = S 0 2
    · subst q; exact if_pos rfl
    · rw [if_neg q, hB _ _ (by omega)]; exact ha i (by omega)
  · rw [s02] at hi
    unfold va_up
    rw [if_neg (by omega)]; exact hb i (by omega)
  · rw [so 0 3 (by omega) (by omega) (by omega) (by omega)] at hp
    rw [so 6 p (by omega) (by omega) (by omega) (by omega)]; exact h6' p hp
  · rw [s00] at hi
    have hk := ((h7 i hi).kept (C' := C1) (fun k' i' a b => hC k' i' (by omega) (by omega) (by omega))).B (B1 := B1) (fun k' i' a b _ => hB k' i' (by omega))
    unfold chg at hk ⊢
    rw [so 1 i (by omega) (by omega) (by omega) (by omega), so 2 i (by omega) (by omega) (by omega) (by omega), so 3 i (by omega) (by omega) (by omega) (by omega), so 4 i (by omega) (by omega) (by omega) (by omega), so 5 i (by omega) (by omega) (by omega) (by omega)]
    refine ⟨hk.1, hk.2.1, hk.2.2.1, hk.2.2.2.1, hk.2.2.2.2.1, hk.2.2.2.2.2.1, hk.2.2.2.2.2.2.1, ?_⟩
    obtain ⟨F9, e51, e52⟩ := hk.2.2.2.2.2.2.2
    exact ⟨F9, e51, fun v hv => by rw [so 7 _ (by omega) (by omega) (by omega) (by omega)]; exact e52 v hv⟩
  · rw [s02] at hq
    by_cases q9 : q = S 0 2
    · subst q9
      rw [s11, s12, s13, so 14 _ (by omega) (by omega) (by omega) (by omega), z14, show ((S 2 a.toNat - 1 : Nat) : Int) = (S 2 a.toNat : Int) - 1 by omega, show ((l.toNat : Nat) : Int) = l by omega]
      exact e60
    · have hq' : q < S 0 2 := by omega
      rw [so 11 q (by omega) (by omega) (by omega) (by omega), so 12 q (by omega) (by omega) (by omega) (by omega), so 13 q (by omega) (by omega) (by omega) (by omega), so 14 q (by omega) (by omega) (by omega) (by omega)]
      unfold rmO
      rw [hB _ _ (by omega)]
      exact (hC _ _ (by omega) (by omega) (by omega)).trans (h8 q hq')
  · rw [s00] at a1
    exact (hC _ _ (by omega) (by omega) (by omega)).trans (h9 i k a1 a2 a3 a4 a5)
  · rw [s00] at hi
    exact ⟨(hC _ _ (by omega) (by omega) (by omega)).trans (h10 i hi).1, (hC _ _ (by omega) (by omega) (by omega)).trans (h10 i hi).2⟩
  · rw [s02] at hq
    exact (hC _ _ (by omega) (by omega) (by omega)).trans (h11 q (by omega))
theorem ownr_s (S : gS) (n : Nat) (x : Int) : ownr S (n + 1) x = if (S 8 n : Int) ≤ x ∧ x ≤ (S 9 n : Int) then (S 10 n : Int) else ownr S n x := rfl
theorem cs.range {Z : gZ} {B : gB} {C C1 : gC} {S : gS} {T : gTx} {a b u : Int} {F1 : Nat → Int} (h : cs Z B C S T) (ha : isT a) (hb : isT b) (hu : isU u)
    (e0 : C1 0 0 = beO B ((S 0 1 : Int) + 1) (S 0 0 : Int) (S 0 2 : Int) (S 0 3 : Int)) (e3 : C1 3 0 = some (gJ Z 100 F1)) (hF : ∀ x, x < 100 → F1 x = if a ≤ (x : Int) ∧ (x : Int) ≤ b then u else ownf S (x : Int))
    (hC : ∀ k' i', ¬ (k' = 0 ∧ i' = 0) → ¬ (k' = 3 ∧ i' = 0) → C1 k' i' = C k' i') : cs Z B C1 (nS_giveRange S a b u) T := by
  obtain ⟨h1, h2, ⟨F, h3, h3'⟩, ⟨f, h4, h4'⟩, ⟨g, h5, h5'⟩, ⟨G, h6, h6'⟩, h7, h8, h9, h10, h11⟩ := h
  have so : ∀ k' i', ¬ (k' = 0 ∧ i' = 1) → ¬ (k' = 8 ∧ i' = S 0 1) → ¬ (k' = 9 ∧ i' = S 0 1) → ¬ (k' = 10 ∧ i' = S 0 1) → nS_giveRange S a b u k' i' = S k' i' := fun k' i' a b c d => by rw [nS_giveRange, su_n a, su_n d, su_n c, su_n b]
  have s01 : nS_giveRange S a b u 0 1 = S 0 1 + 1 := su_s
  have s8 : nS_giveRange S a b u 8 (S 0 1) = a.toNat := by rw [nS_giveRange, su_n (by omega), su_n (by omega), su_n (by omega), su_s]
  have s9 : nS_giveRange S a b u 9 (S 0 1) = b.toNat := by rw [nS_giveRange, su_n (by omega), su_n (by omega), su_s]
  have s10 : nS_giveRange S a b u 10 (S 0 1) = u.toNat := by rw [nS_giveRange, su_n (by omega), su_s]
  have oo : ∀ n x, n ≤ S 0 1 → ownr (nS_giveRange S a b u) n x = ownr S n x := fun n x => by
    induction n with
    | zero => intro _; rfl
    | succ n ih => intro hn; unfold ownr; rw [so 8 n (by omega) (by omega) (by omega) (by omega), so 9 n (by omega) (by omega) (by omega) (by omega), so 10 n (by omega) (by omega) (by omega) (by omega), ih (by omega)]
  have s00 := so 0 0 (by omega) (by omega) (by omega) (by omega)
  have s02 := so 0 2 (by omega) (by omega) (by omega) (by omega)
  have s03 := so 0 3 (by omega) (by omega) (by omega) (by omega)
  refine ⟨by rw [s01, s00, s02, s03]; exact e0, h2.kept (hC _ _ (by omega) (by omega)) (hC _ _ (by omega) (by omega)), ⟨F1, e3, fun x hx => ?_⟩, ⟨f, (hC _ _ (by omega) (by omega)).trans h4, by rw [s00]; exact h4'⟩, ⟨g, (hC _ _ (by omega) (by omega)).trans h5, by rw [s02]; exact h5'⟩, ⟨G, (hC _ _ (by omega) (by omega)).trans h6, fun p hp => by rw [so 6 p (by omega) (by omega) (by omega) (by omega)]; exact h6' p (by rwa [s03] at hp)⟩, fun i hi => ?_, fun q hq => ?_, fun i k a1 a2 a3 a4 a5 => (hC _ _ (by omega) (by omega)).trans (h9 i k (by rwa [s00] at a1) a2 a3 a4 a5), fun i hi => ?_, fun q hq => (hC _ _ (by omega) (by omega)).trans (h11 q (by rwa [s02] at hq))⟩
  · rw [hF x hx, ownf, ownf, s01]
    show _ = ownr (nS_giveRange S a b u) (S 0 1 + 1) (x : Int)
    rw [ownr_s, s8, s9, s10, oo _ _ (Nat.le_refl _), show ((a.toNat : Nat) : Int) = a by omega, show ((b.toNat : Nat) : Int) = b by omega, show ((u.toNat : Nat) : Int) = u by omega]
  · rw [s00] at hi
    have hk := (h7 i hi).kept (C' := C1) (fun k' i' a b => hC k' i' (by omega) (by omega))
    unfold chg at hk ⊢
    rw [so 1 i (by omega) (by omega) (by omega) (by omega), so 2 i (by omega) (by omega) (by omega) (by omega), so 3 i (by omega) (by omega) (by omega) (by omega), so 4 i (by omega) (by omega) (by omega) (by omega), so 5 i (by omega) (by omega) (by omega) (by omega)]
    refine ⟨hk.1, hk.2.1, hk.2.2.1, hk.2.2.2.1, hk.2.2.2.2.1, hk.2.2.2.2.2.1, hk.2.2.2.2.2.2.1, ?_⟩
    obtain ⟨F9, e51, e52⟩ := hk.2.2.2.2.2.2.2
    exact ⟨F9, e51, fun v hv => by rw [so 7 _ (by omega) (by omega) (by omega) (by omega)]; exact e52 v hv⟩
  · rw [s02] at hq
    rw [so 11 q (by omega) (by omega) (by omega) (by omega), so 12 q (by omega) (by omega) (by omega) (by omega), so 13 q (by omega) (by omega) (by omega) (by omega), so 14 q (by omega) (by omega) (by omega) (by omega)]
    exact (hC _ _ (by omega) (by omega)).trans (h8 q hq)
  · rw [s00] at hi
    exact ⟨(hC _ _ (by omega) (by omega)).trans (h10 i hi).1, (hC _ _ (by omega) (by omega)).trans (h10 i hi).2⟩
/-! landing all -/
theorem bst_y {S : gS} {T : gTx} {n : Nat} (h : (∀ b, bst S T n = some b → S 4 b < S 4 n) ∧ rsn S T n = 32) : bst S T (n + 1) = some n := if_pos h
theorem bst_n {S : gS} {T : gTx} {n : Nat} (h : ¬ ((∀ b, bst S T n = some b → S 4 b < S 4 n) ∧ rsn S T n = 32)) : bst S T (n + 1) = bst S T n := if_neg h
theorem bst_lt {S : gS} {T : gTx} : ∀ {n b : Nat}, bst S T n = some b → b < n ∧ rsn S T b = 32
  | 0, b, h => by cases h
  | n + 1, b, h => by
    unfold bst at h
    split at h
    · rename_i h1
      cases h
      exact ⟨by omega, h1.2⟩
    · have := bst_lt h
      exact ⟨by omega, this.2⟩
theorem lnd_n {S : gS} {T : gTx} {n : Nat} (h : bst S T (S 0 0) = none) : lnd n (S, T) = (S, T) := by
  cases n with
  | zero => rfl
  | succ n => unfold lnd; simp only [h]
theorem lnd_s {S : gS} {T : gTx} {n b : Nat} (h : bst S T (S 0 0) = some b) : lnd (n + 1) (S, T) = lnd n (ldS S b, ldT S T b) := by
  conv => lhs; unfold lnd
  simp only [h]
