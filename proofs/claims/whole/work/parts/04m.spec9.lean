/-! WHAT CALLS CHANGE, AS THE REFERENCE HOLDS IT; WHAT ALWAYS HOLDS BEHIND EACH CALL -/
theorem row.same {Z : gZ} {C C' : gC} {k n : Nat} {G G' : Nat → Nat} (h : row Z C k n G) (e : C' k 0 = C k 0) (hG : ∀ j, j < n → G' j = G j) : row Z C' k n G' := by
  obtain ⟨F, h1, h2⟩ := h
  exact ⟨F, e.trans h1, fun j hj => by rw [hG j hj]; exact h2 j hj⟩
theorem row.put {Z : gZ} {C' : gC} {k n : Nat} {F : Nat → Int} {G G' : Nat → Nat} {i : Nat} {v : Int} (hF : ∀ j, j < n → F j = (G j : Int)) (e : C' k 0 = some (gJ Z n (ju F i v))) (h1 : v = (G' i : Int)) (h2 : ∀ j, j < n → j ≠ i → G' j = G j) : row Z C' k n G' := by
  refine ⟨_, e, fun j hj => ?_⟩
  by_cases q : j = i
  · subst q; rw [ju_s]; exact h1
  · rw [ju_n q, h2 j hj q]; exact hF j hj
/-- the reference's rows of the state: kind, length, number -/
def mrw (k n q : Nat) : Prop := (k = 73 ∧ n = 6 ∧ q = 8) ∨ (k = 74 ∧ n = 6 ∧ q = 9) ∨ (k = 75 ∧ n = 6 ∧ q = 10) ∨ (k = 76 ∧ n = 4 ∧ q = 1) ∨ (k = 77 ∧ n = 4 ∧ q = 2) ∨ (k = 78 ∧ n = 4 ∧ q = 3) ∨ (k = 79 ∧ n = 4 ∧ q = 4) ∨ (k = 80 ∧ n = 4 ∧ q = 5) ∨ (k = 81 ∧ n = 4 ∧ q = 6) ∨ (k = 82 ∧ n = 20 ∧ q = 7) ∨ (k = 83 ∧ n = 12 ∧ q = 11) ∨ (k = 84 ∧ n = 12 ∧ q = 12) ∨ (k = 85 ∧ n = 12 ∧ q = 13) ∨ (k = 86 ∧ n = 12 ∧ q = 14)
theorem mrw_b {k n q : Nat} (h : mrw k n q) : 73 ≤ k ∧ k ≤ 86 ∧ 1 ≤ q ∧ q ≤ 14 ∧ (k = 73 ∨ q ≠ 8) ∧ (k = 74 ∨ q ≠ 9) ∧ (k = 75 ∨ q ≠ 10) ∧ (k = 76 ∨ q ≠ 1) ∧ (k = 77 ∨ q ≠ 2) ∧ (k = 78 ∨ q ≠ 3) ∧ (k = 79 ∨ q ≠ 4) ∧ (k = 82 ∨ q ≠ 7) ∧ (k = 83 ∨ q ≠ 11) ∧ (k = 84 ∨ q ≠ 12) ∧ (k = 85 ∨ q ≠ 13) ∧ (k = 86 ∨ q ≠ 14) := by
  unfold mrw at h
  rcases h with h | h | h | h | h | h | h | h | h | h | h | h | h | h <;> (obtain ⟨rfl, rfl, rfl⟩ := h; decide)
theorem mrw_73 {n q : Nat} (h : mrw 73 n q) : n = 6 ∧ q = 8 := by
  unfold mrw at h
  rcases h with h | h | h | h | h | h | h | h | h | h | h | h | h | h <;> first | exact ⟨h.2.1, h.2.2⟩ | exact absurd h.1 (by decide)
theorem mrw_74 {n q : Nat} (h : mrw 74 n q) : n = 6 ∧ q = 9 := by
  unfold mrw at h
  rcases h with h | h | h | h | h | h | h | h | h | h | h | h | h | h <;> first | exact ⟨h.2.1, h.2.2⟩ | exact absurd h.1 (by decide)
theorem mrw_75 {n q : Nat} (h : mrw 75 n q) : n = 6 ∧ q = 10 := by
  unfold mrw at h
  rcases h with h | h | h | h | h | h | h | h | h | h | h | h | h | h <;> first | exact ⟨h.2.1, h.2.2⟩ | exact absurd h.1 (by decide)
theorem mrw_76 {n q : Nat} (h : mrw 76 n q) : n = 4 ∧ q = 1 := by
  unfold mrw at h
  rcases h with h | h | h | h | h | h | h | h | h | h | h | h | h | h <;> first | exact ⟨h.2.1, h.2.2⟩ | exact absurd h.1 (by decide)
theorem mrw_77 {n q : Nat} (h : mrw 77 n q) : n = 4 ∧ q = 2 := by
  unfold mrw at h
  rcases h with h | h | h | h | h | h | h | h | h | h | h | h | h | h <;> first | exact ⟨h.2.1, h.2.2⟩ | exact absurd h.1 (by decide)
theorem mrw_78 {n q : Nat} (h : mrw 78 n q) : n = 4 ∧ q = 3 := by
  unfold mrw at h
  rcases h with h | h | h | h | h | h | h | h | h | h | h | h | h | h <;> first | exact ⟨h.2.1, h.2.2⟩ | exact absurd h.1 (by decide)
theorem mrw_79 {n q : Nat} (h : mrw 79 n q) : n = 4 ∧ q = 4 := by
  unfold mrw at h
  rcases h with h | h | h | h | h | h | h | h | h | h | h | h | h | h <;> first | exact ⟨h.2.1, h.2.2⟩ | exact absurd h.1 (by decide)
theorem mrw_80 {n q : Nat} (h : mrw 80 n q) : n = 4 ∧ q = 5 := by
  unfold mrw at h
  rcases h with h | h | h | h | h | h | h | h | h | h | h | h | h | h <;> first | exact ⟨h.2.1, h.2.2⟩ | exact absurd h.1 (by decide)
theorem mrw_81 {n q : Nat} (h : mrw 81 n q) : n = 4 ∧ q = 6 := by
  unfold mrw at h
  rcases h with h | h | h | h | h | h | h | h | h | h | h | h | h | h <;> first | exact ⟨h.2.1, h.2.2⟩ | exact absurd h.1 (by decide)
theorem mrw_82 {n q : Nat} (h : mrw 82 n q) : n = 20 ∧ q = 7 := by
  unfold mrw at h
  rcases h with h | h | h | h | h | h | h | h | h | h | h | h | h | h <;> first | exact ⟨h.2.1, h.2.2⟩ | exact absurd h.1 (by decide)
theorem mrw_83 {n q : Nat} (h : mrw 83 n q) : n = 12 ∧ q = 11 := by
  unfold mrw at h
  rcases h with h | h | h | h | h | h | h | h | h | h | h | h | h | h <;> first | exact ⟨h.2.1, h.2.2⟩ | exact absurd h.1 (by decide)
theorem mrw_84 {n q : Nat} (h : mrw 84 n q) : n = 12 ∧ q = 12 := by
  unfold mrw at h
  rcases h with h | h | h | h | h | h | h | h | h | h | h | h | h | h <;> first | exact ⟨h.2.1, h.2.2⟩ | exact absurd h.1 (by decide)
theorem mrw_85 {n q : Nat} (h : mrw 85 n q) : n = 12 ∧ q = 13 := by
  unfold mrw at h
  rcases h with h | h | h | h | h | h | h | h | h | h | h | h | h | h <;> first | exact ⟨h.2.1, h.2.2⟩ | exact absurd h.1 (by decide)
theorem mrw_86 {n q : Nat} (h : mrw 86 n q) : n = 12 ∧ q = 14 := by
  unfold mrw at h
  rcases h with h | h | h | h | h | h | h | h | h | h | h | h | h | h <;> first | exact ⟨h.2.1, h.2.2⟩ | exact absurd h.1 (by decide)
theorem md.new {Z : gZ} {B : gB} {C C' : gC} {S S' : gS} {T T' : gTx} {th v mg : Int} (h : md Z B C S T th) (e0 : C' 70 0 = mdO B v (S' 0 0 : Int) (S' 0 1 : Int) (S' 0 2 : Int) (S' 0 3 : Int) mg) (et : ∃ F Fs : Nat → Int, C' 71 0 = some (gJ Z 312 F) ∧ C' 72 0 = some (gJ Z 26 Fs) ∧ mtx F Fs T')
    (hr : ∀ k n q, mrw k n q → row Z C k n (S q) → row Z C' k n (S' q)) (hf : ∀ k', 87 ≤ k' → k' ≤ 90 → C' k' 0 = C k' 0) : md Z B C' S' T' v := by
  obtain ⟨-, -, b1, b2, b3, b4, b5, b6, b7, b8, b9, b10, b11, b12, b13, b14, c1, c2, c3, c4⟩ := h
  exact ⟨⟨mg, e0⟩, et, hr 73 6 8 (by unfold mrw; decide) b1, hr 74 6 9 (by unfold mrw; decide) b2, hr 75 6 10 (by unfold mrw; decide) b3, hr 76 4 1 (by unfold mrw; decide) b4, hr 77 4 2 (by unfold mrw; decide) b5, hr 78 4 3 (by unfold mrw; decide) b6, hr 79 4 4 (by unfold mrw; decide) b7, hr 80 4 5 (by unfold mrw; decide) b8, hr 81 4 6 (by unfold mrw; decide) b9, hr 82 20 7 (by unfold mrw; decide) b10, hr 83 12 11 (by unfold mrw; decide) b11, hr 84 12 12 (by unfold mrw; decide) b12, hr 85 12 13 (by unfold mrw; decide) b13, hr 86 12 14 (by unfold mrw; decide) b14, c1.kept (hf _ (by omega) (by omega)), c2.kept (hf _ (by omega) (by omega)), c3.kept (hf _ (by omega) (by omega)), c4.kept (hf _ (by omega) (by omega))⟩
theorem mtx.app {F Fs : Nat → Int} {T : gTx} {s : Nat} {x : Int} (h : mtx F Fs T) (hl : ∀ k, (T k).length ≤ 12) (h2 : (T s).length < 12) : mtx (ju F (12 * s + (T s).length) x) (ju Fs s (((T s).length : Int) + 1)) (tu T s (T s ++ [x])) := by
  refine ⟨fun s1 h1 => ?_, fun s1 h1 k1 hk1 => ?_⟩
  · by_cases e : s1 = s
    · subst e; rw [ju_s, tu_s, List.length_append]; rfl
    · rw [ju_n e, tu_n e]; exact h.1 s1 h1
  · by_cases e : s1 = s
    · subst e
      rw [tu_s] at hk1 ⊢
      rw [List.length_append, List.length_singleton] at hk1
      rw [getD_app1]
      by_cases q : k1 = (T s1).length
      · subst q; rw [if_pos rfl, ju_s]
      · rw [if_neg q, ju_n (by omega)]; exact h.2 s1 h1 k1 (by omega)
    · rw [tu_n e] at hk1 ⊢
      have h3 := hl s1
      rw [ju_n (by omega)]; exact h.2 s1 h1 k1 hk1
theorem mtx.copy {F F' Fs : Nat → Int} {T : gTx} {s : Nat} {t : List Int} (h : mtx F Fs T) (hl : ∀ k, (T k).length ≤ 12) (h1 : ∀ q, q < t.length → F' (12 * s + q) = t.getD q (-1)) (h2 : ∀ y, ¬ (12 * s ≤ y ∧ y < 12 * s + 12) → F' y = F y) : mtx F' (ju Fs s (t.length : Int)) (tu T s t) := by
  refine ⟨fun s1 hs => ?_, fun s1 hs k1 hk1 => ?_⟩
  · by_cases e : s1 = s
    · subst e; rw [ju_s, tu_s]
    · rw [ju_n e, tu_n e]; exact h.1 s1 hs
  · by_cases e : s1 = s
    · subst e; rw [tu_s] at hk1 ⊢; exact h1 k1 hk1
    · rw [tu_n e] at hk1 ⊢
      have h3 := hl s1
      rw [h2 _ (by omega)]; exact h.2 s1 hs k1 hk1
theorem mtx.clr {F Fs : Nat → Int} {T : gTx} {s : Nat} (h : mtx F Fs T) : mtx F (ju Fs s 0) (tu T s []) := by
  refine ⟨fun s1 hs => ?_, fun s1 hs k1 hk1 => ?_⟩
  · by_cases e : s1 = s
    · subst e; rw [ju_s, tu_s]; rfl
    · rw [ju_n e, tu_n e]; exact h.1 s1 hs
  · by_cases e : s1 = s
    · subst e; rw [tu_s] at hk1; exact absurd hk1 (by simp)
    · rw [tu_n e] at hk1 ⊢; exact h.2 s1 hs k1 hk1
theorem bsetm' : ∀ n : Fin 16, ∀ j : Fin 4, zI (n.val : Int) ||| (zI 1 <<< (zI (j.val : Int) &&& 31)) = zI (bset n.val j.val : Int) := by decide +kernel
theorem bsetm {n : Nat} {j : Int} (hn : n < 16) (h0 : 0 ≤ j) (hj : j < 4) : zI (n : Int) ||| (zI 1 <<< (zI j &&& 31)) = zI (bset n j.toNat : Int) := by
  have := bsetm' ⟨n, hn⟩ ⟨j.toNat, by omega⟩
  rwa [show (((⟨j.toNat, by omega⟩ : Fin 4).val : Nat) : Int) = j from Int.toNat_of_nonneg h0] at this
theorem bc4' : ∀ m : Fin 16, cntb (fun k => m.val.testBit k) 4 = bcnt m.val := by decide +kernel
theorem bc4 {m : Nat} (h : m < 16) : cntb (fun k => m.testBit k) 4 = bcnt m := bc4' ⟨m, h⟩
/-! what always holds, behind new ranges, changes, rounds, comments -/
theorem wf.range {S : gS} {T : gTx} {a b u : Int} (h : wf S T) (ha : isT a) (hb : isT b) (hu : isU u) (hn : S 0 1 < 6) : wf (nS_giveRange S a b u) T := by
  obtain ⟨a1, a2, a3, a4, a5, a6, a7, a8, a9⟩ := id h
  have so : ∀ k' i', ¬ (k' = 0 ∧ i' = 1) → ¬ (k' = 8 ∧ i' = S 0 1) → ¬ (k' = 9 ∧ i' = S 0 1) → ¬ (k' = 10 ∧ i' = S 0 1) → nS_giveRange S a b u k' i' = S k' i' := fun k' i' a b c d => by rw [nS_giveRange, su_n a, su_n d, su_n c, su_n b]
  have s01 : nS_giveRange S a b u 0 1 = S 0 1 + 1 := su_s
  have s8 : nS_giveRange S a b u 8 (S 0 1) = a.toNat := by rw [nS_giveRange, su_n (by omega), su_n (by omega), su_n (by omega), su_s]
  have s9 : nS_giveRange S a b u 9 (S 0 1) = b.toNat := by rw [nS_giveRange, su_n (by omega), su_n (by omega), su_s]
  have s10 : nS_giveRange S a b u 10 (S 0 1) = u.toNat := by rw [nS_giveRange, su_n (by omega), su_s]
  have so' : ∀ k' i', k' ≠ 0 → k' ≠ 8 → k' ≠ 9 → k' ≠ 10 → nS_giveRange S a b u k' i' = S k' i' := fun k' i' a b c d => so k' i' (by omega) (by omega) (by omega) (by omega)
  have s00 := so 0 0 (by omega) (by omega) (by omega) (by omega)
  have s02 := so 0 2 (by omega) (by omega) (by omega) (by omega)
  have s03 := so 0 3 (by omega) (by omega) (by omega) (by omega)
  have ls : ∀ n, lsum (nS_giveRange S a b u) n = lsum S n := fun n => by
    induction n with
    | zero => rfl
    | succ n ih => unfold lsum; rw [ih, so' 5 n (by omega) (by omega) (by omega) (by omega)]
  refine ⟨by rw [s00]; exact a1, by rw [s01]; omega, by rw [s02]; exact a3, by rw [s03, s00, ls]; exact a4, fun c hc => ?_, fun p hp => ?_, fun r hr => ?_, fun q hq => ?_, a9⟩
  · rw [s00] at hc
    rw [so' 1 c (by omega) (by omega) (by omega) (by omega), so' 2 c (by omega) (by omega) (by omega) (by omega), so' 3 c (by omega) (by omega) (by omega) (by omega), so' 4 c (by omega) (by omega) (by omega) (by omega), so' 5 c (by omega) (by omega) (by omega) (by omega)]
    have hw := a5 c hc
    exact ⟨hw.1, hw.2.1, hw.2.2.1, hw.2.2.2.1, hw.2.2.2.2.1, fun v hv => by rw [so' 7 _ (by omega) (by omega) (by omega) (by omega)]; exact hw.2.2.2.2.2 v hv⟩
  · rw [s03] at hp
    rw [so' 6 p (by omega) (by omega) (by omega) (by omega)]; exact a6 p hp
  · rw [s01] at hr
    by_cases e : r = S 0 1
    · subst e; rw [s8, s9, s10]; exact ⟨by omega, by omega, by omega⟩
    · rw [so 8 r (by omega) (by omega) (by omega) (by omega), so 9 r (by omega) (by omega) (by omega) (by omega), so 10 r (by omega) (by omega) (by omega) (by omega)]; exact a7 r (by omega)
  · rw [s02] at hq
    rw [so' 11 q (by omega) (by omega) (by omega) (by omega), so' 12 q (by omega) (by omega) (by omega) (by omega), so' 13 q (by omega) (by omega) (by omega) (by omega), so' 14 q (by omega) (by omega) (by omega) (by omega), s00, so' 2 _ (by omega) (by omega) (by omega) (by omega)]; exact a8 q hq
theorem wf.newc {S : gS} {T : gTx} {u : Int} (h : wf S T) (hz : wz S T) (hu : isU u) (hn : S 0 0 < 4) : wf (nS_open S u) (nT_open S T) := by
  obtain ⟨a1, a2, a3, a4, a5, a6, a7, a8, a9⟩ := id h
  obtain ⟨z2, z3, z4, z5, z7, zT⟩ := hz.1 (S 0 0) (Nat.le_refl _)
  have s00 : nS_open S u 0 0 = S 0 0 + 1 := su_s
  have s1 : nS_open S u 1 (S 0 0) = u.toNat := by rw [nS_open, su_n (by omega), su_s]
  have so : ∀ k' i', ¬ (k' = 0 ∧ i' = 0) → ¬ (k' = 1 ∧ i' = S 0 0) → nS_open S u k' i' = S k' i' := fun k' i' a b => by rw [nS_open, su_n a, su_n b]
  have ls : ∀ n, lsum (nS_open S u) n = lsum S n := fun n => by
    induction n with
    | zero => rfl
    | succ n ih => unfold lsum; rw [ih, so 5 n (by omega) (by omega)]
  have tn : ∀ k, ¬ k = 1 + S 0 0 → nT_open S T k = T k := fun k a => tu_n a
  refine ⟨by rw [s00]; omega, by rw [so 0 1 (by omega) (by omega)]; exact a2, by rw [so 0 2 (by omega) (by omega)]; exact a3, by rw [so 0 3 (by omega) (by omega), s00, ls]; show S 0 3 = lsum S (S 0 0) + S 5 (S 0 0); omega, fun c hc => ?_, fun p hp => ?_, fun r hr => ?_, fun q hq => ?_, fun k => ?_⟩
  · rw [s00] at hc
    rw [so 2 c (by omega) (by omega), so 3 c (by omega) (by omega), so 4 c (by omega) (by omega), so 5 c (by omega) (by omega)]
    by_cases e : c = S 0 0
    · subst e; rw [s1]; exact ⟨by omega, by omega, by omega, by omega, by omega, fun v hv => by rw [so 7 _ (by omega) (by omega), z7 v hv]; omega⟩
    · rw [so 1 c (by omega) (by omega)]
      have hw := a5 c (by omega)
      exact ⟨hw.1, hw.2.1, hw.2.2.1, hw.2.2.2.1, hw.2.2.2.2.1, fun v hv => by rw [so 7 _ (by omega) (by omega)]; exact hw.2.2.2.2.2 v hv⟩
  · rw [so 0 3 (by omega) (by omega)] at hp
    rw [so 6 p (by omega) (by omega)]; exact a6 p hp
  · rw [so 0 1 (by omega) (by omega)] at hr
    rw [so 8 r (by omega) (by omega), so 9 r (by omega) (by omega), so 10 r (by omega) (by omega)]; exact a7 r hr
  · rw [so 0 2 (by omega) (by omega)] at hq
    have hw := a8 q hq
    rw [so 11 q (by omega) (by omega), so 12 q (by omega) (by omega), so 13 q (by omega) (by omega), so 14 q (by omega) (by omega), s00, so 2 _ (by omega) (by omega), tn _ (by omega)]
    exact ⟨by omega, hw.2⟩
  · by_cases e : k = 1 + S 0 0
    · rw [e, nT_open, tu_s]; exact a9 0
    · rw [tn k e]; exact a9 k
theorem wf.layd {S : gS} {T : gTx} {i : Nat} (h : wf S T) (hi : i < S 0 0) (hr : S 2 i < 4) : wf (nS_lay S i) (nT_lay S T i) := by
  obtain ⟨a1, a2, a3, a4, a5, a6, a7, a8, a9⟩ := id h
  have s2 : nS_lay S i 2 i = S 2 i + 1 := su_s
  have so : ∀ k' i', ¬ (k' = 2 ∧ i' = i) → nS_lay S i k' i' = S k' i' := fun k' i' a => su_n a
  have ls : ∀ n, lsum (nS_lay S i) n = lsum S n := fun n => lsum_su (by omega) n
  refine ⟨by rw [so 0 0 (by omega)]; exact a1, by rw [so 0 1 (by omega)]; exact a2, by rw [so 0 2 (by omega)]; exact a3, by rw [so 0 3 (by omega), so 0 0 (by omega), ls]; exact a4, fun c hc => ?_, fun p hp => ?_, fun r hr => ?_, fun q hq => ?_, fun k => ?_⟩
  · rw [so 0 0 (by omega)] at hc
    have hw := a5 c hc
    rw [so 1 c (by omega), so 3 c (by omega), so 4 c (by omega), so 5 c (by omega)]
    by_cases e : c = i
    · subst e; rw [s2]; exact ⟨hw.1, by omega, hw.2.2.1, hw.2.2.2.1, hw.2.2.2.2.1, fun v hv => by rw [so 7 _ (by omega)]; have := hw.2.2.2.2.2 v hv; omega⟩
    · rw [so 2 c (by omega)]; exact ⟨hw.1, hw.2.1, hw.2.2.1, hw.2.2.2.1, hw.2.2.2.2.1, fun v hv => by rw [so 7 _ (by omega)]; exact hw.2.2.2.2.2 v hv⟩
  · rw [so 0 3 (by omega)] at hp
    rw [so 6 p (by omega)]; exact a6 p hp
  · rw [so 0 1 (by omega)] at hr
    rw [so 8 r (by omega), so 9 r (by omega), so 10 r (by omega)]; exact a7 r hr
  · rw [so 0 2 (by omega)] at hq
    have hw := a8 q hq
    have hw2 := (a5 _ hw.1).2.1
    rw [so 11 q (by omega), so 12 q (by omega), so 13 q (by omega), so 14 q (by omega), so 0 0 (by omega)]
    refine ⟨hw.1, ?_, ?_, hw.2.2.2⟩
    · by_cases e : S 11 q = i
      · rw [e, s2]; rw [e] at hw; omega
      · rw [so 2 _ (by omega)]; exact hw.2.1
    · rw [nT_lay, tu_n (by omega), tu_n (fun z => by
        by_cases e : S 11 q = i
        · rw [e] at hw z; omega
        · omega)]
      exact hw.2.2.1
  · unfold nT_lay
    by_cases e : k = 5 + i
    · rw [e, tu_s]; exact ⟨by simp, fun x hx => by cases hx⟩
    · rw [tu_n e]
      by_cases e2 : k = 9 + 4 * i + S 2 i
      · rw [e2, tu_s]; exact a9 _
      · rw [tu_n e2]; exact a9 k
theorem wf.comm {S : gS} {T : gTx} {c l : Int} (h : wf S T) (hz : wz S T) (hc : isC S c) (h2 : 0 < S 2 c.toNat) (h0 : 0 ≤ l) (hl : l < ((prs S T c.toNat).length : Int)) (hn : S 0 2 < 12) : wf (nS_comment S c l) T := by
  obtain ⟨a1, a2, a3, a4, a5, a6, a7, a8, a9⟩ := id h
  have z14 := hz.2 (S 0 2) (Nat.le_refl _)
  have so : ∀ k' i', ¬ (k' = 0 ∧ i' = 2) → ¬ (k' = 11 ∧ i' = S 0 2) → ¬ (k' = 12 ∧ i' = S 0 2) → ¬ (k' = 13 ∧ i' = S 0 2) → nS_comment S c l k' i' = S k' i' := fun k' i' a b c d => by rw [nS_comment, su_n a, su_n d, su_n c, su_n b]
  have so' : ∀ k' i', k' ≠ 0 → k' ≠ 11 → k' ≠ 12 → k' ≠ 13 → nS_comment S c l k' i' = S k' i' := fun k' i' a b c d => so k' i' (by omega) (by omega) (by omega) (by omega)
  have s02 : nS_comment S c l 0 2 = S 0 2 + 1 := su_s
  have s11 : nS_comment S c l 11 (S 0 2) = c.toNat := by rw [nS_comment, su_n (by omega), su_n (by omega), su_n (by omega), su_s]
  have s12 : nS_comment S c l 12 (S 0 2) = S 2 c.toNat - 1 := by rw [nS_comment, su_n (by omega), su_n (by omega), su_s]
  have s13 : nS_comment S c l 13 (S 0 2) = l.toNat := by rw [nS_comment, su_n (by omega), su_s]
  have s00 := so 0 0 (by omega) (by omega) (by omega) (by omega)
  have s01 := so 0 1 (by omega) (by omega) (by omega) (by omega)
  have s03 := so 0 3 (by omega) (by omega) (by omega) (by omega)
  have ls : ∀ n, lsum (nS_comment S c l) n = lsum S n := fun n => by
    induction n with
    | zero => rfl
    | succ n ih => unfold lsum; rw [ih, so' 5 n (by omega) (by omega) (by omega) (by omega)]
  refine ⟨by rw [s00]; exact a1, by rw [s01]; exact a2, by rw [s02]; omega, by rw [s03, s00, ls]; exact a4, fun c hc => ?_, fun p hp => ?_, fun r hr => ?_, fun q hq => ?_, a9⟩
  · rw [s00] at hc
    rw [so' 1 c (by omega) (by omega) (by omega) (by omega), so' 2 c (by omega) (by omega) (by omega) (by omega), so' 3 c (by omega) (by omega) (by omega) (by omega), so' 4 c (by omega) (by omega) (by omega) (by omega), so' 5 c (by omega) (by omega) (by omega) (by omega)]
    have hw := a5 c hc
    exact ⟨hw.1, hw.2.1, hw.2.2.1, hw.2.2.2.1, hw.2.2.2.2.1, fun v hv => by rw [so' 7 _ (by omega) (by omega) (by omega) (by omega)]; exact hw.2.2.2.2.2 v hv⟩
  · rw [s03] at hp
    rw [so' 6 p (by omega) (by omega) (by omega) (by omega)]; exact a6 p hp
  · rw [s01] at hr
    rw [so' 8 r (by omega) (by omega) (by omega) (by omega), so' 9 r (by omega) (by omega) (by omega) (by omega), so' 10 r (by omega) (by omega) (by omega) (by omega)]; exact a7 r hr
  · rw [s02] at hq
    by_cases e : q = S 0 2
    · subst e
      rw [s11, s12, s13, s00, so' 14 _ (by omega) (by omega) (by omega) (by omega), so' 2 _ (by omega) (by omega) (by omega) (by omega), z14]
      refine ⟨by omega, by omega, ?_, by omega⟩
      show l.toNat < (prs S T c.toNat).length
      omega
    · rw [so 11 q (by omega) (by omega) (by omega) (by omega), so 12 q (by omega) (by omega) (by omega) (by omega), so 13 q (by omega) (by omega) (by omega) (by omega), so' 14 q (by omega) (by omega) (by omega) (by omega), s00, so' 2 _ (by omega) (by omega) (by omega) (by omega)]; exact a8 q (by omega)
theorem wz.of {S S' : gS} {T T' : gTx} (h : wz S T) (h0 : S 0 0 ≤ S' 0 0) (h2 : S 0 2 ≤ S' 0 2) (hs : ∀ k c, S' 0 0 ≤ c → (k = 2 ∨ k = 3 ∨ k = 4 ∨ k = 5) → S' k c = S k c) (h7 : ∀ c u, S' 0 0 ≤ c → u < 5 → S' 7 (5 * c + u) = S 7 (5 * c + u)) (h14 : ∀ q, S' 0 2 ≤ q → S' 14 q = S 14 q)
    (hT : ∀ c, S' 0 0 ≤ c → c < 4 → T' (5 + c) = T (5 + c)) : wz S' T' := by
  refine ⟨fun c hc => ?_, fun q hq => (h14 q hq).trans (h.2 q (by omega))⟩
  obtain ⟨z2, z3, z4, z5, z7, zT⟩ := h.1 c (by omega)
  exact ⟨(hs 2 c hc (by omega)).trans z2, (hs 3 c hc (by omega)).trans z3, (hs 4 c hc (by omega)).trans z4, (hs 5 c hc (by omega)).trans z5, fun u hu => (h7 c u hc hu).trans (z7 u hu), fun h4 => (hT c hc h4).trans (zT h4)⟩
theorem wz.upd1 {S : gS} {T : gTx} {k i v : Nat} (h : wz S T) (hk : ¬ k = 0) (h1 : k = 2 ∨ k = 3 ∨ k = 4 ∨ k = 5 → i < S 0 0) (h7 : k = 7 → i < 5 * S 0 0) (h14 : k = 14 → i < S 0 2) : wz (su S k i v) T := by
  have e0 : ∀ j, su S k i v 0 j = S 0 j := fun j => su_n (by omega)
  refine wz.of h (by rw [e0]; omega) (by rw [e0]; omega) (fun k' c hc hk' => ?_) (fun c u hc hu => ?_) (fun q hq => ?_) (fun _ _ _ => rfl)
  · rw [e0] at hc; exact su_n (fun z => by have := h1 (by omega); omega)
  · rw [e0] at hc; exact su_n (fun z => by have := h7 (by omega); omega)
  · rw [e0] at hq; exact su_n (fun z => by have := h14 (by omega); omega)
theorem wz.draft {S : gS} {T : gTx} {i : Nat} {t : List Int} (h : wz S T) (hi : i < S 0 0) : wz S (tu T (5 + i) t) :=
  wz.of h (Nat.le_refl _) (Nat.le_refl _) (fun _ _ _ _ => rfl) (fun _ _ _ _ => rfl) (fun _ _ => rfl) (fun c hc _ => tu_n (by omega))
theorem wz.range {S : gS} {T : gTx} {a b u : Int} (h : wz S T) : wz (nS_giveRange S a b u) T := by
  have so' : ∀ k' i', ¬ (k' = 0 ∧ i' = 1) → k' ≠ 8 → k' ≠ 9 → k' ≠ 10 → nS_giveRange S a b u k' i' = S k' i' := fun k' i' a b c d => by rw [nS_giveRange, su_n a, su_n (by omega), su_n (by omega), su_n (by omega)]
  exact wz.of h (by rw [so' 0 0 (by omega) (by omega) (by omega) (by omega)]; omega) (by rw [so' 0 2 (by omega) (by omega) (by omega) (by omega)]; omega) (fun k c _ hk => so' k c (by omega) (by omega) (by omega) (by omega)) (fun c u _ _ => so' 7 _ (by omega) (by omega) (by omega) (by omega)) (fun q _ => so' 14 q (by omega) (by omega) (by omega) (by omega)) (fun _ _ _ => rfl)
theorem wz.newc {S : gS} {T : gTx} {u : Int} (h : wz S T) (hn : S 0 0 < 4) : wz (nS_open S u) (nT_open S T) := by
  have s00 : nS_open S u 0 0 = S 0 0 + 1 := su_s
  have so : ∀ k' i', ¬ (k' = 0 ∧ i' = 0) → ¬ (k' = 1 ∧ i' = S 0 0) → nS_open S u k' i' = S k' i' := fun k' i' a b => by rw [nS_open, su_n a, su_n b]
  exact wz.of h (by rw [s00]; omega) (by rw [so 0 2 (by omega) (by omega)]; omega) (fun k c _ hk => so k c (by omega) (by omega)) (fun c u _ _ => so 7 _ (by omega) (by omega)) (fun q _ => so 14 q (by omega) (by omega)) (fun c _ _ => tu_n (by omega))
theorem wz.layd {S : gS} {T : gTx} {i : Nat} (h : wz S T) (hi : i < S 0 0) : wz (nS_lay S i) (nT_lay S T i) := by
  have so : ∀ k' i', ¬ (k' = 2 ∧ i' = i) → nS_lay S i k' i' = S k' i' := fun k' i' a => su_n a
  have s00 := so 0 0 (by omega)
  refine wz.of h (by rw [s00]; omega) (by rw [so 0 2 (by omega)]; omega) (fun k c hc hk => so k c (by rw [s00] at hc; omega)) (fun c u _ _ => so 7 _ (by omega)) (fun q _ => so 14 q (by omega)) (fun c hc h4 => ?_)
  rw [s00] at hc
  rw [nT_lay, tu_n (by omega), tu_n (by omega)]
theorem wz.comm {S : gS} {T : gTx} {c l : Int} (h : wz S T) : wz (nS_comment S c l) T := by
  have so : ∀ k' i', ¬ (k' = 0 ∧ i' = 2) → k' ≠ 11 → k' ≠ 12 → k' ≠ 13 → nS_comment S c l k' i' = S k' i' := fun k' i' a b c d => by rw [nS_comment, su_n a, su_n (by omega), su_n (by omega), su_n (by omega)]
  have s02 : nS_comment S c l 0 2 = S 0 2 + 1 := su_s
  exact wz.of h (by rw [so 0 0 (by omega) (by omega) (by omega) (by omega)]; omega) (by rw [s02]; omega) (fun k c _ hk => so k c (by omega) (by omega) (by omega) (by omega)) (fun c u _ _ => so 7 _ (by omega) (by omega) (by omega) (by omega)) (fun q _ => so 14 q (by omega) (by omega) (by omega) (by omega)) (fun _ _ _ => rfl)
theorem wz.land {S : gS} {T : gTx} {i : Nat} (h : wz S T) (hi : i < S 0 0) : wz (ldS S i) (ldT S T i) := by
  have s00 : ldS S i 0 0 = S 0 0 := ldS_o (by omega) (by omega) (by omega)
  exact wz.of h (by rw [s00]; omega) (by rw [ldS_o (by omega) (by omega) (by omega)]; omega) (fun k c hc hk => ldS_o (by rw [s00] at hc; omega) (by omega) (by omega)) (fun c u _ _ => ldS_o (by omega) (by omega) (by omega)) (fun q _ => ldS_o (by omega) (by omega) (by omega)) (fun c _ _ => ldT_o (by omega))
theorem wfz.lnd : ∀ (n : Nat) (S : gS) (T : gTx), wf S T → wz S T → wf (lnd n (S, T)).1 (lnd n (S, T)).2 ∧ wz (lnd n (S, T)).1 (lnd n (S, T)).2
  | 0, S, T, h, hz => ⟨h, hz⟩
  | n + 1, S, T, h, hz => by
    cases hb : bst S T (S 0 0) with
    | none => rw [lnd_n hb]; exact ⟨h, hz⟩
    | some i =>
      rw [lnd_s hb]
      exact wfz.lnd n _ _ (h.land (bst_lt hb).1 (bst_lt hb).2) (hz.land (bst_lt hb).1)
theorem wf.ini : wf S00 T00 := ⟨by decide, by decide, by decide, rfl, fun c hc => absurd hc (by simp [S00]), fun p hp => absurd hp (by simp [S00]), fun r hr => absurd hr (by simp [S00]), fun q hq => absurd hq (by simp [S00]), fun k => ⟨by simp [T00], fun x hx => by cases hx⟩⟩
theorem wz.ini : wz S00 T00 := ⟨fun c _ => ⟨rfl, rfl, rfl, rfl, fun _ _ => rfl, fun _ => rfl⟩, fun _ _ => rfl⟩
