theorem md.text {Z : gZ} {B : gB} {C C' : gC} {S : gS} {T T' : gTx} {th th' mg : Int} {F Fs : Nat → Int} (h : md Z B C S T th) (e0 : C' 70 0 = mdO B th' (S 0 0 : Int) (S 0 1 : Int) (S 0 2 : Int) (S 0 3 : Int) mg) (e1 : C' 71 0 = some (gJ Z 312 F)) (e2 : C' 72 0 = some (gJ Z 26 Fs)) (e3 : mtx F Fs T')
    (h7 : scr Z C' 87 169) (h8 : scr Z C' 88 12) (h9 : scr Z C' 89 12) (h0 : scr Z C' 90 12) (hf : ∀ k', 73 ≤ k' → k' ≤ 86 → C' k' 0 = C k' 0) : md Z B C' S T' th' := by
  obtain ⟨-, -, b1, b2, b3, b4, b5, b6, b7, b8, b9, b10, b11, b12, b13, b14, -⟩ := h
  exact ⟨⟨mg, e0⟩, ⟨F, Fs, e1, e2, e3⟩, b1.kept (hf _ (by omega) (by omega)), b2.kept (hf _ (by omega) (by omega)), b3.kept (hf _ (by omega) (by omega)), b4.kept (hf _ (by omega) (by omega)), b5.kept (hf _ (by omega) (by omega)), b6.kept (hf _ (by omega) (by omega)), b7.kept (hf _ (by omega) (by omega)), b8.kept (hf _ (by omega) (by omega)), b9.kept (hf _ (by omega) (by omega)), b10.kept (hf _ (by omega) (by omega)), b11.kept (hf _ (by omega) (by omega)), b12.kept (hf _ (by omega) (by omega)), b13.kept (hf _ (by omega) (by omega)), b14.kept (hf _ (by omega) (by omega)), h7, h8, h9, h0⟩
theorem mtx.low {F F' Fs : Nat → Int} {T : gTx} {S : gS} (hwf : wf S T) (h : mtx F Fs T) (e : ∀ y, y < 300 → F' y = F y) : mtx F' Fs T := ⟨h.1, fun s hs k hk => by have := hwf.tx s; rw [e _ (by omega)]; exact h.2 s hs k hk⟩
/-- the walk of a merge: where it stands -/
def mgw (a b w : List Int) (k f im ir : Nat) (acc : List Int) : Prop := (k ≤ a.length ∧ mg3 a b w = mg a b w (a.length - k) k f im ir acc) ∨ (k = a.length + 1 ∧ mg3 a b w = some acc)
theorem mgw_0 (a b w : List Int) : mgw a b w 0 0 0 0 [] := Or.inl ⟨Nat.zero_le _, rfl⟩
theorem mgw_skip {a b w : List Int} {k f im ir : Nat} {acc : List Int} (h : mgw a b w k f im ir acc) (hk : k < a.length) (hn : kt a b k = none ∨ kt a w k = none) : mgw a b w (k + 1) f im ir acc := by
  rcases h with ⟨h1, h2⟩ | ⟨h1, h2⟩
  · refine Or.inl ⟨by omega, h2.trans ?_⟩
    rw [show a.length - k = (a.length - (k + 1)) + 1 by omega, mg]
    rcases hn with hn | hn
    · rw [hn]
    · rw [hn]; cases kt a b k <;> rfl
  · omega
theorem mgw_step {a b w : List Int} {k f im ir p q : Nat} {acc x : List Int} (h : mgw a b w k f im ir acc) (hk : k < a.length) (hp : kt a b k = some p) (hq : kt a w k = some q) (hr : mrow (seg a f k) (seg b im p) (seg w ir q) = some x) : mgw a b w (k + 1) (k + 1) (p + 1) (q + 1) (acc ++ x ++ seg a k (k + 1)) := by
  rcases h with ⟨h1, h2⟩ | ⟨h1, h2⟩
  · rw [show a.length - k = (a.length - (k + 1)) + 1 by omega, mg, hp, hq] at h2
    refine Or.inl ⟨by omega, h2.trans ?_⟩
    rw [seg_s (Nat.le_refl k) hk, seg_0, List.nil_append]
    show (mrow _ _ _).bind _ = _
    rw [hr]; rfl
  · omega
theorem mgw_bad {a b w : List Int} {k f im ir p q : Nat} {acc : List Int} (h : mgw a b w k f im ir acc) (hk : k < a.length) (hp : kt a b k = some p) (hq : kt a w k = some q) (hr : mrow (seg a f k) (seg b im p) (seg w ir q) = none) : mg3 a b w = none := by
  rcases h with ⟨h1, h2⟩ | ⟨h1, h2⟩
  · rw [show a.length - k = (a.length - (k + 1)) + 1 by omega, mg, hp, hq] at h2
    rw [h2]
    show (mrow _ _ _).bind _ = _
    rw [hr]; rfl
  · omega
theorem mgw_last {a b w : List Int} {f im ir k : Nat} {acc x : List Int} (h : mgw a b w k f im ir acc) (hk : k = a.length) (hr : mrow (seg a f a.length) (seg b im b.length) (seg w ir w.length) = some x) : mgw a b w (k + 1) (k + 1) (b.length + 1) (w.length + 1) (acc ++ x) := by
  rcases h with ⟨h1, h2⟩ | ⟨h1, h2⟩
  · rw [show a.length - k = 0 by omega, mg, hr] at h2
    exact Or.inr ⟨by omega, h2⟩
  · omega
theorem mgw_lbad {a b w : List Int} {f im ir k : Nat} {acc : List Int} (h : mgw a b w k f im ir acc) (hk : k = a.length) (hr : mrow (seg a f a.length) (seg b im b.length) (seg w ir w.length) = none) : mg3 a b w = none := by
  rcases h with ⟨h1, h2⟩ | ⟨h1, h2⟩
  · rw [show a.length - k = 0 by omega, mg, hr] at h2
    exact h2
  · omega
theorem mgw_end {a b w : List Int} {f im ir k : Nat} {acc : List Int} (h : mgw a b w k f im ir acc) (hk : a.length < k) : mg3 a b w = some acc := by
  rcases h with ⟨h1, h2⟩ | ⟨h1, h2⟩
  · omega
  · exact h2
theorem mrow_1 {bs ms rs : List Int} (h : ms = bs) : mrow bs ms rs = some rs := if_pos h
theorem mrow_2 {bs ms rs : List Int} (h : ¬ ms = bs) (h2 : rs = bs ∨ rs = ms) : mrow bs ms rs = some ms := (if_neg h).trans (if_pos h2)
theorem mrow_3 {bs ms rs : List Int} (h : ¬ ms = bs) (h2 : ¬ (rs = bs ∨ rs = ms)) : mrow bs ms rs = none := (if_neg h).trans (if_neg h2)
theorem mgw_le {a b w : List Int} {k f im ir : Nat} {acc : List Int} (h : mgw a b w k f im ir acc) : k ≤ a.length + 1 := by
  rcases h with h | h <;> omega
