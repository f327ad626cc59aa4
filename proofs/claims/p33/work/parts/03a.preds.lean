/-! TEXTS: a list of numbers, in an object of kind k with its row of kind k + 1 -/
def ta (t : List Int) (a : Int) : Int := if 0 ≤ a then t.getD a.toNat (-1) else -1
def tx (Z : gZ) (B : gB) (C : gC) (k i : Nat) (t : List Int) : Prop :=
  t.length ≤ 24 ∧ (∀ x ∈ t, 0 ≤ x ∧ x < 100) ∧ C k i = some (.inr (5, [.ref (B (k + 1) i), .int (zI (t.length : Int))])) ∧ ∃ F : Nat → Int, C (k + 1) i = some (gJ Z 24 F) ∧ ∀ j, j < t.length → F j = t.getD j (-1)
/-- nothing but the text at (k, i) has changed -/
def fr2 (k i : Nat) (C C' : gC) : Prop := ∀ k' i', ¬ ((k' = k ∨ k' = k + 1) ∧ i' = i) → C' k' i' = C k' i'
theorem fr2.rfl' {k i : Nat} {C : gC} : fr2 k i C C := fun _ _ _ => rfl
theorem fr2.trans {k i : Nat} {C C1 C2 : gC} (h1 : fr2 k i C C1) (h2 : fr2 k i C1 C2) : fr2 k i C C2 := fun k' i' h => (h2 k' i' h).trans (h1 k' i' h)
theorem fr2.of1 {k i : Nat} {C C1 : gC} (h : ∀ k' i', ¬ (k' = k ∧ i' = i) → C1 k' i' = C k' i') : fr2 k i C C1 := fun k' i' h' => h k' i' (fun z => h' ⟨Or.inl z.1, z.2⟩)
theorem fr2.of2 {k i : Nat} {C C1 : gC} (h : ∀ k' i', ¬ (k' = k + 1 ∧ i' = i) → C1 k' i' = C k' i') : fr2 k i C C1 := fun k' i' h' => h k' i' (fun z => h' ⟨Or.inr z.1, z.2⟩)
theorem tx.kept {Z : gZ} {B : gB} {C C' : gC} {k i : Nat} {t : List Int} (h : tx Z B C k i t) (h1 : C' k i = C k i) (h2 : C' (k + 1) i = C (k + 1) i) : tx Z B C' k i t := by
  obtain ⟨a, b, c, F, d, e⟩ := h
  exact ⟨a, b, h1.trans c, F, h2.trans d, e⟩
theorem tx.fr {Z : gZ} {B : gB} {C C' : gC} {k i k2 i2 : Nat} {t : List Int} (h : tx Z B C k i t) (hf : fr2 k2 i2 C C') (hd : ¬ i = i2 ∨ k + 1 < k2 ∨ k2 + 1 < k) : tx Z B C' k i t :=
  h.kept (hf _ _ (by omega)) (hf _ _ (by omega))
theorem ta_nat (t : List Int) (j : Nat) : ta t (j : Int) = t.getD j (-1) := by
  unfold ta
  rw [if_pos (by omega)]
  simp
theorem ta_rng {t : List Int} (h : ∀ x ∈ t, 0 ≤ x ∧ x < 100) (a : Int) : -1 ≤ ta t a ∧ ta t a < 100 := by
  unfold ta
  split
  · rw [List.getD_eq_getElem?_getD]
    cases hx : t[a.toNat]? with
    | none => exact ⟨by simp, by simp⟩
    | some x =>
      have := h x (List.mem_of_getElem? hx)
      exact ⟨by simp; omega, by simp; omega⟩
  · omega
theorem ta_in {t : List Int} (h : ∀ x ∈ t, 0 ≤ x ∧ x < 100) {a : Int} (h0 : 0 ≤ a) (h1 : a < t.length) : 0 ≤ ta t a ∧ ta t a < 100 := by
  unfold ta
  rw [if_pos h0, List.getD_eq_getElem?_getD, List.getElem?_eq_getElem (by omega)]
  have := h t[a.toNat] (List.getElem_mem _)
  simpa using this
theorem ta_out {t : List Int} {a : Int} (h1 : (t.length : Int) ≤ a) : ta t a = -1 := by
  unfold ta
  split
  · rw [List.getD_eq_getElem?_getD, List.getElem?_eq_none (by omega)]
    rfl
  · rfl
theorem ta_neg {t : List Int} {a : Int} (h1 : a < 0) : ta t a = -1 := if_neg (by omega)
/-- lines put behind others, as far as there is room -/
def tap (t u : List Int) : List Int := (t ++ u).take 24
theorem tap_nil {t : List Int} (h : t.length ≤ 24) : tap t [] = t := by
  unfold tap
  rw [List.append_nil, List.take_of_length_le h]
theorem tap_tap (t u : List Int) (x : Int) : tap (tap t u) [x] = tap t (u ++ [x]) := by
  unfold tap
  rw [← List.append_assoc]
  apply List.ext_getElem?
  intro j
  rw [List.getElem?_take, List.getElem?_take]
  split
  · rename_i hj
    by_cases h1 : (t ++ u).length ≤ 24
    · rw [List.take_of_length_le h1]
    · rw [List.getElem?_append_left (by rw [List.length_take]; omega), List.getElem?_append_left (by omega), List.getElem?_take, if_pos hj]
  · rfl
/-- a stretch of lines -/
def seg (t : List Int) (a b : Nat) : List Int := (t.drop a).take (b - a)
theorem seg_0 (t : List Int) (a : Nat) : seg t a a = [] := by simp [seg]
theorem seg_s {t : List Int} {a b : Nat} (h : a ≤ b) (hb : b < t.length) : seg t a (b + 1) = seg t a b ++ [t.getD b (-1)] := by
  unfold seg
  rw [show b + 1 - a = (b - a) + 1 by omega, List.take_succ, List.getElem?_drop, show a + (b - a) = b by omega, List.getElem?_eq_getElem hb, List.getD_eq_getElem?_getD, List.getElem?_eq_getElem hb]
  rfl
theorem seg_len {t : List Int} {a b : Nat} (hb : b ≤ t.length) : (seg t a b).length = b - a := by
  unfold seg
  rw [List.length_take, List.length_drop]
  omega
theorem seg_all (t : List Int) : seg t 0 t.length = t := by simp [seg]
theorem seg_mem {t : List Int} {a b : Nat} {x : Int} (h : x ∈ seg t a b) : x ∈ t := List.mem_of_mem_drop (List.mem_of_mem_take h)
theorem tap_mem {t u : List Int} {x : Int} (h : x ∈ tap t u) : x ∈ t ∨ x ∈ u := List.mem_append.mp (List.mem_of_mem_take h)
theorem tap_len (t u : List Int) : (tap t u).length ≤ 24 := by unfold tap; rw [List.length_take]; omega
theorem tap_full {t : List Int} {a : Int} (h : 24 ≤ t.length) (h2 : t.length ≤ 24) : tap t [a] = t := by
  unfold tap
  rw [List.take_append_of_le_length h, List.take_of_length_le h2]
theorem tap_lt {t : List Int} {a : Int} (h : t.length < 24) : tap t [a] = t ++ [a] := by
  unfold tap
  rw [List.take_of_length_le (by simp; omega)]
theorem getD_app1 {t : List Int} {a : Int} {j : Nat} : (t ++ [a]).getD j (-1) = if j = t.length then a else t.getD j (-1) := by
  rw [List.getD_eq_getElem?_getD, List.getD_eq_getElem?_getD]
  rcases Nat.lt_trichotomy j t.length with h | h | h
  · rw [List.getElem?_append_left h, if_neg (by omega)]
  · subst h
    simp
  · rw [List.getElem?_append_right (by omega), if_neg (by omega), List.getElem?_eq_none (l := t) (by omega), List.getElem?_eq_none (by simp; omega)]
theorem tx_app {Z : gZ} {B : gB} {C0 C1 : gC} {k i : Nat} {t : List Int} {a : Int} {F : Nat → Int} (ht : tx Z B C0 k i t) (ha : 0 ≤ a ∧ a < 100) (hlt : t.length < 24) (hFv : ∀ j, j < t.length → F j = t.getD j (-1))
    (h1 : C1 k i = some (.inr (5, [.ref (B (k + 1) i), .int (zI ((t.length : Int) + 1))]))) (h2 : C1 (k + 1) i = some (gJ Z 24 (ju F ((t.length : Int)).toNat a))) : tx Z B C1 k i (tap t [a]) := by
  obtain ⟨-, hrg, -⟩ := ht
  rw [tap_lt hlt]
  refine ⟨by simp; omega, fun x hx => ?_, by rw [h1]; simp, _, h2, fun j hj => ?_⟩
  · rcases List.mem_append.mp hx with h | h
    · exact hrg x h
    · rw [List.mem_singleton.mp h]; exact ha
  · rw [getD_app1]
    simp only [List.length_append, List.length_singleton] at hj
    by_cases hjt : j = t.length
    · subst hjt
      simp [ju]
    · rw [if_neg hjt, ju_n (by simpa using hjt)]
      exact hFv j (by omega)
theorem tap_of_nil {u : List Int} (h : u.length ≤ 24) : tap [] u = u := by
  unfold tap
  rw [List.nil_append, List.take_of_length_le h]
theorem ta_ext {t t2 : List Int} (h : t.length = t2.length) (h2 : ∀ q : Nat, q < t.length → ta t q = ta t2 q) : t = t2 := by
  apply List.ext_getElem h
  intro q h3 h4
  have h5 := h2 q h3
  rw [ta_nat, ta_nat, List.getD_eq_getElem?_getD, List.getD_eq_getElem?_getD, List.getElem?_eq_getElem h3, List.getElem?_eq_getElem h4] at h5
  simpa using h5
