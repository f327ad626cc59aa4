/-! TABLES AND PATHS OF SCRIPTS -/
theorem z_min {x y : Int} (hx : zr x) (hy : zr y) : (if zI y < zI x then zI y else zI x) = zI (min x y) := by
  by_cases h : y < x
  · rw [if_pos ((zI_lt hy hx).mpr h), Int.min_eq_right (by omega)]
  · rw [if_neg (fun q => h ((zI_lt hy hx).mp q)), Int.min_eq_left (by omega)]
theorem z_max {x y : Int} (hx : zr x) (hy : zr y) : (if zI x < zI y then zI y else zI x) = zI (max x y) := by
  by_cases h : x < y
  · rw [if_pos ((zI_lt hx hy).mpr h), Int.max_eq_right (by omega)]
  · rw [if_neg (fun q => h ((zI_lt hx hy).mp q)), Int.max_eq_left (by omega)]
theorem drop_c {a : List Int} {i : Nat} (h : i < a.length) : a.drop i = a.getD i (-1) :: a.drop (i + 1) := by
  rw [List.drop_eq_getElem_cons h, List.getD_eq_getElem?_getD, List.getElem?_eq_getElem h]
  rfl
def rst (a b : List Int) (i j : Nat) : Nat := ed (a.drop i) (b.drop j)
theorem rst_e1 {a b : List Int} {i j : Nat} (h : a.length ≤ i) : rst a b i j = b.length - j := by
  unfold rst
  rw [List.drop_eq_nil_of_le h, ed_n1, List.length_drop]
theorem rst_e2 {a b : List Int} {i j : Nat} (h : b.length ≤ j) : rst a b i j = a.length - i := by
  unfold rst
  rw [List.drop_eq_nil_of_le h, ed_n2, List.length_drop]
theorem rst_c {a b : List Int} {i j : Nat} (hi : i < a.length) (hj : j < b.length) : rst a b i j = if a.getD i (-1) = b.getD j (-1) then rst a b (i + 1) (j + 1) else 1 + min (rst a b (i + 1) j) (rst a b i (j + 1)) := by
  unfold rst
  rw [drop_c hi, drop_c hj, ed_cc, ← drop_c hi, ← drop_c hj]
theorem rst_le (a b : List Int) (i j : Nat) : rst a b i j ≤ (a.length - i) + (b.length - j) := by
  have := ed_le (a.drop i) (b.drop j)
  rw [List.length_drop, List.length_drop] at this
  exact this
/-- the table of the edits that the rests need, filled behind (i, j) -/
def tb (a b : List Int) (R : Nat → Int) (i j : Int) : Prop := ∀ p q : Nat, p ≤ a.length → q ≤ b.length → (i < p ∨ (i = p ∧ j < q)) → R (p * 13 + q) = (rst a b p q : Int)
theorem tb_0 {a b : List Int} {R : Nat → Int} {j : Int} : tb a b R a.length j → True := fun _ => trivial
theorem tb_init {a b : List Int} {R : Nat → Int} : tb a b R a.length b.length := fun p q hp hq h => by omega
theorem tb_row {a b : List Int} {R : Nat → Int} {i : Int} (h : tb a b R i (-1)) : tb a b R (i - 1) b.length := fun p q hp hq h1 => h p q hp hq (by omega)
theorem tb_step {a b : List Int} {R : Nat → Int} {i j v : Int} (hi : 0 ≤ i) (hj : 0 ≤ j) (hjb : j ≤ b.length) (hb : b.length ≤ 12) (h : tb a b R i j) (hv : v = (rst a b i.toNat j.toNat : Int)) : tb a b (ju R (i * 13 + j).toNat v) i (j - 1) := by
  intro p q hp hq h1
  by_cases he : (p : Int) = i ∧ (q : Int) = j
  · obtain ⟨e1, e2⟩ := he
    subst e1; subst e2
    rw [show ((p : Int) * 13 + (q : Int)).toNat = p * 13 + q by omega, ju_s, hv]
    simp
  · rw [ju_n (by omega)]
    exact h p q hp hq (by omega)
theorem tb_at {a b : List Int} {R : Nat → Int} {i j : Int} (h : tb a b R i j) {x y : Int} (hx : 0 ≤ x) (hxa : x ≤ a.length) (hy : 0 ≤ y) (hyb : y ≤ b.length) (hr : i < x ∨ (i = x ∧ j < y)) : R (x * 13 + y).toNat = (rst a b x.toNat y.toNat : Int) := by
  have := h x.toNat y.toNat (by omega) (by omega) (by omega)
  rw [← this]
  congr 1
  omega
theorem tb_rng {a b : List Int} {R : Nat → Int} {i j : Int} (h : tb a b R i j) (ha : a.length ≤ 12) (hb : b.length ≤ 12) {x y : Int} (hx : 0 ≤ x) (hxa : x ≤ a.length) (hy : 0 ≤ y) (hyb : y ≤ b.length) (hr : i < x ∨ (i = x ∧ j < y)) : 0 ≤ R (x * 13 + y).toNat ∧ R (x * 13 + y).toNat ≤ 24 := by
  rw [tb_at h hx hxa hy hyb hr]
  have := rst_le a b x.toNat y.toNat
  omega
theorem ta_lt {t : List Int} {a : Int} (h0 : 0 ≤ a) : ta t a = t.getD a.toNat (-1) := if_pos h0
theorem tb_end {a b : List Int} {i j : Int} (hi : 0 ≤ i) (hj : 0 ≤ j) (hia : i ≤ a.length) (hjb : j ≤ b.length) (h : i = a.length ∨ j = b.length) : (a.length : Int) - i + b.length - j = (rst a b i.toNat j.toNat : Int) := by
  rcases h with h | h
  · rw [rst_e1 (by omega)]; omega
  · rw [rst_e2 (by omega)]; omega
theorem tb_eq {a b : List Int} {R : Nat → Int} {i j : Int} (h : tb a b R i j) (hi : 0 ≤ i) (hj : 0 ≤ j) (hia : i < a.length) (hjb : j < b.length) (e : ta a i = ta b j) : R ((i + 1) * 13 + (j + 1)).toNat = (rst a b i.toNat j.toNat : Int) := by
  rw [tb_at h (by omega) (by omega) (by omega) (by omega) (by omega), rst_c (i := i.toNat) (j := j.toNat) (by omega) (by omega), if_pos (by rw [ta_lt hi, ta_lt hj] at e; exact e)]
  rw [show (i + 1).toNat = i.toNat + 1 by omega, show (j + 1).toNat = j.toNat + 1 by omega]
theorem tb_ne {a b : List Int} {R : Nat → Int} {i j : Int} (h : tb a b R i j) (hi : 0 ≤ i) (hj : 0 ≤ j) (hia : i < a.length) (hjb : j < b.length) (e : ¬ ta a i = ta b j) : 1 + min (R ((i + 1) * 13 + j).toNat) (R (i * 13 + (j + 1)).toNat) = (rst a b i.toNat j.toNat : Int) := by
  rw [tb_at h (by omega) (by omega) (by omega) (by omega) (by omega), tb_at h (by omega) (by omega) (by omega) (by omega) (by omega), rst_c (i := i.toNat) (j := j.toNat) (by omega) (by omega), if_neg (by rw [ta_lt hi, ta_lt hj] at e; exact e)]
  rw [show (i + 1).toNat = i.toNat + 1 by omega, show (j + 1).toNat = j.toNat + 1 by omega]
  omega
/-- a line's place as the machine has it -/
def enc : Option Nat → Int
  | none => -1
  | some j => (j : Int)
theorem enc_rng (o : Option Nat) : -1 ≤ enc o := by cases o <;> simp [enc] <;> omega
theorem enc_inj {o o' : Option Nat} (h : enc o = enc o') : o = o' := by
  cases o <;> cases o' <;> simp [enc] at h ⊢ <;> omega
/-- where the way along the script stands: before line i of the first text, line j of the second one -/
def fol (a b : List Int) (i j : Nat) (pre : List Int) (K : Nat → Int) (Fm : Nat → Int) : Prop :=
  (∀ q, q < i → K q = enc (kt a b q)) ∧ (∀ q, q < j → Fm q = enc (kf a b q)) ∧ (∀ r, kt a b (i + r) = (kt (a.drop i) (b.drop j) r).map (· + j)) ∧ (∀ r, kf a b (j + r) = (kf (a.drop i) (b.drop j) r).map (· + i)) ∧ al a b = pre ++ al (a.drop i) (b.drop j)
theorem fol_0 (a b : List Int) (K Fm : Nat → Int) : fol a b 0 0 [] K Fm := ⟨fun q h => absurd h (by omega), fun q h => absurd h (by omega), fun r => by simp, fun r => by simp, by simp⟩
theorem fol_keep {a b : List Int} {i j : Nat} {pre : List Int} {K Fm : Nat → Int} (h : fol a b i j pre K Fm) (hi : i < a.length) (hj : j < b.length) (e : a.getD i (-1) = b.getD j (-1)) : fol a b (i + 1) (j + 1) pre (ju K i j) (ju Fm j i) := by
  obtain ⟨h1, h1', h2, h2', h3⟩ := h
  rw [drop_c hi, drop_c hj] at h2 h2' h3
  have e0 : kt a b i = some j := by
    have := h2 0
    rw [kt_cc, if_pos e, if_pos rfl] at this
    simpa using this
  refine ⟨fun q hq => ?_, fun q hq => ?_, fun r => ?_, fun r => ?_, ?_⟩
  · by_cases hqi : q = i
    · subst hqi; rw [ju_s, e0]; rfl
    · rw [ju_n hqi]; exact h1 q (by omega)
  · by_cases hqj : q = j
    · subst hqj; rw [ju_s, (kt_kf a b i q).mp e0]; rfl
    · rw [ju_n hqj]; exact h1' q (by omega)
  · have := h2 (r + 1)
    rw [kt_cc, if_pos e, if_neg (by omega)] at this
    rw [show i + 1 + r = i + (r + 1) by omega, this]
    simp only [Nat.add_sub_cancel, Option.map_map]
    congr 1
    funext x
    simp; omega
  · have := h2' (r + 1)
    rw [kf_cc, if_pos e, if_neg (by omega)] at this
    rw [show j + 1 + r = j + (r + 1) by omega, this]
    simp only [Nat.add_sub_cancel, Option.map_map]
    congr 1
    funext x
    simp; omega
  · rw [al_cc, if_pos e] at h3
    exact h3
theorem fol_rem {a b : List Int} {i j : Nat} {pre : List Int} {K Fm : Nat → Int} (h : fol a b i j pre K Fm) (hi : i < a.length) (hj : b.length ≤ j ∨ (j < b.length ∧ ¬ a.getD i (-1) = b.getD j (-1) ∧ rst a b (i + 1) j ≤ rst a b i (j + 1))) : fol a b (i + 1) j (pre ++ [a.getD i (-1)]) (ju K i (-1)) Fm := by
  obtain ⟨h1, h1', h2, h2', h3⟩ := h
  rcases hj with hj | ⟨hj, e, hle⟩
  · rw [List.drop_eq_nil_of_le hj] at h2 h2' h3
    simp only [kt_n2, kf_n2, Option.map_none] at h2 h2'
    have e0 : kt a b i = none := h2 0
    unfold fol
    rw [List.drop_eq_nil_of_le hj]
    refine ⟨fun q hq => ?_, h1', fun r => ?_, fun r => ?_, ?_⟩
    · by_cases hqi : q = i
      · subst hqi; rw [ju_s, e0]; rfl
      · rw [ju_n hqi]; exact h1 q (by omega)
    · rw [kt_n2, show i + 1 + r = i + (r + 1) by omega]; exact h2 _
    · rw [kf_n2]; exact h2' _
    · rw [al_n2, drop_c hi] at h3
      rw [al_n2, h3]; simp
  · have hle' : ed (a.drop (i + 1)) (b.getD j (-1) :: b.drop (j + 1)) ≤ ed (a.getD i (-1) :: a.drop (i + 1)) (b.drop (j + 1)) := by
      rw [← drop_c hi, ← drop_c hj]; exact hle
    rw [drop_c hi, drop_c hj] at h2 h2' h3
    have e0 : kt a b i = none := by
      have := h2 0
      rw [kt_cc, if_neg e, if_pos hle', if_pos rfl] at this
      simpa using this
    refine ⟨fun q hq => ?_, h1', fun r => ?_, fun r => ?_, ?_⟩
    · by_cases hqi : q = i
      · subst hqi; rw [ju_s, e0]; rfl
      · rw [ju_n hqi]; exact h1 q (by omega)
    · have := h2 (r + 1)
      rw [kt_cc, if_neg e, if_pos hle', if_neg (by omega), ← drop_c hj] at this
      rw [show i + 1 + r = i + (r + 1) by omega, this]
      simp
    · have := h2' r
      rw [kf_cc, if_neg e, if_pos hle', ← drop_c hj] at this
      rw [this, Option.map_map]
      congr 1
      funext x
      simp; omega
    · rw [al_cc, if_neg e, if_pos hle', ← drop_c hj] at h3
      rw [h3]; simp
theorem fol_add {a b : List Int} {i j : Nat} {pre : List Int} {K Fm : Nat → Int} (h : fol a b i j pre K Fm) (hj : j < b.length) (hi : a.length ≤ i ∨ (i < a.length ∧ ¬ a.getD i (-1) = b.getD j (-1) ∧ ¬ rst a b (i + 1) j ≤ rst a b i (j + 1))) : fol a b i (j + 1) (pre ++ [b.getD j (-1)]) K (ju Fm j (-1)) := by
  obtain ⟨h1, h1', h2, h2', h3⟩ := h
  rcases hi with hi | ⟨hi, e, hle⟩
  · rw [List.drop_eq_nil_of_le hi] at h2 h2' h3
    simp only [kt_n1, kf_n1, Option.map_none] at h2 h2'
    have e0 : kf a b j = none := h2' 0
    unfold fol
    rw [List.drop_eq_nil_of_le hi]
    refine ⟨h1, fun q hq => ?_, fun r => ?_, fun r => ?_, ?_⟩
    · by_cases hqj : q = j
      · subst hqj; rw [ju_s, e0]; rfl
      · rw [ju_n hqj]; exact h1' q (by omega)
    · rw [kt_n1]; exact h2 _
    · rw [kf_n1, show j + 1 + r = j + (r + 1) by omega]; exact h2' _
    · rw [al_n1, drop_c hj] at h3
      rw [al_n1, h3]; simp
  · have hle' : ¬ ed (a.drop (i + 1)) (b.getD j (-1) :: b.drop (j + 1)) ≤ ed (a.getD i (-1) :: a.drop (i + 1)) (b.drop (j + 1)) := by
      rw [← drop_c hi, ← drop_c hj]; exact hle
    rw [drop_c hi, drop_c hj] at h2 h2' h3
    have e0 : kf a b j = none := by
      have := h2' 0
      rw [kf_cc, if_neg e, if_neg hle', if_pos rfl] at this
      simpa using this
    refine ⟨h1, fun q hq => ?_, fun r => ?_, fun r => ?_, ?_⟩
    · by_cases hqj : q = j
      · subst hqj; rw [ju_s, e0]; rfl
      · rw [ju_n hqj]; exact h1' q (by omega)
    · have := h2 r
      rw [kt_cc, if_neg e, if_neg hle', ← drop_c hi] at this
      rw [this, Option.map_map]
      congr 1
      funext x
      simp; omega
    · have := h2' (r + 1)
      rw [kf_cc, if_neg e, if_neg hle', if_neg (by omega), ← drop_c hi] at this
      rw [show j + 1 + r = j + (r + 1) by omega, this]
      simp
    · rw [al_cc, if_neg e, if_neg hle', ← drop_c hi] at h3
      rw [h3]; simp
theorem fol_end {a b : List Int} {i j : Nat} {pre : List Int} {K Fm : Nat → Int} (h : fol a b i j pre K Fm) (hi : a.length ≤ i) (hj : b.length ≤ j) : al a b = pre ∧ (∀ q, q < a.length → K q = enc (kt a b q)) ∧ ∀ q, q < b.length → Fm q = enc (kf a b q) := by
  obtain ⟨h1, h1', h2, h2', h3⟩ := h
  rw [List.drop_eq_nil_of_le hi, List.drop_eq_nil_of_le hj, al_n1, List.append_nil] at h3
  exact ⟨h3, fun q hq => h1 q (by omega), fun q hq => h1' q (by omega)⟩
theorem fol_len {a b : List Int} {i j : Nat} {pre : List Int} {K Fm : Nat → Int} (h : fol a b i j pre K Fm) : pre.length ≤ ed a b := by
  rw [← al_length, h.2.2.2.2]
  simp
