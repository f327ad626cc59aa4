/-! SCRIPTS BETWEEN TEXTS -/
/-- how many lines are removed and added -/
def ed : List Int → List Int → Nat
  | [], b => b.length
  | x :: a, [] => (x :: a).length
  | x :: a, y :: b => if x = y then ed a b else 1 + min (ed a (y :: b)) (ed (x :: a) b)
termination_by a b => a.length + b.length
/-- as which line of the second text a line of the first one is kept -/
def kt : List Int → List Int → Nat → Option Nat
  | [], _, _ => none
  | _ :: _, [], _ => none
  | x :: a, y :: b, i => if x = y then (if i = 0 then some 0 else (kt a b (i - 1)).map (· + 1))
      else if ed a (y :: b) ≤ ed (x :: a) b then (if i = 0 then none else kt a (y :: b) (i - 1)) else (kt (x :: a) b i).map (· + 1)
termination_by a b _ => a.length + b.length
/-- from which line of the first text a line of the second one comes -/
def kf : List Int → List Int → Nat → Option Nat
  | [], _, _ => none
  | _ :: _, [], _ => none
  | x :: a, y :: b, j => if x = y then (if j = 0 then some 0 else (kf a b (j - 1)).map (· + 1))
      else if ed a (y :: b) ≤ ed (x :: a) b then (kf a (y :: b) j).map (· + 1) else (if j = 0 then none else kf (x :: a) b (j - 1))
termination_by a b _ => a.length + b.length
/-- the contents of the lines that are removed or added, in the order of the script -/
def al : List Int → List Int → List Int
  | [], b => b
  | x :: a, [] => x :: a
  | x :: a, y :: b => if x = y then al a b else if ed a (y :: b) ≤ ed (x :: a) b then x :: al a (y :: b) else y :: al (x :: a) b
termination_by a b => a.length + b.length
theorem ed_n1 (b : List Int) : ed [] b = b.length := by unfold ed; rfl
theorem ed_n2 (a : List Int) : ed a [] = a.length := by
  cases a with
  | nil => exact ed_n1 []
  | cons x a => unfold ed; rfl
theorem ed_cc (x : Int) (a : List Int) (y : Int) (b : List Int) : ed (x :: a) (y :: b) = if x = y then ed a b else 1 + min (ed a (y :: b)) (ed (x :: a) b) := by rw [ed]
theorem kt_n1 (b : List Int) (i : Nat) : kt [] b i = none := by unfold kt; rfl
theorem kt_n2 (a : List Int) (i : Nat) : kt a [] i = none := by cases a <;> (unfold kt; rfl)
theorem kt_cc (x : Int) (a : List Int) (y : Int) (b : List Int) (i : Nat) : kt (x :: a) (y :: b) i = if x = y then (if i = 0 then some 0 else (kt a b (i - 1)).map (· + 1))
      else if ed a (y :: b) ≤ ed (x :: a) b then (if i = 0 then none else kt a (y :: b) (i - 1)) else (kt (x :: a) b i).map (· + 1) := by rw [kt]
theorem kf_n1 (b : List Int) (i : Nat) : kf [] b i = none := by unfold kf; rfl
theorem kf_n2 (a : List Int) (i : Nat) : kf a [] i = none := by cases a <;> (unfold kf; rfl)
theorem kf_cc (x : Int) (a : List Int) (y : Int) (b : List Int) (j : Nat) : kf (x :: a) (y :: b) j = if x = y then (if j = 0 then some 0 else (kf a b (j - 1)).map (· + 1))
      else if ed a (y :: b) ≤ ed (x :: a) b then (kf a (y :: b) j).map (· + 1) else (if j = 0 then none else kf (x :: a) b (j - 1)) := by rw [kf]
theorem al_n1 (b : List Int) : al [] b = b := by unfold al; rfl
theorem al_n2 (a : List Int) : al a [] = a := by
  cases a with
  | nil => exact al_n1 []
  | cons x a => unfold al; rfl
theorem al_cc (x : Int) (a : List Int) (y : Int) (b : List Int) : al (x :: a) (y :: b) = if x = y then al a b else if ed a (y :: b) ≤ ed (x :: a) b then x :: al a (y :: b) else y :: al (x :: a) b := by rw [al]
/-- induction along two texts -/
theorem two_ind {P : List Int → List Int → Prop} (h1 : ∀ b, P [] b) (h2 : ∀ a, P a []) (h3 : ∀ x a y b, P a b → P a (y :: b) → P (x :: a) b → P (x :: a) (y :: b)) : ∀ a b, P a b := by
  intro a
  induction a with
  | nil => exact h1
  | cons x a iha =>
    intro b
    induction b with
    | nil => exact h2 _
    | cons y b ihb => exact h3 x a y b (iha b) (iha (y :: b)) ihb
theorem al_length : ∀ a b, (al a b).length = ed a b := by
  refine two_ind (fun b => by rw [al_n1, ed_n1]) (fun a => by rw [al_n2, ed_n2]) (fun x a y b i1 i2 i3 => ?_)
  rw [al_cc, ed_cc]
  split
  · exact i1
  · split
    · rename_i h
      rw [List.length_cons, i2, Nat.min_eq_left h]; omega
    · rename_i h
      rw [List.length_cons, i3, Nat.min_eq_right (by omega)]; omega
theorem ed_le : ∀ a b, ed a b ≤ a.length + b.length := by
  refine two_ind (fun b => by rw [ed_n1]; simp) (fun a => by rw [ed_n2]; simp) (fun x a y b i1 i2 i3 => ?_)
  rw [ed_cc]
  simp only [List.length_cons] at *
  split <;> omega
theorem al_mem_in : ∀ (a b : List Int) (u : Int), u ∈ al a b → u ∈ a ∨ u ∈ b := by
  refine two_ind (fun b u h => Or.inr (by rwa [al_n1] at h)) (fun a u h => Or.inl (by rwa [al_n2] at h)) (fun x a y b i1 i2 i3 u h => ?_)
  rw [al_cc] at h
  split at h
  · rcases i1 u h with q | q
    · exact Or.inl (List.mem_cons_of_mem _ q)
    · exact Or.inr (List.mem_cons_of_mem _ q)
  · split at h
    · rcases List.mem_cons.mp h with q | q
      · exact Or.inl (by rw [q]; exact List.mem_cons_self)
      · rcases i2 u q with q | q
        · exact Or.inl (List.mem_cons_of_mem _ q)
        · exact Or.inr q
    · rcases List.mem_cons.mp h with q | q
      · exact Or.inr (by rw [q]; exact List.mem_cons_self)
      · rcases i3 u q with q | q
        · exact Or.inl q
        · exact Or.inr (List.mem_cons_of_mem _ q)
theorem kt_lt : ∀ (a b : List Int) (i j : Nat), kt a b i = some j → i < a.length ∧ j < b.length := by
  refine two_ind (fun b i j h => by rw [kt_n1] at h; cases h) (fun a i j h => by rw [kt_n2] at h; cases h) (fun x a y b i1 i2 i3 i j h => ?_)
  rw [kt_cc] at h
  simp only [List.length_cons] at *
  split at h
  · split at h
    · cases h; omega
    · obtain ⟨q, h1, h2⟩ := Option.map_eq_some_iff.mp h
      have := i1 _ _ h1
      omega
  · split at h
    · split at h
      · cases h
      · have := i2 _ _ h
        omega
    · obtain ⟨q, h1, h2⟩ := Option.map_eq_some_iff.mp h
      have := i3 _ _ h1
      omega
theorem kt_mono : ∀ (a b : List Int) (i i' j j' : Nat), kt a b i = some j → kt a b i' = some j' → i < i' → j < j' := by
  refine two_ind (fun b i i' j j' h => by rw [kt_n1] at h; cases h) (fun a i i' j j' h => by rw [kt_n2] at h; cases h) (fun x a y b i1 i2 i3 i i' j j' h h' hlt => ?_)
  rw [kt_cc] at h h'
  split at h
  · rename_i hxy
    rw [if_pos hxy, if_neg (by omega)] at h'
    obtain ⟨q', h1', h2'⟩ := Option.map_eq_some_iff.mp h'
    split at h
    · cases h; omega
    · obtain ⟨q, h1, h2⟩ := Option.map_eq_some_iff.mp h
      have := i1 _ _ _ _ h1 h1' (by omega)
      omega
  · rename_i hxy
    rw [if_neg hxy] at h'
    split at h
    · rename_i hle
      rw [if_pos hle, if_neg (by omega)] at h'
      split at h
      · cases h
      · exact i2 _ _ _ _ h h' (by omega)
    · rename_i hle
      rw [if_neg hle] at h'
      obtain ⟨q', h1', h2'⟩ := Option.map_eq_some_iff.mp h'
      obtain ⟨q, h1, h2⟩ := Option.map_eq_some_iff.mp h
      have := i3 _ _ _ _ h1 h1' hlt
      omega
/-- the two directions agree -/
theorem kt_kf : ∀ (a b : List Int) (i j : Nat), kt a b i = some j ↔ kf a b j = some i := by
  refine two_ind (fun b i j => by rw [kt_n1, kf_n1]; simp) (fun a i j => by rw [kt_n2, kf_n2]; simp) (fun x a y b i1 i2 i3 i j => ?_)
  rw [kt_cc, kf_cc]
  split
  · cases i with
    | zero =>
      cases j with
      | zero => simp
      | succ j => simp
    | succ i =>
      cases j with
      | zero => simp
      | succ j =>
        have := i1 i j
        simp [this]
  · split
    · cases i with
      | zero =>
        simp
      | succ i =>
        have := i2 i j
        simp [this]
    · cases j with
      | zero => simp
      | succ j =>
        have := i3 i j
        simp [this]
/-- which contents are altered: those of the lines of the first text that are not kept, and of the lines of the second one that come from none -/
theorem al_mem : ∀ (a b : List Int) (u : Int), u ∈ al a b ↔ (∃ i, i < a.length ∧ kt a b i = none ∧ a.getD i (-1) = u) ∨ ∃ j, j < b.length ∧ kf a b j = none ∧ b.getD j (-1) = u := by
  refine two_ind (fun b u => ?_) (fun a u => ?_) (fun x a y b i1 i2 i3 u => ?_)
  · rw [al_n1]
    simp only [kf_n1, List.length_nil]
    constructor
    · intro h
      obtain ⟨j, hj, e⟩ := List.getElem_of_mem h
      exact Or.inr ⟨j, hj, trivial, by rw [List.getD_eq_getElem?_getD, List.getElem?_eq_getElem hj]; exact e⟩
    · rintro (⟨i, hi, -⟩ | ⟨j, hj, -, e⟩)
      · omega
      · rw [List.getD_eq_getElem?_getD, List.getElem?_eq_getElem hj] at e
        rw [← e]
        exact List.getElem_mem _
  · rw [al_n2]
    simp only [kt_n2, List.length_nil]
    constructor
    · intro h
      obtain ⟨j, hj, e⟩ := List.getElem_of_mem h
      exact Or.inl ⟨j, hj, trivial, by rw [List.getD_eq_getElem?_getD, List.getElem?_eq_getElem hj]; exact e⟩
    · rintro (⟨j, hj, -, e⟩ | ⟨i, hi, -⟩)
      · rw [List.getD_eq_getElem?_getD, List.getElem?_eq_getElem hj] at e
        rw [← e]
        exact List.getElem_mem _
      · omega
  · rw [al_cc]
    split
    · rename_i hxy
      rw [i1]
      constructor
      · rintro (⟨i, h1, h2, h3⟩ | ⟨j, h1, h2, h3⟩)
        · exact Or.inl ⟨i + 1, by simpa using h1, by rw [kt_cc, if_pos hxy, if_neg (by omega)]; simpa using h2, by simpa using h3⟩
        · exact Or.inr ⟨j + 1, by simpa using h1, by rw [kf_cc, if_pos hxy, if_neg (by omega)]; simpa using h2, by simpa using h3⟩
      · rintro (⟨i, h1, h2, h3⟩ | ⟨j, h1, h2, h3⟩)
        · cases i with
          | zero => rw [kt_cc, if_pos hxy] at h2; simp at h2
          | succ i => exact Or.inl ⟨i, by simpa using h1, by rw [kt_cc, if_pos hxy, if_neg (by omega)] at h2; simpa using h2, by simpa using h3⟩
        · cases j with
          | zero => rw [kf_cc, if_pos hxy] at h2; simp at h2
          | succ j => exact Or.inr ⟨j, by simpa using h1, by rw [kf_cc, if_pos hxy, if_neg (by omega)] at h2; simpa using h2, by simpa using h3⟩
    · rename_i hxy
      split
      · rename_i hle
        rw [List.mem_cons, i2]
        constructor
        · rintro (h | ⟨i, h1, h2, h3⟩ | ⟨j, h1, h2, h3⟩)
          · exact Or.inl ⟨0, by simp, by rw [kt_cc, if_neg hxy, if_pos hle, if_pos rfl], by simpa using h.symm⟩
          · exact Or.inl ⟨i + 1, by simpa using h1, by rw [kt_cc, if_neg hxy, if_pos hle, if_neg (by omega)]; simpa using h2, by simpa using h3⟩
          · exact Or.inr ⟨j, h1, by rw [kf_cc, if_neg hxy, if_pos hle, h2]; rfl, h3⟩
        · rintro (⟨i, h1, h2, h3⟩ | ⟨j, h1, h2, h3⟩)
          · cases i with
            | zero => exact Or.inl (by simpa using h3.symm)
            | succ i => exact Or.inr (Or.inl ⟨i, by simpa using h1, by rw [kt_cc, if_neg hxy, if_pos hle, if_neg (by omega)] at h2; simpa using h2, by simpa using h3⟩)
          · exact Or.inr (Or.inr ⟨j, h1, by rw [kf_cc, if_neg hxy, if_pos hle] at h2; simpa using h2, h3⟩)
      · rename_i hle
        rw [List.mem_cons, i3]
        constructor
        · rintro (h | ⟨i, h1, h2, h3⟩ | ⟨j, h1, h2, h3⟩)
          · exact Or.inr ⟨0, by simp, by rw [kf_cc, if_neg hxy, if_neg hle, if_pos rfl], by simpa using h.symm⟩
          · exact Or.inl ⟨i, h1, by rw [kt_cc, if_neg hxy, if_neg hle, h2]; rfl, h3⟩
          · exact Or.inr ⟨j + 1, by simpa using h1, by rw [kf_cc, if_neg hxy, if_neg hle, if_neg (by omega)]; simpa using h2, by simpa using h3⟩
        · rintro (⟨i, h1, h2, h3⟩ | ⟨j, h1, h2, h3⟩)
          · exact Or.inr (Or.inl ⟨i, h1, by rw [kt_cc, if_neg hxy, if_neg hle] at h2; simpa using h2, h3⟩)
          · cases j with
            | zero => exact Or.inl (by simpa using h3.symm)
            | succ j => exact Or.inr (Or.inr ⟨j, by simpa using h1, by rw [kf_cc, if_neg hxy, if_neg hle, if_neg (by omega)] at h2; simpa using h2, by simpa using h3⟩)
