/-! THE FARTHEST WAYS -/
theorem ed_l14 : ∀ (a : List Int), (∀ (b : List Int) (x : Int), ed (x :: a) b ≤ 1 + ed a b) ∧ ∀ (b : List Int) (y : Int), ed a b ≤ 1 + ed a (y :: b) := by
  intro a
  induction a with
  | nil =>
    refine ⟨fun b x => ?_, fun b y => by rw [ed_n1, ed_n1]; simp; omega⟩
    cases b with
    | nil => rw [ed_n2, ed_n1]; simp
    | cons y b =>
      rw [ed_cc, ed_n1, ed_n1]
      split
      · simp; omega
      · omega
  | cons z a ih =>
    have h4 : ∀ (b : List Int) (y : Int), ed (z :: a) b ≤ 1 + ed (z :: a) (y :: b) := by
      intro b y
      rw [ed_cc]
      split
      · have := ih.1 b z
        omega
      · have := ih.1 b z
        have := ih.2 b y
        omega
    refine ⟨fun b x => ?_, h4⟩
    cases b with
    | nil => rw [ed_n2, ed_n2]; simp; omega
    | cons y b =>
      rw [ed_cc x]
      split
      · exact h4 b y
      · omega
theorem ed_comm : ∀ a b : List Int, ed a b = ed b a := by
  refine two_ind (fun b => by rw [ed_n1, ed_n2]) (fun a => by rw [ed_n1, ed_n2]) (fun x a y b i1 i2 i3 => ?_)
  rw [ed_cc, ed_cc, i1, i2, i3]
  by_cases h : x = y
  · rw [if_pos h, if_pos h.symm]
  · rw [if_neg h, if_neg (fun q => h q.symm), Nat.min_comm]
theorem ed_up1 (x : Int) (a b : List Int) : ed (x :: a) b ≤ 1 + ed a b := (ed_l14 a).1 b x
theorem ed_up2 (a : List Int) (y : Int) (b : List Int) : ed a (y :: b) ≤ 1 + ed a b := by rw [ed_comm a, ed_comm a b]; exact ed_up1 y b a
theorem rst_up1 (a b : List Int) (i j : Nat) : rst a b i j ≤ 1 + rst a b (i + 1) j := by
  rcases Nat.lt_or_ge i a.length with h | h
  · unfold rst; rw [drop_c h]; exact ed_up1 _ _ _
  · rw [rst_e1 h, rst_e1 (by omega)]; omega
theorem rst_up2 (a b : List Int) (i j : Nat) : rst a b i j ≤ 1 + rst a b i (j + 1) := by
  rcases Nat.lt_or_ge j b.length with h | h
  · unfold rst; rw [drop_c h]; exact ed_up2 _ _ _
  · rw [rst_e2 h, rst_e2 (by omega)]; omega
/-- the two texts have the same line here -/
def mt (a b : List Int) (x y : Nat) : Prop := x < a.length ∧ y < b.length ∧ a.getD x (-1) = b.getD y (-1)
def mtb (a b : List Int) (x y : Nat) : Bool := decide (x < a.length) && decide (y < b.length) && decide (a.getD x (-1) = b.getD y (-1))
theorem mtb_iff {a b : List Int} {x y : Nat} : mtb a b x y = true ↔ mt a b x y := by simp [mtb, mt, and_assoc]
/-- the edits up to a place -/
def pd (a b : List Int) : Nat → Nat → Nat
  | 0, y => y
  | x + 1, 0 => x + 1
  | x + 1, y + 1 => if mtb a b x y = true then pd a b x y else 1 + min (pd a b x (y + 1)) (pd a b (x + 1) y)
termination_by x y => x + y
theorem pd_0 (a b : List Int) (y : Nat) : pd a b 0 y = y := by unfold pd; rfl
theorem pd_x0 (a b : List Int) (x : Nat) : pd a b x 0 = x := by cases x <;> (unfold pd; rfl)
theorem pd_m {a b : List Int} {x y : Nat} (h : mt a b x y) : pd a b (x + 1) (y + 1) = pd a b x y := by rw [pd, if_pos (mtb_iff.mpr h)]
theorem pd_n {a b : List Int} {x y : Nat} (h : ¬ mt a b x y) : pd a b (x + 1) (y + 1) = 1 + min (pd a b x (y + 1)) (pd a b (x + 1) y) := by rw [pd, if_neg (fun q => h (mtb_iff.mp q))]
/-- neighbours differ by one at most -/
theorem pd_lip (a b : List Int) : ∀ (s x y : Nat), x + y = s → (pd a b (x + 1) y ≤ pd a b x y + 1 ∧ pd a b x y ≤ pd a b (x + 1) y + 1) ∧ (pd a b x (y + 1) ≤ pd a b x y + 1 ∧ pd a b x y ≤ pd a b x (y + 1) + 1) := by
  intro s
  induction s using Nat.strongRecOn with
  | _ s ih =>
    intro x y hs
    constructor
    · cases y with
      | zero => rw [pd_x0, pd_x0]; omega
      | succ y =>
        have h1 := (ih (x + y) (by omega) x y rfl).2
        by_cases hm : mt a b x y
        · rw [pd_m hm]; omega
        · rw [pd_n hm]
          have h2 := (ih (x + y) (by omega) x y rfl).1
          omega
    · cases x with
      | zero => rw [pd_0, pd_0]; omega
      | succ x =>
        have h1 := (ih (x + y) (by omega) x y rfl).1
        by_cases hm : mt a b x y
        · rw [pd_m hm]; omega
        · rw [pd_n hm]
          have h2 := (ih (x + y) (by omega) x y rfl).2
          omega
theorem pd_diag (a b : List Int) (x y : Nat) : pd a b x y ≤ pd a b (x + 1) (y + 1) := by
  by_cases hm : mt a b x y
  · rw [pd_m hm]; exact Nat.le_refl _
  · rw [pd_n hm]
    have h1 := (pd_lip a b _ x y rfl).1
    have h2 := (pd_lip a b _ x y rfl).2
    omega
theorem pd_diags (a b : List Int) (x y r : Nat) : pd a b x y ≤ pd a b (x + r) (y + r) := by
  induction r with
  | zero => exact Nat.le_refl _
  | succ r ih => exact Nat.le_trans ih (pd_diag a b (x + r) (y + r))
theorem pd_ge1 (a b : List Int) : ∀ (s x y : Nat), x + y = s → x ≤ pd a b x y + y ∧ y ≤ pd a b x y + x := by
  intro s
  induction s using Nat.strongRecOn with
  | _ s ih =>
    intro x y hs
    cases x with
    | zero => rw [pd_0]; omega
    | succ x =>
      cases y with
      | zero => rw [pd_x0]; omega
      | succ y =>
        by_cases hm : mt a b x y
        · rw [pd_m hm]
          have := ih (x + y) (by omega) x y rfl
          omega
        · rw [pd_n hm]
          have h1 := ih (x + (y + 1)) (by omega) x (y + 1) rfl
          have h2 := ih (x + 1 + y) (by omega) (x + 1) y rfl
          omega
/-- beyond the last line of the first text each step costs one -/
theorem pd_out1 (a b : List Int) (x y : Nat) (h : a.length ≤ x) : pd a b (x + 1) y = pd a b x y + 1 := by
  induction y with
  | zero => rw [pd_x0, pd_x0]
  | succ y ih =>
    rw [pd_n (fun q => by have := q.1; omega), ih]
    have := (pd_lip a b _ x y rfl).2
    omega
theorem pd_out2 (a b : List Int) (x y : Nat) (h : b.length ≤ y) : pd a b x (y + 1) = pd a b x y + 1 := by
  induction x with
  | zero => rw [pd_0, pd_0]
  | succ x ih =>
    rw [pd_n (fun q => by have := q.2.1; omega), ih]
    have := (pd_lip a b _ x y rfl).1
    omega
theorem pd_end (a b : List Int) (r t : Nat) : pd a b (a.length + r) (b.length + t) = pd a b a.length b.length + r + t := by
  induction r with
  | zero =>
    induction t with
    | zero => rfl
    | succ t ih =>
      rw [show b.length + (t + 1) = (b.length + t) + 1 by omega, pd_out2 a b _ _ (by omega), ih]
      omega
  | succ r ih =>
    rw [show a.length + (r + 1) = (a.length + r) + 1 by omega, pd_out1 a b _ _ (by omega), ih]
    omega
theorem pd_farx (a b : List Int) (x y : Nat) (h : a.length ≤ x) : x ≤ pd a b x y + a.length := by
  obtain ⟨r, rfl⟩ : ∃ r, x = a.length + r := ⟨x - a.length, by omega⟩
  have : r ≤ pd a b (a.length + r) y := by
    induction r with
    | zero => exact Nat.zero_le _
    | succ r ih =>
      rw [show a.length + (r + 1) = (a.length + r) + 1 by omega, pd_out1 a b _ _ (by omega)]
      have := ih (by omega)
      omega
  omega
/-- the edits up to the end are the edits in all -/
theorem pd_rst_le (a b : List Int) : ∀ (s i j : Nat), (a.length - i) + (b.length - j) = s → i ≤ a.length → j ≤ b.length → pd a b a.length b.length ≤ pd a b i j + rst a b i j := by
  intro s
  induction s using Nat.strongRecOn with
  | _ s ih =>
    intro i j hs hi hj
    rcases Nat.lt_or_ge i a.length with h1 | h1
    · rcases Nat.lt_or_ge j b.length with h2 | h2
      · rw [rst_c h1 h2]
        split
        · rename_i e
          have := ih _ (by omega) (i + 1) (j + 1) rfl (by omega) (by omega)
          rw [pd_m ⟨h1, h2, e⟩] at this
          exact this
        · have q1 := ih _ (by omega) (i + 1) j rfl (by omega) (by omega)
          have q2 := ih _ (by omega) i (j + 1) rfl (by omega) (by omega)
          have p1 := (pd_lip a b _ i j rfl).1
          have p2 := (pd_lip a b _ i j rfl).2
          omega
      · have q1 := ih _ (by omega) (i + 1) j rfl (by omega) (by omega)
        have p1 := (pd_lip a b _ i j rfl).1
        rw [rst_e2 h2] at q1 ⊢
        omega
    · rcases Nat.lt_or_ge j b.length with h2 | h2
      · have q2 := ih _ (by omega) i (j + 1) rfl (by omega) (by omega)
        have p2 := (pd_lip a b _ i j rfl).2
        rw [rst_e1 h1] at q2 ⊢
        omega
      · rw [show i = a.length by omega, show j = b.length by omega]
        omega
theorem rst_pd_le (a b : List Int) : ∀ (s i j : Nat), i + j = s → i ≤ a.length → j ≤ b.length → rst a b 0 0 ≤ pd a b i j + rst a b i j := by
  intro s
  induction s using Nat.strongRecOn with
  | _ s ih =>
    intro i j hs hi hj
    cases i with
    | zero =>
      cases j with
      | zero => omega
      | succ j =>
        have q := ih (0 + j) (by omega) 0 j rfl (by omega) (by omega)
        rw [pd_0] at q ⊢
        have := rst_up2 a b 0 j
        omega
    | succ i =>
      cases j with
      | zero =>
        have q := ih (i + 0) (by omega) i 0 rfl (by omega) (by omega)
        rw [pd_x0] at q ⊢
        have := rst_up1 a b i 0
        omega
      | succ j =>
        by_cases hm : mt a b i j
        · rw [pd_m hm]
          have q := ih (i + j) (by omega) i j rfl (by omega) (by omega)
          rw [rst_c (i := i) (j := j) (by omega) (by omega), if_pos hm.2.2] at q
          exact q
        · rw [pd_n hm]
          have q1 := ih (i + (j + 1)) (by omega) i (j + 1) rfl (by omega) (by omega)
          have q2 := ih (i + 1 + j) (by omega) (i + 1) j rfl (by omega) (by omega)
          have u1 := rst_up1 a b i (j + 1)
          have u2 := rst_up2 a b (i + 1) j
          omega
theorem pd_ed (a b : List Int) : pd a b a.length b.length = ed a b := by
  have h1 := pd_rst_le a b _ 0 0 rfl (by omega) (by omega)
  have h2 := rst_pd_le a b _ a.length b.length rfl (by omega) (by omega)
  rw [pd_0] at h1
  rw [rst_e1 (Nat.le_refl _)] at h2
  have h3 : rst a b 0 0 = ed a b := by simp [rst]
  omega
/-- the farthest place with d edits on diagonal k -/
def far (a b : List Int) (d : Nat) (k x : Int) : Prop := 0 ≤ x ∧ k ≤ x ∧ pd a b x.toNat (x - k).toNat ≤ d ∧ d < pd a b (x + 1).toNat (x + 1 - k).toNat
theorem far_max {a b : List Int} {d : Nat} {k x z : Int} (h : far a b d k x) (hz : 0 ≤ z) (hk : k ≤ z) (hp : pd a b z.toNat (z - k).toNat ≤ d) : z ≤ x := by
  obtain ⟨h0, h1, h2, h3⟩ := h
  refine Int.not_lt.mp fun hlt => ?_
  have := pd_diags a b (x + 1).toNat (x + 1 - k).toNat (z - (x + 1)).toNat
  rw [show (x + 1).toNat + (z - (x + 1)).toNat = z.toNat by omega, show (x + 1 - k).toNat + (z - (x + 1)).toNat = (z - k).toNat by omega] at this
  omega
theorem far_rng {a b : List Int} {d : Nat} {k x : Int} (h : far a b d k x) : x ≤ a.length + d := by
  obtain ⟨h0, h1, h2, -⟩ := h
  rcases Int.lt_or_le x a.length with q | q
  · omega
  · have := pd_farx a b x.toNat (x - k).toNat (by omega)
    omega
/-- along the same lines -/
theorem pd_slide {a b : List Int} {x0 k : Int} (h0 : 0 ≤ x0) (hk : k ≤ x0) : ∀ n : Nat, (∀ q : Int, x0 ≤ q → q < x0 + n → q < a.length ∧ q - k < b.length ∧ ta a q = ta b (q - k)) → pd a b (x0 + n).toNat (x0 + n - k).toNat = pd a b x0.toNat (x0 - k).toNat := by
  intro n
  induction n with
  | zero => intro _; simp
  | succ n ih =>
    intro h
    have h1 := ih (fun q q1 q2 => h q q1 (by omega))
    obtain ⟨m1, m2, m3⟩ := h (x0 + n) (by omega) (by omega)
    rw [← h1, show (x0 + (n + 1 : Nat)).toNat = (x0 + n).toNat + 1 by omega, show (x0 + (n + 1 : Nat) - k).toNat = (x0 + n - k).toNat + 1 by omega]
    refine pd_m ⟨by omega, by omega, ?_⟩
    rw [ta_lt (by omega), ta_lt (by omega)] at m3
    exact m3
/-- the step from one number of edits to the next -/
theorem far_step {a b : List Int} {d : Nat} {k x0 x : Int} (h0 : 0 ≤ x0) (hk : k ≤ x0) (hx : x0 ≤ x) (hp : pd a b x0.toNat (x0 - k).toNat ≤ d) (hs : ∀ q : Int, x0 ≤ q → q < x → q < a.length ∧ q - k < b.length ∧ ta a q = ta b (q - k)) (he : ¬ (x < a.length ∧ x - k < b.length ∧ ta a x = ta b (x - k)))
    (hl : d < pd a b x.toNat (x + 1 - k).toNat + 1) (hr : d < pd a b (x + 1).toNat (x - k).toNat + 1) : far a b d k x := by
  have hsl := pd_slide h0 hk (x - x0).toNat (fun q q1 q2 => hs q q1 (by omega))
  rw [show x0 + ((x - x0).toNat : Int) = x by omega] at hsl
  refine ⟨by omega, by omega, by omega, ?_⟩
  have hne : ¬ mt a b x.toNat (x - k).toNat := fun hm => he ⟨by have := hm.1; omega, by have := hm.2.1; omega, by rw [ta_lt (by omega), ta_lt (by omega)]; exact hm.2.2⟩
  have := pd_n hne
  rw [show (x + 1).toNat = x.toNat + 1 by omega, show (x + 1 - k).toNat = (x - k).toNat + 1 by omega] at *
  omega
/-- diagonal k of a round: from the neighbours of the round before -/
theorem far_next {a b : List Int} {d : Nat} {k x0 x : Int} (hkd : -((d : Int) + 1) ≤ k ∧ k ≤ (d : Int) + 1) (hx : x0 ≤ x) (h0 : 0 ≤ x0) (hk0 : k ≤ x0)
    (hL : k = -((d : Int) + 1) ∨ ∃ v, far a b d (k - 1) v ∧ v + 1 ≤ x0) (hR : k = (d : Int) + 1 ∨ ∃ v, far a b d (k + 1) v ∧ v ≤ x0)
    (hE : (∃ v, far a b d (k - 1) v ∧ v + 1 = x0) ∨ ∃ v, far a b d (k + 1) v ∧ v = x0)
    (hs : ∀ q : Int, x0 ≤ q → q < x → q < a.length ∧ q - k < b.length ∧ ta a q = ta b (q - k)) (he : ¬ (x < a.length ∧ x - k < b.length ∧ ta a x = ta b (x - k))) : far a b (d + 1) k x := by
  refine far_step h0 hk0 hx ?_ hs he ?_ ?_
  · rcases hE with ⟨v, ⟨v0, v1, v2, -⟩, e⟩ | ⟨v, ⟨v0, v1, v2, -⟩, e⟩
    · have := (pd_lip a b _ v.toNat (v - (k - 1)).toNat rfl).1.1
      rw [show x0.toNat = v.toNat + 1 by omega, show (x0 - k).toNat = (v - (k - 1)).toNat by omega]
      omega
    · have := (pd_lip a b _ v.toNat (v - (k + 1)).toNat rfl).2.1
      rw [show x0.toNat = v.toNat by omega, show (x0 - k).toNat = (v - (k + 1)).toNat + 1 by omega]
      omega
  · rcases hL with e | ⟨v, hv, hle⟩
    · have := (pd_ge1 a b _ x.toNat (x + 1 - k).toNat rfl).2
      omega
    · refine Nat.not_le.mp fun q => ?_
      have := far_max hv (z := x) (by omega) (by omega) (by rw [show x - (k - 1) = x + 1 - k by omega]; omega)
      omega
  · rcases hR with e | ⟨v, hv, hle⟩
    · have := (pd_ge1 a b _ (x + 1).toNat (x - k).toNat rfl).1
      omega
    · refine Nat.not_le.mp fun q => ?_
      have := far_max hv (z := x + 1) (by omega) (by omega) (by rw [show x + 1 - (k + 1) = x - k by omega]; omega)
      omega
theorem far_0 {a b : List Int} {x : Int} (hx : 0 ≤ x) (hs : ∀ q : Int, 0 ≤ q → q < x → q < a.length ∧ q - 0 < b.length ∧ ta a q = ta b (q - 0)) (he : ¬ (x < a.length ∧ x - 0 < b.length ∧ ta a x = ta b (x - 0))) : far a b 0 0 x := by
  refine far_step (x0 := 0) (Int.le_refl 0) (Int.le_refl 0) hx (by simp [pd_0]) hs he (by omega) (by omega)
/-- the end is reached with just so many edits -/
theorem far_end {a b : List Int} {d : Nat} {k x : Int} (h : far a b d k x) (hx : (a.length : Int) ≤ x) (hy : (b.length : Int) ≤ x - k) : ed a b ≤ d := by
  obtain ⟨-, -, h2, -⟩ := h
  have := pd_end a b (x.toNat - a.length) ((x - k).toNat - b.length)
  rw [show a.length + (x.toNat - a.length) = x.toNat by omega, show b.length + ((x - k).toNat - b.length) = (x - k).toNat by omega, pd_ed] at this
  omega
theorem far_not {a b : List Int} {d : Nat} {x : Int} (h : far a b d ((a.length : Int) - b.length) x) (hn : ¬ ((a.length : Int) ≤ x ∧ (b.length : Int) ≤ x - ((a.length : Int) - b.length))) : d < ed a b := by
  refine Nat.not_le.mp fun q => ?_
  have := far_max h (z := a.length) (by omega) (by omega) (by rw [show (a.length : Int) - ((a.length : Int) - b.length) = (b.length : Int) by omega]; simp; rw [pd_ed]; exact q)
  omega
theorem ed_par : ∀ a b : List Int, (ed a b) % 2 = (a.length + b.length) % 2 := by
  refine two_ind (fun b => by rw [ed_n1]; simp) (fun a => by rw [ed_n2]; simp) (fun x a y b i1 i2 i3 => ?_)
  rw [ed_cc]
  simp only [List.length_cons] at *
  split
  · omega
  · omega
theorem ed_ge (a b : List Int) : (a.length : Int) - b.length ≤ ed a b ∧ (b.length : Int) - a.length ≤ ed a b := by
  rw [← pd_ed]
  have := pd_ge1 a b _ a.length b.length rfl
  omega
