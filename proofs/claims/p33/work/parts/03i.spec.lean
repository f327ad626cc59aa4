/-! THE STATE: numbers S (kind, index) and texts T (slot), as the document's promises speak of it.
    0: counts (0 changes, 1 ranges, 2 comments, 3 landings); by change: 1 author, 2 rounds laid, 3 after (bits), 4 priority, 5 landed; 6 order of landing; 7 (5 c + u): round approved and one more, or 0;
    by range: 8 low, 9 high, 10 owner; by comment: 11 change, 12 round, 13 line, 14 resolved. Texts: 0 main, 1 + c base, 5 + c draft, 9 + 4 c + r round. -/
abbrev gS : Type := Nat → Nat → Nat
abbrev gTx : Type := Nat → List Int
def su (S : gS) (k i v : Nat) : gS := fun k' i' => if k' = k ∧ i' = i then v else S k' i'
theorem su_s {S : gS} {k i v : Nat} : su S k i v k i = v := if_pos ⟨rfl, rfl⟩
theorem su_n {S : gS} {k i v k' i' : Nat} (h : ¬ (k' = k ∧ i' = i)) : su S k i v k' i' = S k' i' := if_neg h
theorem su_k {S : gS} {k i v k' i' : Nat} (h : ¬ k' = k) : su S k i v k' i' = S k' i' := if_neg (fun z => h z.1)
def tu (T : gTx) (k : Nat) (t : List Int) : gTx := fun k' => if k' = k then t else T k'
theorem tu_s {T : gTx} {k : Nat} {t : List Int} : tu T k t k = t := if_pos rfl
theorem tu_n {T : gTx} {k k' : Nat} {t : List Int} (h : ¬ k' = k) : tu T k t k' = T k' := if_neg h
/-- the owner of a content, by the last range that holds it -/
def ownr (S : gS) : Nat → Int → Int
  | 0, _ => -1
  | r + 1, x => if (S 8 r : Int) ≤ x ∧ x ≤ (S 9 r : Int) then (S 10 r : Int) else ownr S r x
abbrev ownf (S : gS) (x : Int) : Int := ownr S (S 0 1) x
/-- the number of landed ones among the first n -/
def lsum (S : gS) : Nat → Nat
  | 0 => 0
  | n + 1 => lsum S n + S 5 n
/-- what always holds -/
def wf (S : gS) (T : gTx) : Prop :=
  S 0 0 ≤ 4 ∧ S 0 1 ≤ 6 ∧ S 0 2 ≤ 12 ∧ S 0 3 = lsum S (S 0 0) ∧
  (∀ c, c < S 0 0 → S 1 c < 5 ∧ S 2 c ≤ 4 ∧ S 3 c < 16 ∧ S 4 c ≤ 9 ∧ S 5 c ≤ 1 ∧ ∀ u, u < 5 → S 7 (5 * c + u) ≤ S 2 c) ∧
  (∀ p, p < S 0 3 → S 6 p < 4) ∧ (∀ r, r < S 0 1 → S 8 r < 100 ∧ S 9 r < 100 ∧ S 10 r < 5) ∧
  (∀ q, q < S 0 2 → S 11 q < S 0 0 ∧ S 12 q < S 2 (S 11 q) ∧ S 13 q < (T (9 + 4 * S 11 q + S 12 q)).length ∧ S 14 q ≤ 1) ∧
  ∀ k, (T k).length ≤ 12 ∧ ∀ x ∈ T k, 0 ≤ x ∧ x < 100
abbrev beO (B : gB) (rg nc nr nl : Int) : Option va_E := some (.inr (7, [.ref (B 1 0), .ref (B 3 0), .int (zI rg), .ref (B 4 0), .int (zI nc), .ref (B 5 0), .int (zI nr), .ref (B 6 0), .int (zI nl), .ref (B 10 0), .ref (B 14 0), .ref (B 16 0), .ref (B 18 0)]))
abbrev chO (B : gB) (i : Nat) (nm au rc pr ld bf : Int) : Option va_E := some (.inr (1, [.int (zI nm), .int (zI au), .ref (B 41 i), .ref (B 43 i), .ref (B 45 i), .ref (B 48 i), .int (zI rc), .int (zI pr), .int (zI ld), .int (zI bf), .ref (B 50 i)]))
abbrev rmO (B : gB) (ch : Nat) (rd li rs : Int) : Option va_E := some (.inr (3, [.ref (B 40 ch), .int (zI rd), .int (zI li), .int (zI rs)]))
/-- change i of the bench -/
def chg (Z : gZ) (B : gB) (C : gC) (S : gS) (T : gTx) (i : Nat) : Prop :=
  C 40 i = chO B i (i : Int) (S 1 i : Int) (S 2 i : Int) (S 4 i : Int) (S 5 i : Int) (S 3 i : Int) ∧ tx Z B C 41 i (T (1 + i)) ∧ tx Z B C 43 i (T (5 + i)) ∧
  (∃ f : Nat → Option Nat, C 45 i = some (gR Z 3 4 f) ∧ (∀ r, r < S 2 i → f r = some (B 46 (4 * i + r))) ∧ ∀ r, S 2 i ≤ r → f r = none) ∧
  (∀ r, r < S 2 i → tx Z B C 46 (4 * i + r) (T (9 + 4 * i + r))) ∧ (∀ r, S 2 i ≤ r → r < 4 → C 46 (4 * i + r) = none ∧ C 47 (4 * i + r) = none) ∧
  tx Z B C 48 i [] ∧ ∃ F : Nat → Int, C 50 i = some (gJ Z 5 F) ∧ ∀ u, u < 5 → F u = (S 7 (5 * i + u) : Int) - 1
/-- what of the bench is no working space -/
def cs (Z : gZ) (B : gB) (C : gC) (S : gS) (T : gTx) : Prop :=
  C 0 0 = beO B (S 0 1 : Int) (S 0 0 : Int) (S 0 2 : Int) (S 0 3 : Int) ∧ tx Z B C 1 0 (T 0) ∧
  (∃ F : Nat → Int, C 3 0 = some (gJ Z 100 F) ∧ ∀ x, x < 100 → F x = ownf S (x : Int)) ∧
  (∃ f : Nat → Option Nat, C 4 0 = some (gR Z 1 4 f) ∧ (∀ i, i < S 0 0 → f i = some (B 40 i)) ∧ ∀ i, S 0 0 ≤ i → f i = none) ∧
  (∃ f : Nat → Option Nat, C 5 0 = some (gR Z 2 12 f) ∧ (∀ q, q < S 0 2 → f q = some (B 60 q)) ∧ ∀ q, S 0 2 ≤ q → f q = none) ∧
  (∃ F : Nat → Int, C 6 0 = some (gJ Z 4 F) ∧ ∀ p, p < S 0 3 → F p = (S 6 p : Int)) ∧
  (∀ i, i < S 0 0 → chg Z B C S T i) ∧ (∀ q, q < S 0 2 → C 60 q = rmO B (S 11 q) (S 12 q : Int) (S 13 q : Int) (S 14 q : Int)) ∧
  (∀ i k, S 0 0 ≤ i → 40 ≤ k → k ≤ 50 → k ≠ 46 → k ≠ 47 → C k i = none) ∧ (∀ i, 4 * S 0 0 ≤ i → C 46 i = none ∧ C 47 i = none) ∧ ∀ q, S 0 2 ≤ q → C 60 q = none
/-- the working space -/
def cx (Z : gZ) (B : gB) (C : gC) : Prop := so Z B C 10 0 ∧ wo Z B C 14 0 ∧ ao Z B C 16 0 ∧ ∃ (cf : Int) (mt : List Int), moq Z B C cf mt
/-- nothing but the working space has changed -/
def fws (C C' : gC) : Prop := ∀ k' i', ¬ (10 ≤ k' ∧ k' ≤ 37) → C' k' i' = C k' i'
theorem fws.rfl' {C : gC} : fws C C := fun _ _ _ => rfl
theorem fws.trans {C C1 C2 : gC} (h1 : fws C C1) (h2 : fws C1 C2) : fws C C2 := fun k' i' h => (h2 k' i' h).trans (h1 k' i' h)
theorem chg.kept {Z : gZ} {B : gB} {C C' : gC} {S : gS} {T : gTx} {i : Nat} (h : chg Z B C S T i) (hf : ∀ k' i', 40 ≤ k' → k' ≤ 50 → C' k' i' = C k' i') : chg Z B C' S T i := by
  obtain ⟨h1, h2, h3, ⟨f, h4, h5, h6⟩, h7, h8, h9, F, h10, h11⟩ := h
  refine ⟨(hf _ _ (by omega) (by omega)).trans h1, h2.kept (hf _ _ (by omega) (by omega)) (hf _ _ (by omega) (by omega)), h3.kept (hf _ _ (by omega) (by omega)) (hf _ _ (by omega) (by omega)), ⟨f, (hf _ _ (by omega) (by omega)).trans h4, h5, h6⟩, fun r hr => (h7 r hr).kept (hf _ _ (by omega) (by omega)) (hf _ _ (by omega) (by omega)), fun r hr hr2 => ⟨(hf _ _ (by omega) (by omega)).trans (h8 r hr hr2).1, (hf _ _ (by omega) (by omega)).trans (h8 r hr hr2).2⟩, h9.kept (hf _ _ (by omega) (by omega)) (hf _ _ (by omega) (by omega)), F, (hf _ _ (by omega) (by omega)).trans h10, h11⟩
theorem cs.kept {Z : gZ} {B : gB} {C C' : gC} {S : gS} {T : gTx} (h : cs Z B C S T) (hf : fws C C') : cs Z B C' S T := by
  obtain ⟨h1, h2, ⟨F, h3, h3'⟩, ⟨f, h4, h4'⟩, ⟨g, h5, h5'⟩, ⟨G, h6, h6'⟩, h7, h8, h9, h10, h11⟩ := h
  refine ⟨(hf _ _ (by omega)).trans h1, h2.kept (hf _ _ (by omega)) (hf _ _ (by omega)), ⟨F, (hf _ _ (by omega)).trans h3, h3'⟩, ⟨f, (hf _ _ (by omega)).trans h4, h4'⟩, ⟨g, (hf _ _ (by omega)).trans h5, h5'⟩, ⟨G, (hf _ _ (by omega)).trans h6, h6'⟩,
    fun i hi => (h7 i hi).kept (fun k' i' a b => hf _ _ (by omega)), fun q hq => (hf _ _ (by omega)).trans (h8 q hq), fun i k a1 a2 a3 a4 a5 => (hf _ _ (by omega)).trans (h9 i k a1 a2 a3 a4 a5), fun i hi => ⟨(hf _ _ (by omega)).trans (h10 i hi).1, (hf _ _ (by omega)).trans (h10 i hi).2⟩, fun q hq => (hf _ _ (by omega)).trans (h11 q hq)⟩
theorem wo.fr {Z : gZ} {B : gB} {C C' : gC} {k u : Nat} (h : wo Z B C k u) (h1 : ∀ q, q < 2 → C' (k + q) u = C (k + q) u) : wo Z B C' k u := h.kept (h1 0 (by omega)) (h1 1 (by omega))
theorem ao.fr {Z : gZ} {B : gB} {C C' : gC} {k u : Nat} (h : ao Z B C k u) (h1 : ∀ q, q < 2 → C' (k + q) u = C (k + q) u) : ao Z B C' k u := h.kept (h1 0 (by omega)) (h1 1 (by omega))
theorem cx.kept {Z : gZ} {B : gB} {C C' : gC} (h : cx Z B C) (hf : ∀ k' i', 10 ≤ k' → k' ≤ 37 → C' k' i' = C k' i') : cx Z B C' := by
  obtain ⟨h1, h2, h3, cf, mt, h4⟩ := h
  exact ⟨h1.fr (fun q _ => hf _ _ (by omega) (by omega)), h2.fr (fun q _ => hf _ _ (by omega) (by omega)), h3.fr (fun q _ => hf _ _ (by omega) (by omega)), cf, mt, h4.kept (fun k' _ _ => hf _ _ (by omega) (by omega))⟩
/-! a new name for the addresses -/
theorem tx.B {Z : gZ} {B B1 : gB} {C : gC} {k i : Nat} {t : List Int} (h : tx Z B C k i t) (hb : B1 (k + 1) i = B (k + 1) i) : tx Z B1 C k i t := by
  obtain ⟨a, b, c, d⟩ := h
  exact ⟨a, b, by rw [hb]; exact c, d⟩
theorem so.B {Z : gZ} {B B1 : gB} {C : gC} {k u : Nat} (h : so Z B C k u) (h1 : B1 (k + 1) u = B (k + 1) u) (h2 : B1 (k + 2) u = B (k + 2) u) (h3 : B1 (k + 3) u = B (k + 3) u) : so Z B1 C k u := by
  obtain ⟨n, R, K, A, a, b, c, d⟩ := h
  exact ⟨n, R, K, A, by rw [h1, h2, h3]; exact a, b, c, d⟩
theorem wo.B {Z : gZ} {B B1 : gB} {C : gC} {k u : Nat} (h : wo Z B C k u) (h1 : B1 (k + 1) u = B (k + 1) u) : wo Z B1 C k u := by
  obtain ⟨R, a, b⟩ := h
  exact ⟨R, by rw [h1]; exact a, b⟩
theorem ao.B {Z : gZ} {B B1 : gB} {C : gC} {k u : Nat} (h : ao Z B C k u) (h1 : B1 (k + 1) u = B (k + 1) u) : ao Z B1 C k u := by
  obtain ⟨R, a, b⟩ := h
  exact ⟨R, by rw [h1]; exact a, b⟩
theorem moq.B {Z : gZ} {B B1 : gB} {C : gC} {cf : Int} {mt : List Int} (h : moq Z B C cf mt) (hb : ∀ k', 19 ≤ k' → k' ≤ 37 → B1 k' 0 = B k' 0) : moq Z B1 C cf mt := by
  obtain ⟨h1, h2, h3, ⟨t1, h4⟩, ⟨t2, h5⟩, ⟨t3, h6⟩, h7⟩ := h
  exact ⟨by rw [hb 20 (by omega) (by omega), hb 24 (by omega) (by omega), hb 30 (by omega) (by omega), hb 32 (by omega) (by omega), hb 34 (by omega) (by omega), hb 36 (by omega) (by omega)]; exact h1, h2.B (hb _ (by omega) (by omega)) (hb _ (by omega) (by omega)) (hb _ (by omega) (by omega)), h3.B (hb _ (by omega) (by omega)) (hb _ (by omega) (by omega)) (hb _ (by omega) (by omega)), ⟨t1, h4.B (hb _ (by omega) (by omega))⟩, ⟨t2, h5.B (hb _ (by omega) (by omega))⟩, ⟨t3, h6.B (hb _ (by omega) (by omega))⟩, h7.B (hb _ (by omega) (by omega))⟩
theorem cx.B {Z : gZ} {B B1 : gB} {C : gC} (h : cx Z B C) (hb : ∀ k', 11 ≤ k' → k' ≤ 37 → B1 k' 0 = B k' 0) : cx Z B1 C := by
  obtain ⟨h1, h2, h3, cf, mt, h4⟩ := h
  exact ⟨h1.B (hb _ (by omega) (by omega)) (hb _ (by omega) (by omega)) (hb _ (by omega) (by omega)), h2.B (hb _ (by omega) (by omega)), h3.B (hb _ (by omega) (by omega)), cf, mt, h4.B (fun k' a b => hb _ (by omega) b)⟩
theorem chg.B {Z : gZ} {B B1 : gB} {C : gC} {S : gS} {T : gTx} {i : Nat} (h : chg Z B C S T i) (hb : ∀ k' i', 40 ≤ k' → k' ≤ 50 → C k' i' ≠ none → B1 k' i' = B k' i') : chg Z B1 C S T i := by
  obtain ⟨h1, h2, h3, ⟨f, h4, h5, h6⟩, h7, h8, h9, F, h10, h11⟩ := h
  have tb : ∀ k i' t, 40 ≤ k → k ≤ 49 → tx Z B C k i' t → tx Z B1 C k i' t ∧ B1 k i' = B k i' := fun k i' t a b h => by
    obtain ⟨-, -, c1, G, c2, -⟩ := id h
    exact ⟨h.B (hb _ _ (by omega) (by omega) (by rw [c2]; simp)), hb _ _ a (by omega) (by rw [c1]; simp)⟩
  have t2 := tb _ _ _ (by omega) (by omega) h2
  have t3 := tb _ _ _ (by omega) (by omega) h3
  have t9 := tb _ _ _ (by omega) (by omega) h9
  refine ⟨?_, t2.1, t3.1, ⟨f, h4, fun r hr => by rw [(tb _ _ _ (by omega) (by omega) (h7 r hr)).2]; exact h5 r hr, h6⟩, fun r hr => (tb _ _ _ (by omega) (by omega) (h7 r hr)).1, h8, t9.1, F, h10, h11⟩
  unfold chO
  rw [t2.2, t3.2, t9.2, hb 45 i (by omega) (by omega) (by rw [h4]; simp), hb 50 i (by omega) (by omega) (by rw [h10]; simp)]
  exact h1
