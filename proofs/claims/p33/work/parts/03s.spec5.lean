/-! THE CALLS: by what code a call is refused (0: it isn't), what it answers, what stands behind it -/
abbrev isC (S : gS) (a : Int) : Prop := 0 ≤ a ∧ a < (S 0 0 : Int)
abbrev isU (a : Int) : Prop := 0 ≤ a ∧ a < 5
abbrev isT (a : Int) : Prop := 0 ≤ a ∧ a < 100
abbrev isR (S : gS) (a : Int) : Prop := 0 ≤ a ∧ a < (S 0 2 : Int)
def cd_giveRange (S : gS) (a b u : Int) : Nat := if ¬ isU u then 1 else if ¬ (isT a ∧ isT b ∧ a ≤ b) then 2 else if S 0 1 = 6 then 3 else 0
def nS_giveRange (S : gS) (a b u : Int) : gS := su (su (su (su S 8 (S 0 1) a.toNat) 9 (S 0 1) b.toNat) 10 (S 0 1) u.toNat) 0 1 (S 0 1 + 1)
def cd_open (S : gS) (u : Int) : Nat := if ¬ isU u then 1 else if S 0 0 = 4 then 2 else 0
def nS_open (S : gS) (u : Int) : gS := su (su S 1 (S 0 0) u.toNat) 0 0 (S 0 0 + 1)
def nT_open (S : gS) (T : gTx) : gTx := tu T (1 + S 0 0) (T 0)
def cd_addLine (S : gS) (T : gTx) (c x : Int) : Nat := if ¬ isC S c then 1 else if ¬ isT x then 2 else if S 5 c.toNat = 1 ∨ (T (5 + c.toNat)).length = 12 then 3 else 0
def nT_addLine (T : gTx) (c x : Int) : gTx := tu T (5 + c.toNat) (T (5 + c.toNat) ++ [x])
def cd_lay (S : gS) (c : Int) : Nat := if ¬ isC S c then 1 else if S 5 c.toNat = 1 ∨ S 2 c.toNat = 4 then 2 else 0
def nS_lay (S : gS) (i : Nat) : gS := su S 2 i (S 2 i + 1)
def nT_lay (S : gS) (T : gTx) (i : Nat) : gTx := tu (tu T (9 + 4 * i + S 2 i) (T (5 + i))) (5 + i) []
def cd_landAfter (S : gS) (c o : Int) : Nat := if ¬ (isC S c ∧ isC S o) then 1 else if S 5 c.toNat = 1 then 2 else if c = o ∨ (abf S o.toNat).testBit c.toNat = true then 3 else 0
def nS_landAfter (S : gS) (c o : Int) : gS := su S 3 c.toNat (bset (S 3 c.toNat) o.toNat)
def cd_setPriority (S : gS) (c p : Int) : Nat := if ¬ isC S c then 1 else if ¬ (0 ≤ p ∧ p ≤ 9) then 2 else 0
def nS_setPriority (S : gS) (c p : Int) : gS := su S 4 c.toNat p.toNat
def cd_comment (S : gS) (T : gTx) (c l : Int) : Nat := if ¬ isC S c then 1 else if S 2 c.toNat = 0 ∨ ¬ (0 ≤ l ∧ l < ((prs S T c.toNat).length : Int)) then 2 else if S 5 c.toNat = 1 ∨ S 0 2 = 12 then 3 else 0
def nS_comment (S : gS) (c l : Int) : gS := su (su (su (su S 11 (S 0 2) c.toNat) 12 (S 0 2) (S 2 c.toNat - 1)) 13 (S 0 2) l.toNat) 0 2 (S 0 2 + 1)
def cd_resolve (S : gS) (q : Int) : Nat := if ¬ isR S q then 1 else if S 14 q.toNat = 1 then 2 else 0
def nS_resolve (S : gS) (q : Int) : gS := su S 14 q.toNat 1
def cd_approve (S : gS) (c u : Int) : Nat := if ¬ (isC S c ∧ isU u) then 1 else if S 2 c.toNat = 0 then 2 else if S 5 c.toNat = 1 ∨ (S 1 c.toNat : Int) = u then 3 else 0
def nS_approve (S : gS) (c u : Int) : gS := su S 7 (5 * c.toNat + u.toNat) (S 2 c.toNat)
def cd_withdraw (S : gS) (c u : Int) : Nat := if ¬ (isC S c ∧ isU u) then 1 else if S 7 (5 * c.toNat + u.toNat) = 0 then 2 else if S 5 c.toNat = 1 then 3 else 0
def nS_withdraw (S : gS) (c u : Int) : gS := su S 7 (5 * c.toNat + u.toNat) 0
def cd_land (S : gS) (T : gTx) (c : Int) : Nat := if ¬ isC S c then 1 else if rsn S T c.toNat ≠ 32 then 2 else 0
def cd_reason (S : gS) (T : gTx) (c : Int) : Nat := if ¬ isC S c then 1 else if rsn S T c.toNat = 32 then 2 else 0
/-- the first bit -/
def fst5 (n : Nat) : Nat → Option Nat
  | 0 => none
  | k + 1 => if n.testBit (5 - (k + 1)) = true then some (5 - (k + 1)) else fst5 n k
def mis (S : gS) (T : gTx) (i : Nat) : Option Nat := fst5 (bdif (nee S T i) (fre S T i)) 5
def cd_missing (S : gS) (T : gTx) (c : Int) : Nat := if ¬ isC S c then 1 else if mis S T c.toNat = none then 2 else 0
def cd_landedAt (S : gS) (p : Int) : Nat := if ¬ (0 ≤ p ∧ p < (S 0 3 : Int)) then 1 else 0
def cd_mainLine (T : gTx) (l : Int) : Nat := if ¬ (0 ≤ l ∧ l < ((T 0).length : Int)) then 1 else 0
def cd_C (S : gS) (c : Int) : Nat := if ¬ isC S c then 1 else 0
def cd_CU (S : gS) (c u : Int) : Nat := if ¬ (isC S c ∧ isU u) then 1 else 0
def cd_R (S : gS) (q : Int) : Nat := if ¬ isR S q then 1 else 0
def cd_lines (S : gS) (c r : Int) : Nat := if ¬ isC S c then 1 else if ¬ (0 ≤ r ∧ r < (S 2 c.toNat : Int)) then 2 else 0
def cd_lineAt (S : gS) (T : gTx) (c r l : Int) : Nat := if ¬ isC S c then 1 else if ¬ (0 ≤ r ∧ r < (S 2 c.toNat : Int)) then 2 else if ¬ (0 ≤ l ∧ l < ((rdt T c.toNat r.toNat).length : Int)) then 2 else 0
def cd_edits (S : gS) (c f t : Int) : Nat := if ¬ isC S c then 1 else if ¬ ((0 ≤ f ∧ f < (S 2 c.toNat : Int)) ∧ 0 ≤ t ∧ t < (S 2 c.toNat : Int)) then 2 else 0
def cd_ownerOf (S : gS) (x : Int) : Nat := if ¬ isT x then 1 else if ownf S x = -1 then 2 else 0
abbrev plq (S : gS) (T : gTx) (q r : Nat) : Option Nat := plc T (S 11 q) (r - S 12 q) (S 12 q) (some (S 13 q))
def cd_placeIn (S : gS) (T : gTx) (q r : Int) : Nat := if ¬ isR S q then 1 else if ¬ ((S 12 q.toNat : Int) ≤ r ∧ r < (S 2 (S 11 q.toNat) : Int)) then 2 else if plq S T q.toNat r.toNat = none then 2 else 0
def cd_isStale (S : gS) (c u : Int) : Nat := if ¬ (isC S c ∧ isU u) then 1 else if S 7 (5 * c.toNat + u.toNat) = 0 then 2 else 0
/-- the next to be landed among the first n changes -/
def bst (S : gS) (T : gTx) : Nat → Option Nat
  | 0 => none
  | n + 1 => if (∀ b, bst S T n = some b → S 4 b < S 4 n) ∧ rsn S T n = 32 then some n else bst S T n
/-- landing all, at most n of them -/
def lnd : Nat → gS × gTx → gS × gTx
  | 0, x => x
  | n + 1, x =>
    match bst x.1 x.2 (x.1 0 0) with
    | none => x
    | some i => lnd n (ldS x.1 i, ldT x.1 x.2 i)
/-- what of the world is not the bench's -/
def gfo (C C' : gC) : Prop := ∀ k' i', 70 ≤ k' → C' k' i' = C k' i'
theorem gfo.rfl' {C : gC} : gfo C C := fun _ _ _ => rfl
theorem gfo.trans {C C1 C2 : gC} (h1 : gfo C C1) (h2 : gfo C1 C2) : gfo C C2 := fun k' i' h => (h2 k' i' h).trans (h1 k' i' h)
theorem fws.fo {C C' : gC} (h : fws C C') : gfo C C' := fun k' i' z => h k' i' (by omega)
theorem pubx {Z : gZ} {B : gB} {C C1 C0 : gC} {S : gS} {T : gTx} {P : Prop} (hp : P) (h1 : cs Z B C S T) (h2 : cx Z B C) (h3 : gfo C0 C) (e : C1 = C) : P ∧ cs Z B C1 S T ∧ cx Z B C1 ∧ gfo C0 C1 := by
  subst e; exact ⟨hp, h1, h2, h3⟩
/-- what lies beyond the counts -/
def wz (S : gS) (T : gTx) : Prop := (∀ c, S 0 0 ≤ c → S 2 c = 0 ∧ S 3 c = 0 ∧ S 4 c = 0 ∧ S 5 c = 0 ∧ (∀ u, u < 5 → S 7 (5 * c + u) = 0) ∧ (c < 4 → T (5 + c) = [])) ∧ ∀ q, S 0 2 ≤ q → S 14 q = 0
theorem wo.set {Z : gZ} {B : gB} {C C1 : gC} (h : wo Z B C 14 0) (hf : ∀ k' i', ¬ (k' = 15 ∧ i' = 0) → C1 k' i' = C k' i') (hr : ∃ F : Nat → Int, C1 15 0 = some (gJ Z 51 F)) : wo Z B C1 14 0 := by
  obtain ⟨R, h1, -⟩ := h
  obtain ⟨R', h2⟩ := hr
  exact ⟨R', (hf _ _ (by omega)).trans h1, h2⟩
theorem plq_le {S : gS} {T : gTx} (hwf : wf S T) {q r : Nat} (hq : q < S 0 2) (hr : S 12 q ≤ r) : enc (plq S T q r) ≤ 12 := by
  have hw := hwf.rm hq
  cases hy : plq S T q r with
  | none => decide
  | some y =>
    have h1 := plc_lt _ _ _ _ hy hw.2.2.1
    have h2 : (rdt T (S 11 q) (S 12 q + (r - S 12 q))).length ≤ 12 := hwf.tx _
    simp only [enc]
    omega
