/-! WHAT IS FOUND OUT: bits, owners, approvals, reasons, places -/
theorem bit_ext' : ∀ n m : Fin 32, (∀ u : Fin 5, n.val.testBit u.val = m.val.testBit u.val) → n.val = m.val := by decide +kernel
theorem bit_ext {n m : Nat} (hn : n < 32) (hm : m < 32) (h : ∀ u, u < 5 → n.testBit u = m.testBit u) : n = m := bit_ext' ⟨n, hn⟩ ⟨m, hm⟩ (fun u => h u.val u.isLt)
def bdif (n m : Nat) : Nat := n &&& (31 ^^^ m)
theorem bdif_1 : ∀ n m : Fin 32, zI (n.val : Int) &&& (zI (m.val : Int) ^^^ zI (-1)) = zI (bdif n.val m.val : Int) := by decide +kernel
theorem bor_1 : ∀ n m : Fin 32, zI (n.val : Int) ||| zI (m.val : Int) = zI ((n.val ||| m.val : Nat) : Int) := by decide +kernel
theorem bdif_lt' : ∀ n m : Fin 32, bdif n.val m.val < 32 := by decide +kernel
theorem bor_lt' : ∀ n m : Fin 32, n.val ||| m.val < 32 := by decide +kernel
theorem bdif_t' : ∀ n m : Fin 32, ∀ u : Fin 5, (bdif n.val m.val).testBit u.val = (n.val.testBit u.val && !m.val.testBit u.val) := by decide +kernel
theorem bdif_i {n m : Nat} (hn : n < 32) (hm : m < 32) : zI (n : Int) &&& (zI (m : Int) ^^^ zI (-1)) = zI (bdif n m : Int) := bdif_1 ⟨n, hn⟩ ⟨m, hm⟩
theorem bor_i {n m : Nat} (hn : n < 32) (hm : m < 32) : zI (n : Int) ||| zI (m : Int) = zI ((n ||| m : Nat) : Int) := bor_1 ⟨n, hn⟩ ⟨m, hm⟩
theorem bdif_lt {n m : Nat} (hn : n < 32) (hm : m < 32) : bdif n m < 32 := bdif_lt' ⟨n, hn⟩ ⟨m, hm⟩
theorem bor_lt {n m : Nat} (hn : n < 32) (hm : m < 32) : n ||| m < 32 := bor_lt' ⟨n, hn⟩ ⟨m, hm⟩
theorem bdif_t {n m u : Nat} (hn : n < 32) (hm : m < 32) (hu : u < 5) : (bdif n m).testBit u = (n.testBit u && !m.testBit u) := bdif_t' ⟨n, hn⟩ ⟨m, hm⟩ ⟨u, hu⟩
theorem bor_16 : ∀ n m : Fin 16, n.val ||| m.val < 16 := by decide +kernel
theorem bset_16 : ∀ n : Fin 16, ∀ j : Fin 4, bset n.val j.val < 16 := by decide +kernel
def mkb (p : Nat → Bool) : Nat → Nat
  | 0 => 0
  | n + 1 => if p n = true then bset (mkb p n) n else mkb p n
theorem mkb_lt (p : Nat → Bool) : ∀ n, n ≤ 5 → mkb p n < 32
  | 0, _ => (by decide : (0 : Nat) < 32)
  | n + 1, h => by
    unfold mkb
    split
    · exact bset_l (mkb_lt p n (by omega)) (by omega)
    · exact mkb_lt p n (by omega)
theorem mkb_t (p : Nat → Bool) : ∀ n, n ≤ 5 → ∀ j, j < 5 → (mkb p n).testBit j = (decide (j < n) && p j)
  | 0, _, j, _ => by simp [mkb]
  | n + 1, h, j, hj => by
    have ih := mkb_t p n (by omega) j hj
    unfold mkb
    by_cases hjn : n = j
    · subst hjn
      split
      · rename_i hp
        rw [bset_t]; simp [hp]
      · rename_i hp
        rw [ih]; simp [hp]
    · split
      · rw [bset_t, ih, show decide (n = j) = false by simp [hjn], show decide (j < n + 1) = decide (j < n) by by_cases q : j < n <;> simp <;> omega]; simp
      · rw [ih, show decide (j < n + 1) = decide (j < n) by by_cases q : j < n <;> simp <;> omega]
/-- owners of altered lines, as bits -/
def albn (S : gS) (n : Nat) (l : List Int) : Nat := l.foldl (fun m x => if ownr S n x = -1 then m else bset m (ownr S n x).toNat) 0
abbrev alb (S : gS) (l : List Int) : Nat := albn S (S 0 1) l
theorem albn_snoc (S : gS) (n : Nat) (l : List Int) (x : Int) : albn S n (l ++ [x]) = if ownr S n x = -1 then albn S n l else bset (albn S n l) (ownr S n x).toNat := by
  unfold albn
  rw [List.foldl_append]
  rfl
theorem ownr_rng {S : gS} : ∀ (n : Nat), (∀ r, r < n → S 10 r < 5) → ∀ x, -1 ≤ ownr S n x ∧ ownr S n x < 5
  | 0, _, x => by simp [ownr]
  | n + 1, h, x => by
    unfold ownr
    split
    · have := h n (by omega); omega
    · exact ownr_rng n (fun r hr => h r (by omega)) x
abbrev albs (S : gS) (n m : Nat) (x : Int) : Nat := if ownr S n x = -1 then m else bset m (ownr S n x).toNat
theorem albs_lt {S : gS} {n m : Nat} (h : ∀ r, r < n → S 10 r < 5) (hm : m < 32) (x : Int) : albs S n m x < 32 := by
  unfold albs
  split
  · exact hm
  · have := ownr_rng n h x
    exact bset_l hm (by omega)
theorem albf_lt {S : gS} {n : Nat} (h : ∀ r, r < n → S 10 r < 5) : ∀ (l : List Int) (m : Nat), m < 32 → l.foldl (albs S n) m < 32
  | [], m, hm => hm
  | x :: l, m, hm => albf_lt h l _ (albs_lt h hm x)
theorem albn_lt {S : gS} {n : Nat} (h : ∀ r, r < n → S 10 r < 5) (l : List Int) : albn S n l < 32 := albf_lt h l 0 (by decide)
theorem albf_t {S : gS} {n : Nat} (h : ∀ r, r < n → S 10 r < 5) (u : Nat) (hu : u < 5) : ∀ (l : List Int) (m : Nat), (l.foldl (albs S n) m).testBit u = (m.testBit u || l.any (fun x => ownr S n x == (u : Int)))
  | [], m => by simp
  | x :: l, m => by
    have hr := ownr_rng n h x
    rw [List.foldl_cons, albf_t h u hu l, List.any_cons, ← Bool.or_assoc]
    congr 1
    unfold albs
    split
    · rename_i hx
      have : (ownr S n x == (u : Int)) = false := by simp; omega
      simp [this]
    · rename_i hx
      rw [bset_t]
      congr 1
      by_cases q : ownr S n x = (u : Int)
      · simp [q]
      · have : ¬ (ownr S n x).toNat = u := by omega
        simp [this, q]
theorem albn_t {S : gS} {n : Nat} (h : ∀ r, r < n → S 10 r < 5) (l : List Int) (u : Nat) (hu : u < 5) : (albn S n l).testBit u = l.any (fun x => ownr S n x == (u : Int)) := by
  have := albf_t h u hu l 0
  rw [Nat.zero_testBit, Bool.false_or] at this
  exact this
/-- the script from a to b alters a line of user u -/
def tch (S : gS) (a b : List Int) (u : Nat) : Bool := (al a b).any (fun x => ownf S x == (u : Int))
abbrev rdt (T : gTx) (i r : Nat) : List Int := T (9 + 4 * i + r)
abbrev prs (S : gS) (T : gTx) (i : Nat) : List Int := rdt T i (S 2 i - 1)
def nee (S : gS) (T : gTx) (i : Nat) : Nat := if S 2 i = 0 then 0 else bclr (alb S (al (T (1 + i)) (prs S T i))) (S 1 i)
def oldn (S : gS) (T : gTx) (i u : Nat) : Nat → Nat → Bool
  | 0, _ => false
  | n + 1, q => tch S (rdt T i (q - 1)) (rdt T i q) u || oldn S T i u n (q + 1)
/-- from round q on a round has altered a line of user u -/
def old (S : gS) (T : gTx) (i u q : Nat) : Bool := oldn S T i u (S 2 i - q) q
theorem old_end {S : gS} {T : gTx} {i u q : Nat} (h : S 2 i ≤ q) : old S T i u q = false := by
  unfold old
  rw [show S 2 i - q = 0 by omega]
  rfl
theorem old_s {S : gS} {T : gTx} {i u q : Nat} (h : q < S 2 i) : old S T i u q = (tch S (rdt T i (q - 1)) (rdt T i q) u || old S T i u (q + 1)) := by
  unfold old
  rw [show S 2 i - q = (S 2 i - (q + 1)) + 1 by omega]
  rfl
def frb (S : gS) (T : gTx) (i u : Nat) : Bool := decide (1 ≤ S 7 (5 * i + u)) && !old S T i u (S 7 (5 * i + u))
def fre (S : gS) (T : gTx) (i : Nat) : Nat := mkb (frb S T i) 5
def opnr (S : gS) (i : Nat) : Nat → Nat
  | 0 => 0
  | n + 1 => opnr S i n + if S 11 n = i ∧ S 14 n = 0 then 1 else 0
abbrev opn (S : gS) (i : Nat) : Nat := opnr S i (S 0 2)
theorem opnr_le (S : gS) (i n : Nat) : opnr S i n ≤ n := by
  induction n with
  | zero => exact Nat.le_refl _
  | succ n ih => unfold opnr; split <;> omega
def wai (S : gS) (i : Nat) : Nat → Bool
  | 0 => false
  | n + 1 => wai S i n || ((S 3 i).testBit n && decide (S 5 n = 0))
def ab1 (S : gS) (m : Nat) : Nat → Nat
  | 0 => m
  | n + 1 => if (ab1 S m n).testBit n = true then ab1 S m n ||| S 3 n else ab1 S m n
def abt (S : gS) (m : Nat) : Nat → Nat
  | 0 => m
  | n + 1 => ab1 S (abt S m n) (S 0 0)
/-- all changes after which change i has to land -/
def abf (S : gS) (i : Nat) : Nat := abt S (S 3 i) 4
theorem ab1_lt {S : gS} {m : Nat} (hm : m < 16) : ∀ n, (∀ c, c < n → S 3 c < 16) → ab1 S m n < 16
  | 0, _ => hm
  | n + 1, h => by
    have ih := ab1_lt hm n (fun c hc => h c (by omega))
    unfold ab1
    split
    · exact bor_16 ⟨_, ih⟩ ⟨_, h n (by omega)⟩
    · exact ih
theorem abt_lt {S : gS} {m : Nat} (hm : m < 16) (h : ∀ c, c < S 0 0 → S 3 c < 16) : ∀ n, abt S m n < 16
  | 0 => hm
  | n + 1 => ab1_lt (abt_lt hm h n) _ h
/-- the reason against landing, or 32 -/
def rsn (S : gS) (T : gTx) (i : Nat) : Nat :=
  if S 5 i ≠ 0 then 108 else if S 2 i = 0 then 114 else if wai S i (S 0 0) = true then 100 else if 0 < opn S i then 99 else if bdif (nee S T i) (fre S T i) ≠ 0 then 97 else
    match mg3 (T (1 + i)) (T 0) (prs S T i) with
    | none => 109
    | some x => if 12 < x.length then 115 else 32
/-- the state behind the landing of change i -/
def ldS (S : gS) (i : Nat) : gS := su (su (su S 5 i 1) 6 (S 0 3) i) 0 3 (S 0 3 + 1)
def ldT (S : gS) (T : gTx) (i : Nat) : gTx := tu T 0 ((mg3 (T (1 + i)) (T 0) (prs S T i)).getD [])
/-- a line of round st, n rounds later -/
def plc (T : gTx) (o : Nat) : Nat → Nat → Option Nat → Option Nat
  | 0, _, p => p
  | n + 1, st, p => plc T o n (st + 1) (p.bind (fun x => kt (rdt T o st) (rdt T o (st + 1)) x))
/-- a line of round st, n rounds before -/
def plb (T : gTx) (o : Nat) : Nat → Nat → Option Nat → Option Nat
  | 0, _, p => p
  | n + 1, st, p => plb T o n (st - 1) (p.bind (fun x => kf (rdt T o (st - 1)) (rdt T o st) x))
theorem plc_none (T : gTx) (o : Nat) : ∀ n st, plc T o n st none = none
  | 0, _ => rfl
  | n + 1, st => plc_none T o n (st + 1)
theorem plb_none (T : gTx) (o : Nat) : ∀ n st, plb T o n st none = none
  | 0, _ => rfl
  | n + 1, st => plb_none T o n (st - 1)
theorem plb_last (T : gTx) (o : Nat) : ∀ n st p, plb T o (n + 1) (st + n + 1) p = (plb T o n (st + n + 1) p).bind (fun x => kf (rdt T o st) (rdt T o (st + 1)) x)
  | 0, st, p => rfl
  | n + 1, st, p => by
    have := plb_last T o n st (p.bind (fun x => kf (rdt T o (st + n + 1)) (rdt T o (st + n + 1 + 1)) x))
    rw [show st + (n + 1) + 1 = (st + n + 1) + 1 by omega]
    exact this
theorem plc_plb (T : gTx) (o : Nat) : ∀ n st x y, plc T o n st (some x) = some y ↔ plb T o n (st + n) (some y) = some x
  | 0, st, x, y => by simp [plc, plb]; exact eq_comm
  | n + 1, st, x, y => by
    rw [show st + (n + 1) = st + n + 1 by omega, plb_last]
    show plc T o n (st + 1) (kt (rdt T o st) (rdt T o (st + 1)) x) = some y ↔ _
    rw [show st + n + 1 = (st + 1) + n by omega]
    constructor
    · intro h
      cases hk : kt (rdt T o st) (rdt T o (st + 1)) x with
      | none => rw [hk, plc_none] at h; cases h
      | some z =>
        rw [hk] at h
        rw [(plc_plb T o n (st + 1) z y).mp h]
        exact (kt_kf _ _ _ _).mp hk
    · intro h
      cases hb : plb T o n (st + 1 + n) (some y) with
      | none => rw [hb] at h; cases h
      | some z =>
        rw [hb] at h
        rw [(kt_kf _ _ x z).mpr h]
        exact (plc_plb T o n (st + 1) z y).mpr hb
theorem cs.ch {Z : gZ} {B : gB} {C : gC} {S : gS} {T : gTx} (h : cs Z B C S T) {i : Nat} (hi : i < S 0 0) : chg Z B C S T i := h.2.2.2.2.2.2.1 i hi
theorem wf.ch {S : gS} {T : gTx} (h : wf S T) {i : Nat} (hi : i < S 0 0) : S 1 i < 5 ∧ S 2 i ≤ 4 ∧ S 3 i < 16 ∧ S 4 i ≤ 9 ∧ S 5 i ≤ 1 ∧ ∀ u, u < 5 → S 7 (5 * i + u) ≤ S 2 i := h.2.2.2.2.1 i hi
theorem wf.rm {S : gS} {T : gTx} (h : wf S T) {q : Nat} (hq : q < S 0 2) : S 11 q < S 0 0 ∧ S 12 q < S 2 (S 11 q) ∧ S 13 q < (T (9 + 4 * S 11 q + S 12 q)).length ∧ S 14 q ≤ 1 := h.2.2.2.2.2.2.2.1 q hq
theorem wf.rg {S : gS} {T : gTx} (h : wf S T) : ∀ r, r < S 0 1 → S 10 r < 5 := fun r hr => (h.2.2.2.2.2.2.1 r hr).2.2
theorem wf.tx {S : gS} {T : gTx} (h : wf S T) (k : Nat) : (T k).length ≤ 12 := (h.2.2.2.2.2.2.2.2 k).1
theorem wf.tc {S : gS} {T : gTx} (h : wf S T) (k : Nat) : ∀ x ∈ T k, 0 ≤ x ∧ x < 100 := (h.2.2.2.2.2.2.2.2 k).2
theorem wf.n {S : gS} {T : gTx} (h : wf S T) : S 0 0 ≤ 4 ∧ S 0 1 ≤ 6 ∧ S 0 2 ≤ 12 := ⟨h.1, h.2.1, h.2.2.1⟩
theorem lsum_le {S : gS} : ∀ n, (∀ c, c < n → S 5 c ≤ 1) → lsum S n ≤ n
  | 0, _ => Nat.le_refl _
  | n + 1, h => by
    have := lsum_le n (fun c hc => h c (by omega))
    have := h n (by omega)
    unfold lsum
    omega
theorem lsum_lt {S : gS} : ∀ n, (∀ c, c < n → S 5 c ≤ 1) → ∀ i, i < n → S 5 i = 0 → lsum S n < n
  | 0, _, i, hi, _ => by omega
  | n + 1, h, i, hi, h0 => by
    unfold lsum
    by_cases e : i = n
    · subst e
      have := lsum_le i (fun c hc => h c (by omega))
      omega
    · have := lsum_lt n (fun c hc => h c (by omega)) i (by omega) h0
      have := h n (by omega)
      omega
theorem wf.ld {S : gS} {T : gTx} (h : wf S T) : S 0 3 ≤ S 0 0 := by
  rw [h.2.2.2.1]
  exact lsum_le _ (fun c hc => (h.ch hc).2.2.2.2.1)
theorem wf.ld' {S : gS} {T : gTx} (h : wf S T) {i : Nat} (hi : i < S 0 0) (h0 : S 5 i = 0) : S 0 3 < S 0 0 := by
  rw [h.2.2.2.1]
  exact lsum_lt _ (fun c hc => (h.ch hc).2.2.2.2.1) i hi h0
theorem cs.one {Z : gZ} {B B1 : gB} {C C' : gC} {S S' : gS} {T T' : gTx} {i : Nat} (h : cs Z B C S T) (hi : i < S 0 0)
    (hS : ∀ k' i', ¬ (2 ≤ k' ∧ k' ≤ 5 ∧ i' = i) → ¬ (k' = 7 ∧ 5 * i ≤ i' ∧ i' < 5 * i + 5) → S' k' i' = S k' i')
    (hT : T' 0 = T 0) (hTo : ∀ c, c ≠ i → T' (1 + c) = T (1 + c) ∨ 4 ≤ c) (hTo2 : ∀ c, c ≠ i → T' (5 + c) = T (5 + c) ∨ 4 ≤ c) (hTo3 : ∀ c r, c ≠ i → r < 4 → T' (9 + 4 * c + r) = T (9 + 4 * c + r)) (h4 : S 0 0 ≤ 4) (h24 : ∀ c, c < S 0 0 → S 2 c ≤ 4) (h11n : ∀ q, q < S 0 2 → S 11 q < S 0 0)
    (hch : chg Z B1 C' S' T' i) (hfC : ∀ k' i', ¬ (40 ≤ k' ∧ k' ≤ 50 ∧ k' ≠ 46 ∧ k' ≠ 47 ∧ i' = i) → ¬ ((k' = 46 ∨ k' = 47) ∧ 4 * i ≤ i' ∧ i' < 4 * i + 4) → C' k' i' = C k' i')
    (hfB : ∀ k' i', k' < 40 ∨ C k' i' ≠ none → B1 k' i' = B k' i') : cs Z B1 C' S' T' := by
  obtain ⟨h1, h2, ⟨F, h3, h3'⟩, ⟨f, h4', h4a, h4b⟩, ⟨g, h5, h5a, h5b⟩, ⟨G, h6, h6'⟩, h7, h8, h9, h10, h11⟩ := h
  have e00 : S' 0 0 = S 0 0 := hS _ _ (by omega) (by omega)
  have e01 : S' 0 1 = S 0 1 := hS _ _ (by omega) (by omega)
  have e02 : S' 0 2 = S 0 2 := hS _ _ (by omega) (by omega)
  have e03 : S' 0 3 = S 0 3 := hS _ _ (by omega) (by omega)
  have eo : ∀ n x, ownr S' n x = ownr S n x := fun n x => by
    induction n with
    | zero => rfl
    | succ n ih =>
      unfold ownr
      rw [hS 8 n (by omega) (by omega), hS 9 n (by omega) (by omega), hS 10 n (by omega) (by omega), ih]
  have c40 : ∀ j, j < S 0 0 → C 40 j ≠ none := fun j hj => by rw [(h7 j hj).1]; simp
  refine ⟨?_, ?_, ⟨F, (hfC _ _ (by omega) (by omega)).trans h3, fun x hx => by rw [h3' x hx, ownf, ownf, e01, eo]⟩, ⟨f, (hfC _ _ (by omega) (by omega)).trans h4', fun j hj => ?_, fun j hj => h4b j (by omega)⟩, ⟨g, (hfC _ _ (by omega) (by omega)).trans h5, fun q hq => ?_, fun q hq => h5b q (by omega)⟩, ⟨G, (hfC _ _ (by omega) (by omega)).trans h6, fun p hp => by rw [hS 6 p (by omega) (by omega)]; exact h6' p (by omega)⟩, fun j hj => ?_, fun q hq => ?_, fun j k a1 a2 a3 a4 a5 => ?_, fun j hj => ?_, fun q hq => ?_⟩
  · unfold beO
    rw [hfC _ _ (by omega) (by omega), h1, e00, e01, e02, e03, hfB 1 0 (by omega), hfB 3 0 (by omega), hfB 4 0 (by omega), hfB 5 0 (by omega), hfB 6 0 (by omega), hfB 10 0 (by omega), hfB 14 0 (by omega), hfB 16 0 (by omega), hfB 18 0 (by omega)]
  · rw [hT]
    exact (h2.kept (hfC _ _ (by omega) (by omega)) (hfC _ _ (by omega) (by omega))).B (hfB _ _ (by omega))
  · rw [hfB _ _ (Or.inr (c40 j (by omega)))]
    exact h4a j (by omega)
  · rw [hfB _ _ (Or.inr (by rw [h8 q (by omega)]; simp))]
    exact h5a q (by omega)
  · by_cases e : j = i
    · subst e; exact hch
    · rw [e00] at hj
      have hc := h7 j hj
      have hC : ∀ k', 40 ≤ k' → k' ≤ 50 → k' ≠ 46 → k' ≠ 47 → C' k' j = C k' j := fun k' a b _ _ => hfC _ _ (by omega) (by omega)
      have hC6 : ∀ k' r, k' = 46 ∨ k' = 47 → r < 4 → C' k' (4 * j + r) = C k' (4 * j + r) := fun k' r a b => hfC _ _ (by omega) (by omega)
      obtain ⟨d1, d2, d3, ⟨f9, d4, d5, d6⟩, d7, d8, d9, F9, d10, d11⟩ := hc
      have hr4 := h24 j hj
      have tb : ∀ k i' t, 40 ≤ k → tx Z B C k i' t → C' k i' = C k i' → C' (k + 1) i' = C (k + 1) i' → tx Z B1 C' k i' t ∧ B1 k i' = B k i' := fun k i' t a h b1 b2 => by
        obtain ⟨-, -, c1, G9, c2, -⟩ := id h
        exact ⟨(h.kept b1 b2).B (hfB _ _ (Or.inr (by rw [c2]; simp))), hfB _ _ (Or.inr (by rw [c1]; simp))⟩
      have t2 := tb _ _ _ (by omega) d2 (hC _ (by omega) (by omega) (by omega) (by omega)) (hC _ (by omega) (by omega) (by omega) (by omega))
      have t3 := tb _ _ _ (by omega) d3 (hC _ (by omega) (by omega) (by omega) (by omega)) (hC _ (by omega) (by omega) (by omega) (by omega))
      have t9 := tb _ _ _ (by omega) d9 (hC _ (by omega) (by omega) (by omega) (by omega)) (hC _ (by omega) (by omega) (by omega) (by omega))
      have e2 : S' 2 j = S 2 j := hS _ _ (by omega) (by omega)
      refine ⟨?_, ?_, ?_, ⟨f9, (hC _ (by omega) (by omega) (by omega) (by omega)).trans d4, fun r hr => ?_, fun r hr => d6 r (by omega)⟩, fun r hr => ?_, fun r hr hr2 => ?_, t9.1, F9, (hC _ (by omega) (by omega) (by omega) (by omega)).trans d10, fun u hu => ?_⟩
      · unfold chO
        rw [hC _ (by omega) (by omega) (by omega) (by omega), d1, t2.2, t3.2, t9.2, hfB 45 j (Or.inr (by rw [d4]; simp)), hfB 50 j (Or.inr (by rw [d10]; simp)), hS 1 j (by omega) (by omega), e2, hS 4 j (by omega) (by omega), hS 5 j (by omega) (by omega), hS 3 j (by omega) (by omega)]
      · rcases hTo j e with z | z
        · rw [z]; exact t2.1
        · omega
      · rcases hTo2 j e with z | z
        · rw [z]; exact t3.1
        · omega
      · rw [(tb _ _ _ (by omega) (d7 r (by omega)) (hC6 _ _ (by omega) (by omega)) (hC6 _ _ (by omega) (by omega))).2]
        exact d5 r (by omega)
      · rw [hTo3 j r e (by omega)]
        exact (tb _ _ _ (by omega) (d7 r (by omega)) (hC6 _ _ (by omega) (by omega)) (hC6 _ _ (by omega) (by omega))).1
      · have := d8 r (by omega) hr2
        exact ⟨(hC6 _ _ (by omega) (by omega)).trans this.1, (hC6 _ _ (by omega) (by omega)).trans this.2⟩
      · rw [hS 7 _ (by omega) (by omega)]
        exact d11 u hu
  · unfold rmO
    rw [e02] at hq
    rw [hfC _ _ (by omega) (by omega), h8 q hq, hS 11 q (by omega) (by omega), hS 12 q (by omega) (by omega), hS 13 q (by omega) (by omega), hS 14 q (by omega) (by omega)]
    rw [hfB _ _ (Or.inr (c40 _ (h11n q hq)))]
  · exact (hfC _ _ (by omega) (by omega)).trans (h9 j k (by omega) a2 a3 a4 a5)
  · exact ⟨(hfC _ _ (by omega) (by omega)).trans (h10 j (by omega)).1, (hfC _ _ (by omega) (by omega)).trans (h10 j (by omega)).2⟩
  · exact (hfC _ _ (by omega) (by omega)).trans (h11 q (by omega))
