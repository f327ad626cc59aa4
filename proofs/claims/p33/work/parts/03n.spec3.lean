theorem cx.script {Z : gZ} {B : gB} {C C1 : gC} (h : cx Z B C) (h1 : so Z B C1 10 0) (hf : ∀ k' i', ¬ (10 ≤ k' ∧ k' ≤ 13 ∧ i' = 0) → C1 k' i' = C k' i') : cx Z B C1 := by
  obtain ⟨-, h2, h3, cf, mt, h4⟩ := h
  exact ⟨h1, h2.fr (fun q _ => hf _ _ (by omega)), h3.fr (fun q _ => hf _ _ (by omega)), cf, mt, h4.kept (fun k' _ _ => hf _ _ (by omega))⟩
theorem cx.kind {Z : gZ} {B : gB} {C C1 : gC} (h : cx Z B C) (hf : ∀ k' i', ¬ ((k' = 15 ∨ k' = 17) ∧ i' = 0) → C1 k' i' = C k' i') (h1 : wo Z B C1 14 0) (h2 : ao Z B C1 16 0) : cx Z B C1 := by
  obtain ⟨h0, -, -, cf, mt, h4⟩ := h
  exact ⟨h0.fr (fun q _ => hf _ _ (by omega)), h1, h2, cf, mt, h4.kept (fun k' _ _ => hf _ _ (by omega))⟩
theorem cx.merger {Z : gZ} {B : gB} {C C1 : gC} {cf : Int} {mt : List Int} (h : cx Z B C) (h1 : moq Z B C1 cf mt) (hf : ∀ k' i', ¬ (18 ≤ k' ∧ k' ≤ 37 ∧ i' = 0) → C1 k' i' = C k' i') : cx Z B C1 := by
  obtain ⟨h0, h2, h3, -⟩ := h
  exact ⟨h0.fr (fun q _ => hf _ _ (by omega)), h2.fr (fun q _ => hf _ _ (by omega)), h3.fr (fun q _ => hf _ _ (by omega)), cf, mt, h1⟩
/-- the ancestry's row may change -/
theorem ao.set {Z : gZ} {B : gB} {C C1 : gC} (h : ao Z B C 16 0) (hf : ∀ k' i', ¬ (k' = 17 ∧ i' = 0) → C1 k' i' = C k' i') (hr : ∃ R : Nat → Int, C1 17 0 = some (gJ Z 169 R)) : ao Z B C1 16 0 := by
  obtain ⟨R, h1, -⟩ := h
  obtain ⟨R', h2⟩ := hr
  exact ⟨R', (hf _ _ (by omega)).trans h1, h2⟩
theorem wai_t {S : gS} {i k : Nat} : ∀ n, k < n → (S 3 i).testBit k = true → S 5 k = 0 → wai S i n = true
  | 0, h, _, _ => by omega
  | n + 1, h, h1, h2 => by
    unfold wai
    by_cases e : k = n
    · subst e; simp [h1, h2]
    · rw [wai_t n (by omega) h1 h2]; rfl
theorem wai_f {S : gS} {i n : Nat} (h : wai S i n = false) (h1 : ¬ ((S 3 i).testBit n = true ∧ S 5 n = 0)) : wai S i (n + 1) = false := by
  unfold wai
  rw [h]
  cases q : (S 3 i).testBit n
  · rfl
  · simp only [Bool.false_or, Bool.true_and, decide_eq_false_iff_not]
    exact fun z => h1 ⟨q, z⟩
theorem min_s {k n : Nat} (h : k < n) : min (k + 1) n = min k n + 1 := by omega
theorem min_e {k n : Nat} (h : n ≤ k) : min (k + 1) n = min k n := by omega
theorem al_rng {a b : List Int} (ha : ∀ x ∈ a, 0 ≤ x ∧ x < 100) (hb : ∀ x ∈ b, 0 ≤ x ∧ x < 100) {e : Nat} (he : e < ed a b) : 0 ≤ (al a b).getD e (-1) ∧ (al a b).getD e (-1) < 100 := by
  have hl : e < (al a b).length := by rw [al_length]; exact he
  rw [List.getD_eq_getElem?_getD, List.getElem?_eq_getElem hl]
  rcases al_mem_in a b _ (List.getElem_mem hl) with h | h
  · exact ha _ h
  · exact hb _ h
theorem take_s {l : List Int} {e : Nat} (h : e < l.length) : l.take (e + 1) = l.take e ++ [l.getD e (-1)] := by
  rw [List.take_succ, List.getD_eq_getElem?_getD, List.getElem?_eq_getElem h]
  rfl
theorem kf_lt (a b : List Int) (i j : Nat) (h : kf a b j = some i) : i < a.length ∧ j < b.length := kt_lt a b i j ((kt_kf a b i j).mpr h)
theorem plc_lt {T : gTx} {o : Nat} : ∀ n st x y, plc T o n st (some x) = some y → x < (rdt T o st).length → y < (rdt T o (st + n)).length
  | 0, st, x, y, h, hx => by cases h; exact hx
  | n + 1, st, x, y, h, _ => by
    change plc T o n (st + 1) (kt (rdt T o st) (rdt T o (st + 1)) x) = some y at h
    cases hk : kt (rdt T o st) (rdt T o (st + 1)) x with
    | none => rw [hk, plc_none] at h; cases h
    | some z =>
      rw [hk] at h
      have := plc_lt n (st + 1) z y h (kt_lt _ _ _ _ hk).2
      rw [show st + (n + 1) = (st + 1) + n by omega]
      exact this
theorem plc_s {T : gTx} {o n st x : Nat} {X : Option Nat} (h : plc T o (n + 1) st (some x) = X) : plc T o n (st + 1) (kt (rdt T o st) (rdt T o (st + 1)) x) = X := h
theorem plb_s {T : gTx} {o n st x : Nat} {X : Option Nat} (h : plb T o (n + 1) (st + 1) (some x) = X) : plb T o n st (kf (rdt T o st) (rdt T o (st + 1)) x) = X := h
theorem enc_inj' {o : Option Nat} {x : Nat} (h : enc o = (x : Int)) : o = some x := by
  cases o with
  | none => simp only [enc] at h; omega
  | some p => simp only [enc] at h; congr 1; omega
/-- fresh approvals, a round more -/
theorem fr_step {S : gS} {T : gTx} {i r f a : Nat} (hf : f < 32) (ha : a < 32) (hr : 1 ≤ r) (h1 : ∀ u, u < 5 → f.testBit u = (decide (r + 1 ≤ S 7 (5 * i + u)) && !old S T i u (S 7 (5 * i + u)))) (h2 : ∀ u, u < 5 → a.testBit u = old S T i u r) :
    f ||| bdif (mkb (fun u => decide (S 7 (5 * i + u) = (r - 1) + 1)) 5) a < 32 ∧ ∀ u, u < 5 → (f ||| bdif (mkb (fun u => decide (S 7 (5 * i + u) = (r - 1) + 1)) 5) a).testBit u = (decide ((r - 1) + 1 ≤ S 7 (5 * i + u)) && !old S T i u (S 7 (5 * i + u))) := by
  have hm := mkb_lt (fun u => decide (S 7 (5 * i + u) = (r - 1) + 1)) 5 (by omega)
  refine ⟨bor_lt hf (bdif_lt hm ha), fun u hu => ?_⟩
  rw [Nat.testBit_or, h1 u hu, bdif_t hm ha hu, mkb_t _ 5 (by omega) u hu, h2 u hu, show r - 1 + 1 = r by omega]
  rcases Nat.lt_trichotomy (S 7 (5 * i + u)) r with q | q | q
  · rw [decide_eq_false (show ¬ r + 1 ≤ S 7 (5 * i + u) by omega), decide_eq_false (show ¬ r ≤ S 7 (5 * i + u) by omega), decide_eq_false (show ¬ S 7 (5 * i + u) = r by omega)]
    simp
  · rw [decide_eq_false (show ¬ r + 1 ≤ S 7 (5 * i + u) by omega), decide_eq_true (show r ≤ S 7 (5 * i + u) by omega), decide_eq_true (show S 7 (5 * i + u) = r by omega), q]
    simp [hu]
  · rw [decide_eq_true (show r + 1 ≤ S 7 (5 * i + u) by omega), decide_eq_true (show r ≤ S 7 (5 * i + u) by omega), decide_eq_false (show ¬ S 7 (5 * i + u) = r by omega)]
    simp
theorem al_step {S : gS} {T : gTx} {i r a : Nat} (hrg : ∀ r, r < S 0 1 → S 10 r < 5) (ha : a < 32) (hr : 2 ≤ r) (hr2 : r ≤ S 2 i) (h2 : ∀ u, u < 5 → a.testBit u = old S T i u r) :
    a ||| alb S (al (rdt T i (r - 1 - 1)) (rdt T i (r - 1))) < 32 ∧ ∀ u, u < 5 → (a ||| alb S (al (rdt T i (r - 1 - 1)) (rdt T i (r - 1)))).testBit u = old S T i u (r - 1) := by
  refine ⟨bor_lt ha (albn_lt hrg _), fun u hu => ?_⟩
  rw [Nat.testBit_or, h2 u hu, albn_t hrg _ u hu, old_s (q := r - 1) (by omega), show r - 1 + 1 = r by omega, Bool.or_comm]
  rfl
theorem fr_end {S : gS} {T : gTx} {i f : Nat} (hf : f < 32) (h1 : ∀ u, u < 5 → f.testBit u = (decide (0 + 1 ≤ S 7 (5 * i + u)) && !old S T i u (S 7 (5 * i + u)))) : f = fre S T i := by
  refine bit_ext hf (mkb_lt _ 5 (by omega)) (fun u hu => ?_)
  rw [h1 u hu, fre, mkb_t _ 5 (by omega) u hu]
  simp [hu, frb]
theorem nee_lt {S : gS} {T : gTx} {i : Nat} (hrg : ∀ r, r < S 0 1 → S 10 r < 5) (hau : S 1 i < 5) : nee S T i < 32 := by
  unfold nee
  split
  · decide
  · exact bclr_l (albn_lt hrg _) hau
theorem fre_lt {S : gS} {T : gTx} {i : Nat} : fre S T i < 32 := mkb_lt _ 5 (by omega)
theorem rsn_cases (S : gS) (T : gTx) (i : Nat) : rsn S T i = 108 ∨ rsn S T i = 114 ∨ rsn S T i = 100 ∨ rsn S T i = 99 ∨ rsn S T i = 97 ∨ rsn S T i = 109 ∨ rsn S T i = 115 ∨ rsn S T i = 32 := by
  unfold rsn
  split
  · omega
  · split
    · omega
    · split
      · omega
      · split
        · omega
        · split
          · omega
          · split
            · omega
            · split <;> omega
/-- no reason: what holds -/
theorem rsn_ok {S : gS} {T : gTx} {i : Nat} (h : rsn S T i = 32) : S 5 i = 0 ∧ 0 < S 2 i ∧ ∃ x, mg3 (T (1 + i)) (T 0) (prs S T i) = some x ∧ x.length ≤ 12 := by
  unfold rsn at h
  split at h
  · omega
  · rename_i h5
    split at h
    · omega
    · split at h
      · omega
      · split at h
        · omega
        · split at h
          · omega
          · split at h
            · omega
            · rename_i x hx
              split at h
              · omega
              · exact ⟨by omega, by omega, x, hx, by omega⟩
theorem mrow_mem {bs ms rs x : List Int} (h : mrow bs ms rs = some x) : x = rs ∨ x = ms := by
  unfold mrow at h
  split at h
  · cases h; exact Or.inl rfl
  · split at h
    · cases h; exact Or.inr rfl
    · cases h
theorem mg_mem {a b c : List Int} {P : Int → Prop} (ha : ∀ x ∈ a, P x) (hb : ∀ x ∈ b, P x) (hc : ∀ x ∈ c, P x) : ∀ n k f im ir acc x, mg a b c n k f im ir acc = some x → n + k ≤ a.length → (∀ y ∈ acc, P y) → ∀ y ∈ x, P y
  | 0, k, f, im, ir, acc, x, h, _, hacc => by
    unfold mg at h
    cases hm : mrow (seg a f a.length) (seg b im b.length) (seg c ir c.length) with
    | none => rw [hm] at h; cases h
    | some z =>
      rw [hm] at h
      cases h
      intro y hy
      rcases List.mem_append.mp hy with q | q
      · exact hacc y q
      · rcases mrow_mem hm with e | e
        · subst e; exact hc _ (seg_mem q)
        · subst e; exact hb _ (seg_mem q)
  | n + 1, k, f, im, ir, acc, x, h, hn, hacc => by
    unfold mg at h
    split at h
    · rename_i p q hp hq
      cases hm : mrow (seg a f k) (seg b im p) (seg c ir q) with
      | none => rw [hm] at h; cases h
      | some z =>
        rw [hm] at h
        refine mg_mem ha hb hc n _ _ _ _ _ x h (by omega) (fun y hy => ?_)
        rcases List.mem_append.mp hy with w | w
        · rcases List.mem_append.mp w with w | w
          · exact hacc y w
          · rcases mrow_mem hm with e | e
            · subst e; exact hc _ (seg_mem w)
            · subst e; exact hb _ (seg_mem w)
        · rw [List.mem_singleton.mp w, List.getD_eq_getElem?_getD, List.getElem?_eq_getElem (by omega)]
          exact ha _ (List.getElem_mem _)
    · exact mg_mem ha hb hc n _ _ _ _ _ x h (by omega) hacc
theorem mg3_mem {a b c x : List Int} (ha : ∀ x ∈ a, 0 ≤ x ∧ x < 100) (hb : ∀ x ∈ b, 0 ≤ x ∧ x < 100) (hc : ∀ x ∈ c, 0 ≤ x ∧ x < 100) (h : mg3 a b c = some x) : ∀ y ∈ x, 0 ≤ y ∧ y < 100 :=
  mg_mem (P := fun y => 0 ≤ y ∧ y < 100) ha hb hc _ _ _ _ _ _ x h (by omega) (fun y hy => absurd hy (by simp))
