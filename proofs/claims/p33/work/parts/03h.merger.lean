/-! MERGES -/
theorem enc_rg2 (a b : List Int) (i : Nat) : -1 ≤ enc (kt a b i) ∧ enc (kt a b i) < b.length := by
  cases h : kt a b i with
  | none => simp only [enc]; omega
  | some p => have := (kt_lt a b i p h).2; simp only [enc]; omega
theorem enc_n {o : Option Nat} (h : enc o = -1) : o = none := by
  cases o with
  | none => rfl
  | some p => simp only [enc] at h; omega
theorem enc_s {o : Option Nat} (h : ¬ enc o = -1) : ∃ p, o = some p := by
  cases o with
  | none => exact absurd rfl h
  | some p => exact ⟨p, rfl⟩
def mrow (bs ms rs : List Int) : Option (List Int) := if ms = bs then some rs else if rs = bs ∨ rs = ms then some ms else none
def mg (a b c : List Int) : Nat → Nat → Nat → Nat → Nat → List Int → Option (List Int)
  | 0, _, f, im, ir, acc => (mrow (seg a f a.length) (seg b im b.length) (seg c ir c.length)).map (fun x => acc ++ x)
  | n + 1, k, f, im, ir, acc =>
    match kt a b k, kt a c k with
    | some p, some q => (mrow (seg a f k) (seg b im p) (seg c ir q)).bind (fun x => mg a b c n (k + 1) (k + 1) (p + 1) (q + 1) (acc ++ x ++ [a.getD k (-1)]))
    | _, _ => mg a b c n (k + 1) f im ir acc
/-- the merged text, or none: a conflict -/
def mg3 (a b c : List Int) : Option (List Int) := mg a b c a.length 0 0 0 0 []
def mrr (bs ms rs : List Int) (cf : Int) (mt : List Int) (cf1 : Int) (mt1 : List Int) : Prop := (∃ x, mrow bs ms rs = some x ∧ cf1 = cf ∧ mt1 = tap mt x) ∨ (mrow bs ms rs = none ∧ cf1 = 1 ∧ mt1 = mt)
def msp (a b c : List Int) (k f im ir : Nat) (cf : Int) (mt : List Int) : Prop := ∃ acc, (cf = 0 ∧ mt = acc.take 24 ∧ mg3 a b c = mg a b c (a.length - k) k f im ir acc) ∨ (cf = 1 ∧ mg3 a b c = none)
def mrs (a b c : List Int) (cf : Int) (mt : List Int) : Prop := (∃ x, mg3 a b c = some x ∧ cf = 0 ∧ mt = x.take 24) ∨ (mg3 a b c = none ∧ cf = 1)
theorem tap_take (acc x : List Int) : tap (acc.take 24) x = (acc ++ x).take 24 := by
  unfold tap
  rw [List.take_append, List.take_append, List.take_take, List.length_take]
  congr 1
  by_cases h : acc.length ≤ 24
  · rw [Nat.min_eq_right h]
  · rw [show 24 - min 24 acc.length = 0 by omega, show 24 - acc.length = 0 by omega]
theorem msp_0 (a b c : List Int) : msp a b c 0 0 0 0 0 [] := ⟨[], Or.inl ⟨rfl, rfl, rfl⟩⟩
theorem msp_skip {a b c : List Int} {k f im ir : Nat} {cf : Int} {mt : List Int} (h : msp a b c k f im ir cf mt) (hk : k < a.length) (hn : kt a b k = none ∨ kt a c k = none) : msp a b c (k + 1) f im ir cf mt := by
  obtain ⟨acc, ⟨h1, h2, h3⟩ | h⟩ := h
  · refine ⟨acc, Or.inl ⟨h1, h2, h3.trans ?_⟩⟩
    rw [show a.length - k = (a.length - (k + 1)) + 1 by omega, mg]
    rcases hn with hn | hn
    · rw [hn]
    · rw [hn]
      cases kt a b k <;> rfl
  · exact ⟨acc, Or.inr h⟩
theorem msp_step {a b c : List Int} {k f im ir p q : Nat} {cf cf1 : Int} {mt mt1 : List Int} (h : msp a b c k f im ir cf mt) (hk : k < a.length) (hp : kt a b k = some p) (hq : kt a c k = some q)
    (hr : mrr (seg a f k) (seg b im p) (seg c ir q) cf mt cf1 mt1) : msp a b c (k + 1) (k + 1) (p + 1) (q + 1) cf1 (tap mt1 [ta a k]) := by
  obtain ⟨acc, ⟨h1, h2, h3⟩ | h⟩ := h
  · rw [show a.length - k = (a.length - (k + 1)) + 1 by omega, mg, hp, hq] at h3
    simp only [] at h3
    rcases hr with ⟨x, r1, r2, r3⟩ | ⟨r1, r2, r3⟩
    · refine ⟨acc ++ x ++ [a.getD k (-1)], Or.inl ⟨r2.trans h1, ?_, ?_⟩⟩
      · rw [r3, h2, tap_take, tap_take, ta_nat]
      · rw [h3, r1]; rfl
    · exact ⟨acc, Or.inr ⟨r2, by rw [h3, r1]; rfl⟩⟩
  · refine ⟨acc, Or.inr ⟨?_, h.2⟩⟩
    rcases hr with ⟨x, r1, r2, r3⟩ | ⟨r1, r2, r3⟩
    · exact r2.trans h.1
    · exact r2
theorem msp_end {a b c : List Int} {k f im ir : Nat} {cf cf1 : Int} {mt mt1 : List Int} (h : msp a b c k f im ir cf mt) (hk : k = a.length)
    (hr : mrr (seg a f a.length) (seg b im b.length) (seg c ir c.length) cf mt cf1 mt1) : mrs a b c cf1 mt1 := by
  obtain ⟨acc, ⟨h1, h2, h3⟩ | h⟩ := h
  · rw [show a.length - k = 0 by omega, mg] at h3
    rcases hr with ⟨x, r1, r2, r3⟩ | ⟨r1, r2, r3⟩
    · refine Or.inl ⟨acc ++ x, by rw [h3, r1]; rfl, r2.trans h1, ?_⟩
      rw [r3, h2, tap_take]
    · exact Or.inr ⟨by rw [h3, r1]; rfl, r2⟩
  · refine Or.inr ⟨h.2, ?_⟩
    rcases hr with ⟨x, r1, r2, r3⟩ | ⟨r1, r2, r3⟩
    · exact r2.trans h.1
    · exact r2
theorem so.ob {Z : gZ} {B : gB} {C : gC} {k u : Nat} (h : so Z B C k u) : ∃ n : Int, C k u = some (.inr (4, [.ref (B (k + 1) u), .ref (B (k + 2) u), .ref (B (k + 3) u), .int (zI n)])) := by
  obtain ⟨n, R, K, A, h0, -⟩ := h
  exact ⟨n, h0⟩
theorem sc.ob {Z : gZ} {B : gB} {C : gC} {k u : Nat} {a b : List Int} (h : sc Z B C k u a b) : C k u = some (.inr (4, [.ref (B (k + 1) u), .ref (B (k + 2) u), .ref (B (k + 3) u), .int (zI (ed a b : Int))])) := by
  obtain ⟨R, K, A, h0, -⟩ := h
  exact h0
theorem ao.ob {Z : gZ} {B : gB} {C : gC} {k u : Nat} (h : ao Z B C k u) : C k u = some (.inr (0, [.ref (B (k + 1) u)])) := by
  obtain ⟨R, h0, -⟩ := h
  exact h0
theorem wo.ob {Z : gZ} {B : gB} {C : gC} {k u : Nat} (h : wo Z B C k u) : C k u = some (.inr (6, [.ref (B (k + 1) u)])) := by
  obtain ⟨R, h0, -⟩ := h
  exact h0
theorem so.fr {Z : gZ} {B : gB} {C C' : gC} {k u : Nat} (h : so Z B C k u) (h1 : ∀ q, q < 4 → C' (k + q) u = C (k + q) u) : so Z B C' k u := h.kept (h1 0 (by omega)) (h1 1 (by omega)) (h1 2 (by omega)) (h1 3 (by omega))
/-- the merger -/
def moq (Z : gZ) (B : gB) (C : gC) (cf : Int) (mt : List Int) : Prop := C 18 0 = some (.inr (2, [.ref (B 20 0), .ref (B 24 0), .ref (B 30 0), .ref (B 32 0), .ref (B 34 0), .ref (B 36 0), .int (zI cf)])) ∧ so Z B C 20 0 ∧ so Z B C 24 0 ∧ (∃ t, tx Z B C 30 0 t) ∧ (∃ t, tx Z B C 32 0 t) ∧ (∃ t, tx Z B C 34 0 t) ∧ tx Z B C 36 0 mt
theorem moq.kept {Z : gZ} {B : gB} {C C' : gC} {cf : Int} {mt : List Int} (h : moq Z B C cf mt) (hf : ∀ k', 18 ≤ k' → k' ≤ 37 → C' k' 0 = C k' 0) : moq Z B C' cf mt := by
  obtain ⟨h1, h2, h3, ⟨t1, h4⟩, ⟨t2, h5⟩, ⟨t3, h6⟩, h7⟩ := h
  exact ⟨(hf _ (by omega) (by omega)).trans h1, h2.fr (fun q _ => hf _ (by omega) (by omega)), h3.fr (fun q _ => hf _ (by omega) (by omega)), ⟨t1, h4.kept (hf _ (by omega) (by omega)) (hf _ (by omega) (by omega))⟩, ⟨t2, h5.kept (hf _ (by omega) (by omega)) (hf _ (by omega) (by omega))⟩, ⟨t3, h6.kept (hf _ (by omega) (by omega)) (hf _ (by omega) (by omega))⟩, h7.kept (hf _ (by omega) (by omega)) (hf _ (by omega) (by omega))⟩

theorem ds_X2_mergeRows : yX2_mergeRows.cls ≠ "java/lang/invoke/MethodHandle" ∧ yX2_mergeRows.cls ≠ "java/lang/invoke/VarHandle" ∧ (parseMethodDescriptor yX2_mergeRows.desc).map (fun d => d.parameters.length) = some 0 := by decide +kernel
theorem in_X2_mergeRows_2 : ∀ w ∈ wsX20, w ∈ wsX2_mergeRows := by decide +kernel
def rX2_mergeRows : Room := { frames := 3, cells := 0, slots := 0, locals := 67 }
set_option maxHeartbeats 4000000 in
set_option maxRecDepth 100000 in
theorem k_X2_mergeRows {l : Launch} {Z : gZ} {B : gB} {C0 : gC} {cf : Int} {bs ms rs mt : List Int} (h0 : C0 18 0 = some (.inr (2, [.ref (B 20 0), .ref (B 24 0), .ref (B 30 0), .ref (B 32 0), .ref (B 34 0), .ref (B 36 0), .int (zI cf)]))) (hbb : tx Z B C0 30 0 bs) (hm : tx Z B C0 32 0 ms) (hr : tx Z B C0 34 0 rs) (ht : tx Z B C0 36 0 mt) : Met l yX2_mergeRows wsX2_mergeRows rX2_mergeRows (gPc Z B C0 [.ref (B 18 0)]) (gQv Z B (fun C1 => (∃ (cf1 : Int) (mt1 : List Int), C1 18 0 = some (.inr (2, [.ref (B 20 0), .ref (B 24 0), .ref (B 30 0), .ref (B 32 0), .ref (B 34 0), .ref (B 36 0), .int (zI cf1)])) ∧ tx Z B C1 36 0 mt1 ∧ mrr bs ms rs cf mt cf1 mt1) ∧ ∀ k' i', ¬ ((k' = 18 ∨ k' = 36 ∨ k' = 37) ∧ i' = 0) → C1 k' i' = C0 k' i')) 0 0 (gA Z) := by
  refine g_ofV (cc := cX2_mergeRows) (maxL := 1) (by decide) rfl (Nat.le_of_ble_eq_true rfl) ?_
  intro p e s m args below meth c Q X kret hW hS ls hl
  have hx := X.1.1
  have hb := X.1.2.1
  have hts := X.1.2.2.2.2
  have hl : lv_has ls 1 [(0, .ref (B 18 0))] := hl
  refine lv_aload_n hx hb dX2_mergeRows_0 rfl (lv_at hl 0 rfl) ?_
  refine g_get (ci := 2) X in_X2_mergeRows_2 rfl hW h0 3 (by decide) (hts _ (List.mem_of_getElem? (i := 1) rfl)) rfl dX2_mergeRows_1 ?_
  refine lv_aload_n hx hb dX2_mergeRows_4 rfl (lv_at hl 0 rfl) ?_
  refine g_get (ci := 2) X in_X2_mergeRows_2 rfl hW h0 2 (by decide) (hts _ (List.mem_of_getElem? (i := 2) rfl)) rfl dX2_mergeRows_5 ?_
  refine g_ci (g_runV X (k_X5_isSameAs (t := ms) (t2 := bs) hm hbb) (cwV 1 hts gX2_mergeRows_X5_isSameAs rfl rfl rfl ⟨rfl, ds_X5_isSameAs⟩ ⟨Nat.le_of_ble_eq_true rfl, Nat.le_of_ble_eq_true rfl⟩) hW hS hm.2.2.1 rfl rfl hl.1 rfl (Nat.le_of_ble_eq_true rfl) dX2_mergeRows_8 ⟨Nat.le_of_ble_eq_true rfl, Nat.le_of_ble_eq_true rfl⟩) hS (fun r3 C1 H locs hp2 hW hS => ?_)
  obtain ⟨rfl, ehp2⟩ := hp2
  rw [ehp2] at hW
  refine z_ifb_eq (tgt := 36) hx hb dX2_mergeRows_11 (by decide) (fun h_11 => ?_) (fun h_11 => ?_)
  · refine lv_aload_n hx hb dX2_mergeRows_36 rfl (lv_at hl 0 rfl) ?_
    refine g_get (ci := 2) X in_X2_mergeRows_2 rfl hW h0 4 (by decide) (hts _ (List.mem_of_getElem? (i := 4) rfl)) rfl dX2_mergeRows_37 ?_
    refine lv_aload_n hx hb dX2_mergeRows_40 rfl (lv_at hl 0 rfl) ?_
    refine g_get (ci := 2) X in_X2_mergeRows_2 rfl hW h0 2 (by decide) (hts _ (List.mem_of_getElem? (i := 2) rfl)) rfl dX2_mergeRows_41 ?_
    refine g_ci (g_runV X (k_X5_isSameAs (t := rs) (t2 := bs) hr hbb) (cwV 1 hts gX2_mergeRows_X5_isSameAs rfl rfl rfl ⟨rfl, ds_X5_isSameAs⟩ ⟨Nat.le_of_ble_eq_true rfl, Nat.le_of_ble_eq_true rfl⟩) hW hS hr.2.2.1 rfl rfl hl.1 rfl (Nat.le_of_ble_eq_true rfl) dX2_mergeRows_44 ⟨Nat.le_of_ble_eq_true rfl, Nat.le_of_ble_eq_true rfl⟩) hS (fun r6 C4 H locs hp5 hW hS => ?_)
    obtain ⟨rfl, ehp5⟩ := hp5
    rw [ehp5] at hW
    refine z_ifb_ne (tgt := 64) hx hb dX2_mergeRows_47 (by decide) (fun h_47 => ?_) (fun h_47 => ?_)
    · refine lv_aload_n hx hb dX2_mergeRows_64 rfl (lv_at hl 0 rfl) ?_
      refine g_get (ci := 2) X in_X2_mergeRows_2 rfl hW h0 5 (by decide) (hts _ (List.mem_of_getElem? (i := 3) rfl)) rfl dX2_mergeRows_65 ?_
      refine lv_aload_n hx hb dX2_mergeRows_68 rfl (lv_at hl 0 rfl) ?_
      refine g_get (ci := 2) X in_X2_mergeRows_2 rfl hW h0 3 (by decide) (hts _ (List.mem_of_getElem? (i := 1) rfl)) rfl dX2_mergeRows_69 ?_
      refine lv_iconst (v := zI (0)) hx hb dX2_mergeRows_72 rfl ?_
      refine lv_aload_n hx hb dX2_mergeRows_73 rfl (lv_at hl 0 rfl) ?_
      refine g_get (ci := 2) X in_X2_mergeRows_2 rfl hW h0 3 (by decide) (hts _ (List.mem_of_getElem? (i := 1) rfl)) rfl dX2_mergeRows_74 ?_
      refine g_ci (g_runV X (k_X5_size (t := ms) hm ) (cwV 0 hts gX2_mergeRows_X5_size rfl rfl rfl ⟨rfl, ds_X5_size⟩ ⟨Nat.le_of_ble_eq_true rfl, Nat.le_of_ble_eq_true rfl⟩) hW hS hm.2.2.1 rfl rfl hl.1 rfl (Nat.le_of_ble_eq_true rfl) dX2_mergeRows_77 ⟨Nat.le_of_ble_eq_true rfl, Nat.le_of_ble_eq_true rfl⟩) hS (fun r9 C7 H locs hp8 hW hS => ?_)
      obtain ⟨rfl, ehp8⟩ := hp8
      rw [ehp8] at hW
      refine g_cv (g_runV X (k_X5_appendRow (t := mt) (t2 := ms) ht hm (by omega) (a := 0) (b := ms.length) (by omega) (by omega)) (cwV 3 hts gX2_mergeRows_X5_appendRow rfl rfl rfl ⟨rfl, ds_X5_appendRow⟩ ⟨Nat.le_of_ble_eq_true rfl, Nat.le_of_ble_eq_true rfl⟩) hW hS ht.2.2.1 rfl rfl hl.1 rfl (Nat.le_of_ble_eq_true rfl) dX2_mergeRows_80 ⟨Nat.le_of_ble_eq_true rfl, Nat.le_of_ble_eq_true rfl⟩) hS (fun C10 H locs hp11 hW hS => ?_)
      obtain ⟨ht12, hf13⟩ := hp11
      refine lv_goto (tgt := 91) hx hb dX2_mergeRows_83 (by decide) ?_
      exact kret _ _ _ _ _ _ _ (⟨⟨_, _, ((hf13 18 0 (by omega)).trans (h0)), ht12, Or.inl ⟨ms, (if_neg h_11).trans (if_pos (Or.inl h_47)), rfl, by rw [seg_all]⟩⟩, fun k' i' h => (hf13 k' i' (by omega))⟩) hW hS (Nat.le_of_ble_eq_true rfl) (Nat.le_of_ble_eq_true rfl) dX2_mergeRows_91
    · refine lv_aload_n hx hb dX2_mergeRows_50 rfl (lv_at hl 0 rfl) ?_
      refine g_get (ci := 2) X in_X2_mergeRows_2 rfl hW h0 4 (by decide) (hts _ (List.mem_of_getElem? (i := 4) rfl)) rfl dX2_mergeRows_51 ?_
      refine lv_aload_n hx hb dX2_mergeRows_54 rfl (lv_at hl 0 rfl) ?_
      refine g_get (ci := 2) X in_X2_mergeRows_2 rfl hW h0 3 (by decide) (hts _ (List.mem_of_getElem? (i := 1) rfl)) rfl dX2_mergeRows_55 ?_
      refine g_ci (g_runV X (k_X5_isSameAs (t := rs) (t2 := ms) hr hm) (cwV 1 hts gX2_mergeRows_X5_isSameAs rfl rfl rfl ⟨rfl, ds_X5_isSameAs⟩ ⟨Nat.le_of_ble_eq_true rfl, Nat.le_of_ble_eq_true rfl⟩) hW hS hr.2.2.1 rfl rfl hl.1 rfl (Nat.le_of_ble_eq_true rfl) dX2_mergeRows_58 ⟨Nat.le_of_ble_eq_true rfl, Nat.le_of_ble_eq_true rfl⟩) hS (fun r16 C14 H locs hp15 hW hS => ?_)
      obtain ⟨rfl, ehp15⟩ := hp15
      rw [ehp15] at hW
      refine z_ifb_eq (tgt := 86) hx hb dX2_mergeRows_61 (by decide) (fun h_61 => ?_) (fun h_61 => ?_)
      · refine lv_aload_n hx hb dX2_mergeRows_86 rfl (lv_at hl 0 rfl) ?_
        refine lv_iconst (v := zI (1)) hx hb dX2_mergeRows_87 rfl ?_
        refine g_put (ci := 2) (ty := .boolean) X in_X2_mergeRows_2 tyX2 tyX2_ok nmX2 rfl hW hS h0 6 (by decide) (hts _ (List.mem_of_getElem? (i := 5) rfl)) rfl (by decide +kernel) (rfl) (rfl) (Nat.le_of_ble_eq_true rfl) dX2_mergeRows_88 (fun C17 H locs hs18 hn19 hW hS => ?_)
        have ht20 : tx Z B C17 36 0 mt := (tx.kept ht (hn19 36 0 (gk (by decide))) (hn19 37 0 (gk (by decide))))
        exact kret _ _ _ _ _ _ _ (⟨⟨_, _, hs18, ht20, Or.inr ⟨(if_neg h_11).trans (if_neg (fun h => h.elim h_47 h_61)), rfl, rfl⟩⟩, fun k' i' h => (hn19 k' i' (by omega))⟩) hW hS (Nat.le_of_ble_eq_true rfl) (Nat.le_of_ble_eq_true rfl) dX2_mergeRows_91
      · refine lv_aload_n hx hb dX2_mergeRows_64 rfl (lv_at hl 0 rfl) ?_
        refine g_get (ci := 2) X in_X2_mergeRows_2 rfl hW h0 5 (by decide) (hts _ (List.mem_of_getElem? (i := 3) rfl)) rfl dX2_mergeRows_65 ?_
        refine lv_aload_n hx hb dX2_mergeRows_68 rfl (lv_at hl 0 rfl) ?_
        refine g_get (ci := 2) X in_X2_mergeRows_2 rfl hW h0 3 (by decide) (hts _ (List.mem_of_getElem? (i := 1) rfl)) rfl dX2_mergeRows_69 ?_
        refine lv_iconst (v := zI (0)) hx hb dX2_mergeRows_72 rfl ?_
        refine lv_aload_n hx hb dX2_mergeRows_73 rfl (lv_at hl 0 rfl) ?_
        refine g_get (ci := 2) X in_X2_mergeRows_2 rfl hW h0 3 (by decide) (hts _ (List.mem_of_getElem? (i := 1) rfl)) rfl dX2_mergeRows_74 ?_
        refine g_ci (g_runV X (k_X5_size (t := ms) hm ) (cwV 0 hts gX2_mergeRows_X5_size rfl rfl rfl ⟨rfl, ds_X5_size⟩ ⟨Nat.le_of_ble_eq_true rfl, Nat.le_of_ble_eq_true rfl⟩) hW hS hm.2.2.1 rfl rfl hl.1 rfl (Nat.le_of_ble_eq_true rfl) dX2_mergeRows_77 ⟨Nat.le_of_ble_eq_true rfl, Nat.le_of_ble_eq_true rfl⟩) hS (fun r23 C21 H locs hp22 hW hS => ?_)
        obtain ⟨rfl, ehp22⟩ := hp22
        rw [ehp22] at hW
        refine g_cv (g_runV X (k_X5_appendRow (t := mt) (t2 := ms) ht hm (by omega) (a := 0) (b := ms.length) (by omega) (by omega)) (cwV 3 hts gX2_mergeRows_X5_appendRow rfl rfl rfl ⟨rfl, ds_X5_appendRow⟩ ⟨Nat.le_of_ble_eq_true rfl, Nat.le_of_ble_eq_true rfl⟩) hW hS ht.2.2.1 rfl rfl hl.1 rfl (Nat.le_of_ble_eq_true rfl) dX2_mergeRows_80 ⟨Nat.le_of_ble_eq_true rfl, Nat.le_of_ble_eq_true rfl⟩) hS (fun C24 H locs hp25 hW hS => ?_)
        obtain ⟨ht26, hf27⟩ := hp25
        refine lv_goto (tgt := 91) hx hb dX2_mergeRows_83 (by decide) ?_
        exact kret _ _ _ _ _ _ _ (⟨⟨_, _, ((hf27 18 0 (by omega)).trans (h0)), ht26, Or.inl ⟨ms, (if_neg h_11).trans (if_pos (Or.inr h_61)), rfl, by rw [seg_all]⟩⟩, fun k' i' h => (hf27 k' i' (by omega))⟩) hW hS (Nat.le_of_ble_eq_true rfl) (Nat.le_of_ble_eq_true rfl) dX2_mergeRows_91
  · refine lv_aload_n hx hb dX2_mergeRows_14 rfl (lv_at hl 0 rfl) ?_
    refine g_get (ci := 2) X in_X2_mergeRows_2 rfl hW h0 5 (by decide) (hts _ (List.mem_of_getElem? (i := 3) rfl)) rfl dX2_mergeRows_15 ?_
    refine lv_aload_n hx hb dX2_mergeRows_18 rfl (lv_at hl 0 rfl) ?_
    refine g_get (ci := 2) X in_X2_mergeRows_2 rfl hW h0 4 (by decide) (hts _ (List.mem_of_getElem? (i := 4) rfl)) rfl dX2_mergeRows_19 ?_
    refine lv_iconst (v := zI (0)) hx hb dX2_mergeRows_22 rfl ?_
    refine lv_aload_n hx hb dX2_mergeRows_23 rfl (lv_at hl 0 rfl) ?_
    refine g_get (ci := 2) X in_X2_mergeRows_2 rfl hW h0 4 (by decide) (hts _ (List.mem_of_getElem? (i := 4) rfl)) rfl dX2_mergeRows_24 ?_
    refine g_ci (g_runV X (k_X5_size (t := rs) hr ) (cwV 0 hts gX2_mergeRows_X5_size rfl rfl rfl ⟨rfl, ds_X5_size⟩ ⟨Nat.le_of_ble_eq_true rfl, Nat.le_of_ble_eq_true rfl⟩) hW hS hr.2.2.1 rfl rfl hl.1 rfl (Nat.le_of_ble_eq_true rfl) dX2_mergeRows_27 ⟨Nat.le_of_ble_eq_true rfl, Nat.le_of_ble_eq_true rfl⟩) hS (fun r30 C28 H locs hp29 hW hS => ?_)
    obtain ⟨rfl, ehp29⟩ := hp29
    rw [ehp29] at hW
    refine g_cv (g_runV X (k_X5_appendRow (t := mt) (t2 := rs) ht hr (by omega) (a := 0) (b := rs.length) (by omega) (by omega)) (cwV 3 hts gX2_mergeRows_X5_appendRow rfl rfl rfl ⟨rfl, ds_X5_appendRow⟩ ⟨Nat.le_of_ble_eq_true rfl, Nat.le_of_ble_eq_true rfl⟩) hW hS ht.2.2.1 rfl rfl hl.1 rfl (Nat.le_of_ble_eq_true rfl) dX2_mergeRows_30 ⟨Nat.le_of_ble_eq_true rfl, Nat.le_of_ble_eq_true rfl⟩) hS (fun C31 H locs hp32 hW hS => ?_)
    obtain ⟨ht33, hf34⟩ := hp32
    refine lv_goto (tgt := 91) hx hb dX2_mergeRows_33 (by decide) ?_
    exact kret _ _ _ _ _ _ _ (⟨⟨_, _, ((hf34 18 0 (by omega)).trans (h0)), ht33, Or.inl ⟨rs, if_pos h_11, rfl, by rw [seg_all]⟩⟩, fun k' i' h => (hf34 k' i' (by omega))⟩) hW hS (Nat.le_of_ble_eq_true rfl) (Nat.le_of_ble_eq_true rfl) dX2_mergeRows_91

theorem ds_X2_merge : yX2_merge.cls ≠ "java/lang/invoke/MethodHandle" ∧ yX2_merge.cls ≠ "java/lang/invoke/VarHandle" ∧ (parseMethodDescriptor yX2_merge.desc).map (fun d => d.parameters.length) = some 3 := by decide +kernel
theorem in_X2_merge_2 : ∀ w ∈ wsX20, w ∈ wsX2_merge := by decide +kernel
def rX2_merge : Room := { frames := 4, cells := 0, slots := 0, locals := 90 }
set_option maxHeartbeats 4000000 in
set_option maxRecDepth 100000 in
theorem k_X2_merge {l : Launch} {Z : gZ} {B : gB} {C0 : gC} {ka sa kb sb kc sc1 : Nat} {cf0 : Int} {a b w mt0 : List Int} (hmo : moq Z B C0 cf0 mt0) (hta : tx Z B C0 ka sa a) (htb : tx Z B C0 kb sb b) (htc : tx Z B C0 kc sc1 w) (hla : a.length ≤ 12) (hlb : b.length ≤ 12) (hlc : w.length ≤ 12) (hda : ka + 1 < 18 ∨ 37 < ka) (hdb : kb + 1 < 18 ∨ 37 < kb) (hdc : kc + 1 < 18 ∨ 37 < kc) : Met l yX2_merge wsX2_merge rX2_merge (gPc Z B C0 [.ref (B 18 0), .ref (B ka sa), .ref (B kb sb), .ref (B kc sc1)]) (gQv Z B (fun C1 => (∃ (cf : Int) (mt : List Int), moq Z B C1 cf mt ∧ mrs a b w cf mt) ∧ ∀ k' i', ¬ (18 ≤ k' ∧ k' ≤ 37 ∧ i' = 0) → C1 k' i' = C0 k' i')) 0 0 (gA Z) := by
  refine g_ofV (cc := cX2_merge) (maxL := 10) (by decide) rfl (Nat.le_of_ble_eq_true rfl) ?_
  intro p e s m args below meth c Q X kret hW hS ls hl
  have hx := X.1.1
  have hb := X.1.2.1
  have hts := X.1.2.2.2.2
  have hl : lv_has ls 10 [(0, .ref (B 18 0)), (1, .ref (B ka sa)), (2, .ref (B kb sb)), (3, .ref (B kc sc1))] := hl
  obtain ⟨h0, hs1, hs2, ⟨t1, h30⟩, ⟨t2, h32⟩, ⟨t3, h34⟩, h36⟩ := hmo
  refine lv_aload_n hx hb dX2_merge_0 rfl (lv_at hl 0 rfl) ?_
  refine g_get (ci := 2) X in_X2_merge_2 rfl hW h0 0 (by decide) (hts _ (List.mem_of_getElem? (i := 1) rfl)) rfl dX2_merge_1 ?_
  refine lv_aload_n hx hb dX2_merge_4 rfl (lv_at hl 1 rfl) ?_
  refine lv_aload_n hx hb dX2_merge_5 rfl (lv_at hl 2 rfl) ?_
  obtain ⟨n1, f2⟩ := hs1.ob
  refine g_cv (g_runV X (k_X4_find (hs1) hta htb (by omega) (by omega) (by omega) (by omega)) (cwV 2 hts gX2_merge_X4_find rfl rfl rfl ⟨rfl, ds_X4_find⟩ ⟨Nat.le_of_ble_eq_true rfl, Nat.le_of_ble_eq_true rfl⟩) hW hS f2 rfl rfl hl.1 rfl (Nat.le_of_ble_eq_true rfl) dX2_merge_6 ⟨Nat.le_of_ble_eq_true rfl, Nat.le_of_ble_eq_true rfl⟩) hS (fun C3 H locs hp4 hW hS => ?_)
  obtain ⟨hsc5, hf6⟩ := hp4
  refine lv_aload_n hx hb dX2_merge_9 rfl (lv_at hl 0 rfl) ?_
  have f7 : C3 18 0 = some (.inr (2, [.ref (B 20 0), .ref (B 24 0), .ref (B 30 0), .ref (B 32 0), .ref (B 34 0), .ref (B 36 0), .int (zI cf0)])) := ((hf6 18 0 (by omega)).trans h0)
  refine g_get (ci := 2) X in_X2_merge_2 rfl hW f7 1 (by decide) (hts _ (List.mem_of_getElem? (i := 2) rfl)) rfl dX2_merge_10 ?_
  refine lv_aload_n hx hb dX2_merge_13 rfl (lv_at hl 1 rfl) ?_
  refine lv_aload_n hx hb dX2_merge_14 rfl (lv_at hl 3 rfl) ?_
  have ht8 : tx Z B C3 ka sa a := (tx.kept hta (hf6 ka sa (by omega)) (hf6 (ka + 1) sa (by omega)))
  have ht9 : tx Z B C3 kc sc1 w := (tx.kept htc (hf6 kc sc1 (by omega)) (hf6 (kc + 1) sc1 (by omega)))
  have hp10 : so Z B C3 24 0 := (so.kept hs2 (hf6 24 0 (by omega)) (hf6 25 0 (by omega)) (hf6 26 0 (by omega)) (hf6 27 0 (by omega)))
  obtain ⟨n11, f12⟩ := hp10.ob
  refine g_cv (g_runV X (k_X4_find (hp10) ht8 ht9 (by omega) (by omega) (by omega) (by omega)) (cwV 2 hts gX2_merge_X4_find rfl rfl rfl ⟨rfl, ds_X4_find⟩ ⟨Nat.le_of_ble_eq_true rfl, Nat.le_of_ble_eq_true rfl⟩) hW hS f12 rfl rfl hl.1 rfl (Nat.le_of_ble_eq_true rfl) dX2_merge_15 ⟨Nat.le_of_ble_eq_true rfl, Nat.le_of_ble_eq_true rfl⟩) hS (fun C13 H locs hp14 hW hS => ?_)
  obtain ⟨hsc15, hf16⟩ := hp14
  refine lv_aload_n hx hb dX2_merge_18 rfl (lv_at hl 0 rfl) ?_
  have f17 : C13 18 0 = some (.inr (2, [.ref (B 20 0), .ref (B 24 0), .ref (B 30 0), .ref (B 32 0), .ref (B 34 0), .ref (B 36 0), .int (zI cf0)])) := ((hf16 18 0 (by omega)).trans f7)
  refine g_get (ci := 2) X in_X2_merge_2 rfl hW f17 5 (by decide) (hts _ (List.mem_of_getElem? (i := 3) rfl)) rfl dX2_merge_19 ?_
  have ht18 : tx Z B C13 36 0 mt0 := (tx.kept (tx.kept h36 (hf6 36 0 (by omega)) (hf6 37 0 (by omega))) (hf16 36 0 (by omega)) (hf16 37 0 (by omega)))
  refine g_cv (g_runV X (k_X5_clear (t := mt0) ht18 ) (cwV 0 hts gX2_merge_X5_clear rfl rfl rfl ⟨rfl, ds_X5_clear⟩ ⟨Nat.le_of_ble_eq_true rfl, Nat.le_of_ble_eq_true rfl⟩) hW hS ht18.2.2.1 rfl rfl hl.1 rfl (Nat.le_of_ble_eq_true rfl) dX2_merge_22 ⟨Nat.le_of_ble_eq_true rfl, Nat.le_of_ble_eq_true rfl⟩) hS (fun C19 H locs hp20 hW hS => ?_)
  obtain ⟨ht21, hf22⟩ := hp20
  refine lv_aload_n hx hb dX2_merge_25 rfl (lv_at hl 0 rfl) ?_
  refine lv_iconst (v := zI (0)) hx hb dX2_merge_26 rfl ?_
  have f23 : C19 18 0 = some (.inr (2, [.ref (B 20 0), .ref (B 24 0), .ref (B 30 0), .ref (B 32 0), .ref (B 34 0), .ref (B 36 0), .int (zI cf0)])) := ((hf22 18 0 (by omega)).trans f17)
  refine g_put (ci := 2) (ty := .boolean) X in_X2_merge_2 tyX2 tyX2_ok nmX2 rfl hW hS f23 6 (by decide) (hts _ (List.mem_of_getElem? (i := 4) rfl)) rfl (by decide +kernel) (rfl) (rfl) (Nat.le_of_ble_eq_true rfl) dX2_merge_27 (fun C24 H locs hs25 hn26 hW hS => ?_)
  refine lv_iconst (v := zI (0)) hx hb dX2_merge_30 rfl ?_
  refine lv_istore (lv' := [(4, .int (zI 0)), (0, .ref (B 18 0)), (1, .ref (B ka sa)), (2, .ref (B kb sb)), (3, .ref (B kc sc1))]) hx hb dX2_merge_31 hl (by decide) rfl (fun ls hl => ?_)
  refine lv_iconst (v := zI (0)) hx hb dX2_merge_33 rfl ?_
  refine lv_istore (lv' := [(5, .int (zI 0)), (4, .int (zI 0)), (0, .ref (B 18 0)), (1, .ref (B ka sa)), (2, .ref (B kb sb)), (3, .ref (B kc sc1))]) hx hb dX2_merge_34 hl (by decide) rfl (fun ls hl => ?_)
  refine lv_iconst (v := zI (0)) hx hb dX2_merge_36 rfl ?_
  refine lv_istore (lv' := [(6, .int (zI 0)), (5, .int (zI 0)), (4, .int (zI 0)), (0, .ref (B 18 0)), (1, .ref (B ka sa)), (2, .ref (B kb sb)), (3, .ref (B kc sc1))]) hx hb dX2_merge_37 hl (by decide) rfl (fun ls hl => ?_)
  refine lv_iconst (v := zI (0)) hx hb dX2_merge_39 rfl ?_
  refine lv_istore (lv' := [(7, .int (zI 0)), (6, .int (zI 0)), (5, .int (zI 0)), (4, .int (zI 0)), (0, .ref (B 18 0)), (1, .ref (B ka sa)), (2, .ref (B kb sb)), (3, .ref (B kc sc1))]) hx hb dX2_merge_40 hl (by decide) rfl (fun ls hl => ?_)
  have lp42 : ∀ (n : Nat) (kk fr im ir : Nat) (cf : Int) (t1 t2 t3 mt : List Int) (Cl : gC) (H : Heap) (locs : List Loc), (a.length - kk < n) → (kk ≤ a.length ∧ fr ≤ kk ∧ im ≤ b.length ∧ ir ≤ w.length) → (∀ k1 p1, kk ≤ k1 → kt a b k1 = some p1 → im ≤ p1) → (∀ k1 p1, kk ≤ k1 → kt a w k1 = some p1 → ir ≤ p1) → (msp a b w kk fr im ir cf mt) → (Cl 18 0 = some (.inr (2, [.ref (B 20 0), .ref (B 24 0), .ref (B 30 0), .ref (B 32 0), .ref (B 34 0), .ref (B 36 0), .int (zI cf)]))) → (sc Z B Cl 20 0 a b) → (sc Z B Cl 24 0 a w) → (tx Z B Cl 30 0 t1) → (tx Z B Cl 32 0 t2) → (tx Z B Cl 34 0 t3) → (tx Z B Cl 36 0 mt) → (∀ k' i', ¬ (18 ≤ k' ∧ k' ≤ 37 ∧ i' = 0) → Cl k' i' = C0 k' i') → gw Z B Cl H → va_S (gA Z) s.heap H locs → ∀ ls : Array Slot, lv_has ls 10 [(0, .ref (B 18 0)), (1, .ref (B ka sa)), (2, .ref (B kb sb)), (3, .ref (B kc sc1)), (4, .int (zI (fr : Int))), (5, .int (zI (im : Int))), (6, .int (zI (ir : Int))), (7, .int (zI (kk : Int)))] → W p l e rX2_merge s m args below meth c H locs 0 0 Q (F0 m 42 ls []) := by
    intro n
    induction n with
    | zero =>
      intro kk fr im ir cf t1 t2 t3 mt Cl H locs hm hk hI1 hI2 hsp h0l hs1 hs2 ht30 ht32 ht34 ht36 hfl hW hS ls hl
      exact absurd hm (by omega)
    | succ n ih42 =>
      intro kk fr im ir cf t1 t2 t3 mt Cl H locs hm hk hI1 hI2 hsp h0l hs1 hs2 ht30 ht32 ht34 ht36 hfl hW hS ls hl
      have htal := tx.kept hta (hfl ka sa (by omega)) (hfl (ka + 1) sa (by omega))
      have htbl := tx.kept htb (hfl kb sb (by omega)) (hfl (kb + 1) sb (by omega))
      have htcl := tx.kept htc (hfl kc sc1 (by omega)) (hfl (kc + 1) sc1 (by omega))
      refine lv_iload hx hb dX2_merge_42 (lv_at hl 7 rfl) ?_
      refine lv_aload_n hx hb dX2_merge_44 rfl (lv_at hl 1 rfl) ?_
      refine g_ci (g_runV X (k_X5_size (t := a) htal ) (cwV 0 hts gX2_merge_X5_size rfl rfl rfl ⟨rfl, ds_X5_size⟩ ⟨Nat.le_of_ble_eq_true rfl, Nat.le_of_ble_eq_true rfl⟩) hW hS htal.2.2.1 rfl rfl hl.1 rfl (Nat.le_of_ble_eq_true rfl) dX2_merge_45 ⟨Nat.le_of_ble_eq_true rfl, Nat.le_of_ble_eq_true rfl⟩) hS (fun r29 C27 H locs hp28 hW hS => ?_)
      obtain ⟨rfl, ehp28⟩ := hp28
      rw [ehp28] at hW
      refine z_icmp_ge (tgt := 162) hx hb dX2_merge_48 (by decide) (⟨by omega, by omega⟩) (⟨by omega, by omega⟩) (fun h_48 => ?_) (fun h_48 => ?_)
      · refine lv_aload_n hx hb dX2_merge_162 rfl (lv_at hl 0 rfl) ?_
        refine g_get (ci := 2) X in_X2_merge_2 rfl hW h0l 2 (by decide) (hts _ (List.mem_of_getElem? (i := 5) rfl)) rfl dX2_merge_163 ?_
        refine lv_aload_n hx hb dX2_merge_166 rfl (lv_at hl 1 rfl) ?_
        refine lv_iload hx hb dX2_merge_167 (lv_at hl 4 rfl) ?_
        refine lv_aload_n hx hb dX2_merge_169 rfl (lv_at hl 1 rfl) ?_
        refine g_ci (g_runV X (k_X5_size (t := a) htal ) (cwV 0 hts gX2_merge_X5_size rfl rfl rfl ⟨rfl, ds_X5_size⟩ ⟨Nat.le_of_ble_eq_true rfl, Nat.le_of_ble_eq_true rfl⟩) hW hS htal.2.2.1 rfl rfl hl.1 rfl (Nat.le_of_ble_eq_true rfl) dX2_merge_170 ⟨Nat.le_of_ble_eq_true rfl, Nat.le_of_ble_eq_true rfl⟩) hS (fun r32 C30 H locs hp31 hW hS => ?_)
        obtain ⟨rfl, ehp31⟩ := hp31
        rw [ehp31] at hW
        refine g_cv (g_runV X (k_X5_copyRow (t := t1) (t2 := a) ht30 htal (by omega) (a := fr) (b := a.length) (by omega) (by omega)) (cwV 3 hts gX2_merge_X5_copyRow rfl rfl rfl ⟨rfl, ds_X5_copyRow⟩ ⟨Nat.le_of_ble_eq_true rfl, Nat.le_of_ble_eq_true rfl⟩) hW hS ht30.2.2.1 rfl rfl hl.1 rfl (Nat.le_of_ble_eq_true rfl) dX2_merge_173 ⟨Nat.le_of_ble_eq_true rfl, Nat.le_of_ble_eq_true rfl⟩) hS (fun C33 H locs hp34 hW hS => ?_)
        obtain ⟨ht35, hf36⟩ := hp34
        refine lv_aload_n hx hb dX2_merge_176 rfl (lv_at hl 0 rfl) ?_
        have f37 : C33 18 0 = some (.inr (2, [.ref (B 20 0), .ref (B 24 0), .ref (B 30 0), .ref (B 32 0), .ref (B 34 0), .ref (B 36 0), .int (zI cf)])) := ((hf36 18 0 (by omega)).trans h0l)
        refine g_get (ci := 2) X in_X2_merge_2 rfl hW f37 3 (by decide) (hts _ (List.mem_of_getElem? (i := 6) rfl)) rfl dX2_merge_177 ?_
        refine lv_aload_n hx hb dX2_merge_180 rfl (lv_at hl 2 rfl) ?_
        refine lv_iload hx hb dX2_merge_181 (lv_at hl 5 rfl) ?_
        refine lv_aload_n hx hb dX2_merge_183 rfl (lv_at hl 2 rfl) ?_
        have ht38 : tx Z B C33 kb sb b := (tx.kept htbl (hf36 kb sb (by omega)) (hf36 (kb + 1) sb (by omega)))
        refine g_ci (g_runV X (k_X5_size (t := b) ht38 ) (cwV 0 hts gX2_merge_X5_size rfl rfl rfl ⟨rfl, ds_X5_size⟩ ⟨Nat.le_of_ble_eq_true rfl, Nat.le_of_ble_eq_true rfl⟩) hW hS ht38.2.2.1 rfl rfl hl.1 rfl (Nat.le_of_ble_eq_true rfl) dX2_merge_184 ⟨Nat.le_of_ble_eq_true rfl, Nat.le_of_ble_eq_true rfl⟩) hS (fun r41 C39 H locs hp40 hW hS => ?_)
        obtain ⟨rfl, ehp40⟩ := hp40
        rw [ehp40] at hW
        have ht42 : tx Z B C33 32 0 t2 := (tx.kept ht32 (hf36 32 0 (by omega)) (hf36 33 0 (by omega)))
        refine g_cv (g_runV X (k_X5_copyRow (t := t2) (t2 := b) ht42 ht38 (by omega) (a := im) (b := b.length) (by omega) (by omega)) (cwV 3 hts gX2_merge_X5_copyRow rfl rfl rfl ⟨rfl, ds_X5_copyRow⟩ ⟨Nat.le_of_ble_eq_true rfl, Nat.le_of_ble_eq_true rfl⟩) hW hS ht42.2.2.1 rfl rfl hl.1 rfl (Nat.le_of_ble_eq_true rfl) dX2_merge_187 ⟨Nat.le_of_ble_eq_true rfl, Nat.le_of_ble_eq_true rfl⟩) hS (fun C43 H locs hp44 hW hS => ?_)
        obtain ⟨ht45, hf46⟩ := hp44
        refine lv_aload_n hx hb dX2_merge_190 rfl (lv_at hl 0 rfl) ?_
        have f47 : C43 18 0 = some (.inr (2, [.ref (B 20 0), .ref (B 24 0), .ref (B 30 0), .ref (B 32 0), .ref (B 34 0), .ref (B 36 0), .int (zI cf)])) := ((hf46 18 0 (by omega)).trans f37)
        refine g_get (ci := 2) X in_X2_merge_2 rfl hW f47 4 (by decide) (hts _ (List.mem_of_getElem? (i := 7) rfl)) rfl dX2_merge_191 ?_
        refine lv_aload_n hx hb dX2_merge_194 rfl (lv_at hl 3 rfl) ?_
        refine lv_iload hx hb dX2_merge_195 (lv_at hl 6 rfl) ?_
        refine lv_aload_n hx hb dX2_merge_197 rfl (lv_at hl 3 rfl) ?_
        have ht48 : tx Z B C43 kc sc1 w := (tx.kept (tx.kept htcl (hf36 kc sc1 (by omega)) (hf36 (kc + 1) sc1 (by omega))) (hf46 kc sc1 (by omega)) (hf46 (kc + 1) sc1 (by omega)))
        refine g_ci (g_runV X (k_X5_size (t := w) ht48 ) (cwV 0 hts gX2_merge_X5_size rfl rfl rfl ⟨rfl, ds_X5_size⟩ ⟨Nat.le_of_ble_eq_true rfl, Nat.le_of_ble_eq_true rfl⟩) hW hS ht48.2.2.1 rfl rfl hl.1 rfl (Nat.le_of_ble_eq_true rfl) dX2_merge_198 ⟨Nat.le_of_ble_eq_true rfl, Nat.le_of_ble_eq_true rfl⟩) hS (fun r51 C49 H locs hp50 hW hS => ?_)
        obtain ⟨rfl, ehp50⟩ := hp50
        rw [ehp50] at hW
        have ht52 : tx Z B C43 34 0 t3 := (tx.kept (tx.kept ht34 (hf36 34 0 (by omega)) (hf36 35 0 (by omega))) (hf46 34 0 (by omega)) (hf46 35 0 (by omega)))
        refine g_cv (g_runV X (k_X5_copyRow (t := t3) (t2 := w) ht52 ht48 (by omega) (a := ir) (b := w.length) (by omega) (by omega)) (cwV 3 hts gX2_merge_X5_copyRow rfl rfl rfl ⟨rfl, ds_X5_copyRow⟩ ⟨Nat.le_of_ble_eq_true rfl, Nat.le_of_ble_eq_true rfl⟩) hW hS ht52.2.2.1 rfl rfl hl.1 rfl (Nat.le_of_ble_eq_true rfl) dX2_merge_201 ⟨Nat.le_of_ble_eq_true rfl, Nat.le_of_ble_eq_true rfl⟩) hS (fun C53 H locs hp54 hW hS => ?_)
        obtain ⟨ht55, hf56⟩ := hp54
        refine lv_aload_n hx hb dX2_merge_204 rfl (lv_at hl 0 rfl) ?_
        have f57 : C53 18 0 = some (.inr (2, [.ref (B 20 0), .ref (B 24 0), .ref (B 30 0), .ref (B 32 0), .ref (B 34 0), .ref (B 36 0), .int (zI cf)])) := ((hf56 18 0 (by omega)).trans f47)
        have ht58 : tx Z B C53 30 0 (seg a fr a.length) := (tx.kept (tx.kept ht35 (hf46 30 0 (by omega)) (hf46 31 0 (by omega))) (hf56 30 0 (by omega)) (hf56 31 0 (by omega)))
        have ht59 : tx Z B C53 32 0 (seg b im b.length) := (tx.kept ht45 (hf56 32 0 (by omega)) (hf56 33 0 (by omega)))
        have ht60 : tx Z B C53 36 0 mt := (tx.kept (tx.kept (tx.kept ht36 (hf36 36 0 (by omega)) (hf36 37 0 (by omega))) (hf46 36 0 (by omega)) (hf46 37 0 (by omega))) (hf56 36 0 (by omega)) (hf56 37 0 (by omega)))
        refine g_cv (g_runV X (k_X2_mergeRows f57 ht58 ht59 ht55 ht60) (cwV 0 hts gX2_merge_X2_mergeRows rfl rfl rfl ⟨rfl, ds_X2_mergeRows⟩ ⟨Nat.le_of_ble_eq_true rfl, Nat.le_of_ble_eq_true rfl⟩) hW hS f57 rfl rfl hl.1 rfl (Nat.le_of_ble_eq_true rfl) dX2_merge_205 ⟨Nat.le_of_ble_eq_true rfl, Nat.le_of_ble_eq_true rfl⟩) hS (fun C61 H locs hp62 hW hS => ?_)
        obtain ⟨⟨cf63, mt64, ha65, ht66, hmr67⟩, hf68⟩ := hp62
        have ht69 : tx Z B C61 30 0 (seg a fr a.length) := (tx.kept ht58 (hf68 30 0 (by omega)) (hf68 31 0 (by omega)))
        have ht70 : tx Z B C61 32 0 (seg b im b.length) := (tx.kept ht59 (hf68 32 0 (by omega)) (hf68 33 0 (by omega)))
        have ht71 : tx Z B C61 34 0 (seg w ir w.length) := (tx.kept ht55 (hf68 34 0 (by omega)) (hf68 35 0 (by omega)))
        have hp72 : sc Z B C61 20 0 a b := (sc.kept (sc.kept (sc.kept (sc.kept hs1 (hf36 20 0 (by omega)) (hf36 21 0 (by omega)) (hf36 22 0 (by omega)) (hf36 23 0 (by omega))) (hf46 20 0 (by omega)) (hf46 21 0 (by omega)) (hf46 22 0 (by omega)) (hf46 23 0 (by omega))) (hf56 20 0 (by omega)) (hf56 21 0 (by omega)) (hf56 22 0 (by omega)) (hf56 23 0 (by omega))) (hf68 20 0 (by omega)) (hf68 21 0 (by omega)) (hf68 22 0 (by omega)) (hf68 23 0 (by omega)))
        have hp73 : sc Z B C61 24 0 a w := (sc.kept (sc.kept (sc.kept (sc.kept hs2 (hf36 24 0 (by omega)) (hf36 25 0 (by omega)) (hf36 26 0 (by omega)) (hf36 27 0 (by omega))) (hf46 24 0 (by omega)) (hf46 25 0 (by omega)) (hf46 26 0 (by omega)) (hf46 27 0 (by omega))) (hf56 24 0 (by omega)) (hf56 25 0 (by omega)) (hf56 26 0 (by omega)) (hf56 27 0 (by omega))) (hf68 24 0 (by omega)) (hf68 25 0 (by omega)) (hf68 26 0 (by omega)) (hf68 27 0 (by omega)))
        exact kret _ _ _ _ _ _ _ (⟨⟨_, _, ⟨ha65, hp72.so, hp73.so, ⟨_, ht69⟩, ⟨_, ht70⟩, ⟨_, ht71⟩, ht66⟩, msp_end hsp (by omega) hmr67⟩, fun k' i' h => (hf68 k' i' (by omega)).trans ((hf56 k' i' (by omega)).trans ((hf46 k' i' (by omega)).trans ((hf36 k' i' (by omega)).trans (hfl k' i' h))))⟩) hW hS (Nat.le_of_ble_eq_true rfl) (Nat.le_of_ble_eq_true rfl) dX2_merge_208
      · refine lv_aload_n hx hb dX2_merge_51 rfl (lv_at hl 0 rfl) ?_
        refine g_get (ci := 2) X in_X2_merge_2 rfl hW h0l 0 (by decide) (hts _ (List.mem_of_getElem? (i := 1) rfl)) rfl dX2_merge_52 ?_
        refine lv_iload hx hb dX2_merge_55 (lv_at hl 7 rfl) ?_
        refine g_ci (g_runV X (k_X4_keptAs (a := a) (b := b) hs1 (x := (kk : Int)) (⟨by omega, by omega⟩) (by omega)) (cwV 1 hts gX2_merge_X4_keptAs rfl rfl rfl ⟨rfl, ds_X4_keptAs⟩ ⟨Nat.le_of_ble_eq_true rfl, Nat.le_of_ble_eq_true rfl⟩) hW hS hs1.ob rfl rfl hl.1 rfl (Nat.le_of_ble_eq_true rfl) dX2_merge_57 ⟨Nat.le_of_ble_eq_true rfl, Nat.le_of_ble_eq_true rfl⟩) hS (fun r76 C74 H locs hp75 hW hS => ?_)
        obtain ⟨rfl, ehp75⟩ := hp75
        rw [ehp75] at hW
        have hr8 := enc_rg2 a b (kk : Int).toNat
        refine lv_istore (lv' := [(8, .int (zI (enc (kt a b (kk : Int).toNat)))), (0, .ref (B 18 0)), (1, .ref (B ka sa)), (2, .ref (B kb sb)), (3, .ref (B kc sc1)), (4, .int (zI (fr : Int))), (5, .int (zI (im : Int))), (6, .int (zI (ir : Int))), (7, .int (zI (kk : Int)))]) hx hb dX2_merge_60 hl (by decide) rfl (fun ls hl => ?_)
        refine lv_aload_n hx hb dX2_merge_62 rfl (lv_at hl 1 rfl) ?_
        refine g_get (ci := 2) X in_X2_merge_2 rfl hW h0l 1 (by decide) (hts _ (List.mem_of_getElem? (i := 2) rfl)) rfl dX2_merge_63 ?_
        refine lv_iload hx hb dX2_merge_66 (lv_at hl 8 rfl) ?_
        refine g_ci (g_runV X (k_X4_keptAs (a := a) (b := w) hs2 (x := (kk : Int)) (⟨by omega, by omega⟩) (by omega)) (cwV 1 hts gX2_merge_X4_keptAs rfl rfl rfl ⟨rfl, ds_X4_keptAs⟩ ⟨Nat.le_of_ble_eq_true rfl, Nat.le_of_ble_eq_true rfl⟩) hW hS hs2.ob rfl rfl hl.1 rfl (Nat.le_of_ble_eq_true rfl) dX2_merge_68 ⟨Nat.le_of_ble_eq_true rfl, Nat.le_of_ble_eq_true rfl⟩) hS (fun r79 C77 H locs hp78 hW hS => ?_)
        obtain ⟨rfl, ehp78⟩ := hp78
        rw [ehp78] at hW
        have hr9 := enc_rg2 a w (kk : Int).toNat
        refine lv_istore (lv' := [(9, .int (zI (enc (kt a w (kk : Int).toNat)))), (8, .int (zI (enc (kt a b (kk : Int).toNat)))), (0, .ref (B 18 0)), (1, .ref (B ka sa)), (2, .ref (B kb sb)), (3, .ref (B kc sc1)), (4, .int (zI (fr : Int))), (5, .int (zI (im : Int))), (6, .int (zI (ir : Int))), (7, .int (zI (kk : Int)))]) hx hb dX2_merge_71 hl (by decide) rfl (fun ls hl => ?_)
        refine lv_iload hx hb dX2_merge_73 (lv_at hl 1 rfl) ?_
        refine lv_iconst (v := zI (-1)) hx hb dX2_merge_75 rfl ?_
        refine z_icmp_eq (tgt := 156) hx hb dX2_merge_76 (by decide) (⟨by omega, by omega⟩) (⟨by omega, by omega⟩) (fun h_76 => ?_) (fun h_76 => ?_)
        · refine z_iinc (lv' := [(7, .int (zI ((kk : Int) + 1))), (9, .int (zI (enc (kt a w (kk : Int).toNat)))), (8, .int (zI (enc (kt a b (kk : Int).toNat)))), (0, .ref (B 18 0)), (1, .ref (B ka sa)), (2, .ref (B kb sb)), (3, .ref (B kc sc1)), (4, .int (zI (fr : Int))), (5, .int (zI (im : Int))), (6, .int (zI (ir : Int)))]) hx hb dX2_merge_156 hl (q := 9) rfl (by decide) rfl (fun ls hl => ?_)
          refine lv_goto (tgt := 42) hx hb dX2_merge_159 (by decide) ?_
          exact ih42 (kk + 1) fr im ir cf _ _ _ mt _ _ _ (by omega) ⟨by omega, by omega, by omega, by omega⟩ (fun k1 p1 q1 q2 => hI1 k1 p1 (by omega) q2) (fun k1 p1 q1 q2 => hI2 k1 p1 (by omega) q2) (msp_skip hsp (by omega) (Or.inl (enc_n h_76))) h0l hs1 hs2 ht30 ht32 ht34 ht36 (fun k' i' h => hfl k' i' h) hW hS _ (lv_sub hl [3, 4, 5, 6, 7, 8, 9, 0] rfl)
        · refine lv_iload hx hb dX2_merge_79 (lv_at hl 0 rfl) ?_
          refine lv_iconst (v := zI (-1)) hx hb dX2_merge_81 rfl ?_
          refine z_icmp_eq (tgt := 156) hx hb dX2_merge_82 (by decide) (⟨by omega, by omega⟩) (⟨by omega, by omega⟩) (fun h_82 => ?_) (fun h_82 => ?_)
          · refine z_iinc (lv' := [(7, .int (zI ((kk : Int) + 1))), (9, .int (zI (enc (kt a w (kk : Int).toNat)))), (8, .int (zI (enc (kt a b (kk : Int).toNat)))), (0, .ref (B 18 0)), (1, .ref (B ka sa)), (2, .ref (B kb sb)), (3, .ref (B kc sc1)), (4, .int (zI (fr : Int))), (5, .int (zI (im : Int))), (6, .int (zI (ir : Int)))]) hx hb dX2_merge_156 hl (q := 9) rfl (by decide) rfl (fun ls hl => ?_)
            refine lv_goto (tgt := 42) hx hb dX2_merge_159 (by decide) ?_
            exact ih42 (kk + 1) fr im ir cf _ _ _ mt _ _ _ (by omega) ⟨by omega, by omega, by omega, by omega⟩ (fun k1 p1 q1 q2 => hI1 k1 p1 (by omega) q2) (fun k1 p1 q1 q2 => hI2 k1 p1 (by omega) q2) (msp_skip hsp (by omega) (Or.inr (enc_n h_82))) h0l hs1 hs2 ht30 ht32 ht34 ht36 (fun k' i' h => hfl k' i' h) hW hS _ (lv_sub hl [3, 4, 5, 6, 7, 8, 9, 0] rfl)
          · obtain ⟨p, hp⟩ := enc_s h_76
            obtain ⟨q, hq⟩ := enc_s h_82
            have hpl := kt_lt a b _ _ hp
            have hql := kt_lt a w _ _ hq
            rw [hp, hq] at hl
            rw [show ((kk : Int)).toNat = kk by omega] at hp hq
            have hpi := hI1 kk p (Nat.le_refl _) hp
            have hqi := hI2 kk q (Nat.le_refl _) hq
            
            have hl : lv_has ls 10 [(9, .int (zI (q : Int))), (8, .int (zI (p : Int))), (0, .ref (B 18 0)), (1, .ref (B ka sa)), (2, .ref (B kb sb)), (3, .ref (B kc sc1)), (4, .int (zI (fr : Int))), (5, .int (zI (im : Int))), (6, .int (zI (ir : Int))), (7, .int (zI (kk : Int)))] := hl
            refine lv_aload_n hx hb dX2_merge_85 rfl (lv_at hl 2 rfl) ?_
            refine g_get (ci := 2) X in_X2_merge_2 rfl hW h0l 2 (by decide) (hts _ (List.mem_of_getElem? (i := 5) rfl)) rfl dX2_merge_86 ?_
            refine lv_aload_n hx hb dX2_merge_89 rfl (lv_at hl 3 rfl) ?_
            refine lv_iload hx hb dX2_merge_90 (lv_at hl 6 rfl) ?_
            refine lv_iload hx hb dX2_merge_92 (lv_at hl 9 rfl) ?_
            refine g_cv (g_runV X (k_X5_copyRow (t := t1) (t2 := a) ht30 htal (by omega) (a := fr) (b := kk) (by omega) (by omega)) (cwV 3 hts gX2_merge_X5_copyRow rfl rfl rfl ⟨rfl, ds_X5_copyRow⟩ ⟨Nat.le_of_ble_eq_true rfl, Nat.le_of_ble_eq_true rfl⟩) hW hS ht30.2.2.1 rfl rfl hl.1 rfl (Nat.le_of_ble_eq_true rfl) dX2_merge_94 ⟨Nat.le_of_ble_eq_true rfl, Nat.le_of_ble_eq_true rfl⟩) hS (fun C80 H locs hp81 hW hS => ?_)
            obtain ⟨ht82, hf83⟩ := hp81
            refine lv_aload_n hx hb dX2_merge_97 rfl (lv_at hl 2 rfl) ?_
            have f84 : C80 18 0 = some (.inr (2, [.ref (B 20 0), .ref (B 24 0), .ref (B 30 0), .ref (B 32 0), .ref (B 34 0), .ref (B 36 0), .int (zI cf)])) := ((hf83 18 0 (by omega)).trans h0l)
            refine g_get (ci := 2) X in_X2_merge_2 rfl hW f84 3 (by decide) (hts _ (List.mem_of_getElem? (i := 6) rfl)) rfl dX2_merge_98 ?_
            refine lv_aload_n hx hb dX2_merge_101 rfl (lv_at hl 4 rfl) ?_
            refine lv_iload hx hb dX2_merge_102 (lv_at hl 7 rfl) ?_
            refine lv_iload hx hb dX2_merge_104 (lv_at hl 1 rfl) ?_
            have ht85 : tx Z B C80 32 0 t2 := (tx.kept ht32 (hf83 32 0 (by omega)) (hf83 33 0 (by omega)))
            have ht86 : tx Z B C80 kb sb b := (tx.kept htbl (hf83 kb sb (by omega)) (hf83 (kb + 1) sb (by omega)))
            refine g_cv (g_runV X (k_X5_copyRow (t := t2) (t2 := b) ht85 ht86 (by omega) (a := im) (b := p) (by omega) (by omega)) (cwV 3 hts gX2_merge_X5_copyRow rfl rfl rfl ⟨rfl, ds_X5_copyRow⟩ ⟨Nat.le_of_ble_eq_true rfl, Nat.le_of_ble_eq_true rfl⟩) hW hS ht85.2.2.1 rfl rfl hl.1 rfl (Nat.le_of_ble_eq_true rfl) dX2_merge_106 ⟨Nat.le_of_ble_eq_true rfl, Nat.le_of_ble_eq_true rfl⟩) hS (fun C87 H locs hp88 hW hS => ?_)
            obtain ⟨ht89, hf90⟩ := hp88
            refine lv_aload_n hx hb dX2_merge_109 rfl (lv_at hl 2 rfl) ?_
            have f91 : C87 18 0 = some (.inr (2, [.ref (B 20 0), .ref (B 24 0), .ref (B 30 0), .ref (B 32 0), .ref (B 34 0), .ref (B 36 0), .int (zI cf)])) := ((hf90 18 0 (by omega)).trans f84)
            refine g_get (ci := 2) X in_X2_merge_2 rfl hW f91 4 (by decide) (hts _ (List.mem_of_getElem? (i := 7) rfl)) rfl dX2_merge_110 ?_
            refine lv_aload_n hx hb dX2_merge_113 rfl (lv_at hl 5 rfl) ?_
            refine lv_iload hx hb dX2_merge_114 (lv_at hl 8 rfl) ?_
            refine lv_iload hx hb dX2_merge_116 (lv_at hl 0 rfl) ?_
            have ht92 : tx Z B C87 34 0 t3 := (tx.kept (tx.kept ht34 (hf83 34 0 (by omega)) (hf83 35 0 (by omega))) (hf90 34 0 (by omega)) (hf90 35 0 (by omega)))
            have ht93 : tx Z B C87 kc sc1 w := (tx.kept (tx.kept htcl (hf83 kc sc1 (by omega)) (hf83 (kc + 1) sc1 (by omega))) (hf90 kc sc1 (by omega)) (hf90 (kc + 1) sc1 (by omega)))
            refine g_cv (g_runV X (k_X5_copyRow (t := t3) (t2 := w) ht92 ht93 (by omega) (a := ir) (b := q) (by omega) (by omega)) (cwV 3 hts gX2_merge_X5_copyRow rfl rfl rfl ⟨rfl, ds_X5_copyRow⟩ ⟨Nat.le_of_ble_eq_true rfl, Nat.le_of_ble_eq_true rfl⟩) hW hS ht92.2.2.1 rfl rfl hl.1 rfl (Nat.le_of_ble_eq_true rfl) dX2_merge_118 ⟨Nat.le_of_ble_eq_true rfl, Nat.le_of_ble_eq_true rfl⟩) hS (fun C94 H locs hp95 hW hS => ?_)
            obtain ⟨ht96, hf97⟩ := hp95
            refine lv_aload_n hx hb dX2_merge_121 rfl (lv_at hl 2 rfl) ?_
            have f98 : C94 18 0 = some (.inr (2, [.ref (B 20 0), .ref (B 24 0), .ref (B 30 0), .ref (B 32 0), .ref (B 34 0), .ref (B 36 0), .int (zI cf)])) := ((hf97 18 0 (by omega)).trans f91)
            have ht99 : tx Z B C94 30 0 (seg a fr kk) := (tx.kept (tx.kept ht82 (hf90 30 0 (by omega)) (hf90 31 0 (by omega))) (hf97 30 0 (by omega)) (hf97 31 0 (by omega)))
            have ht100 : tx Z B C94 32 0 (seg b im p) := (tx.kept ht89 (hf97 32 0 (by omega)) (hf97 33 0 (by omega)))
            have ht101 : tx Z B C94 36 0 mt := (tx.kept (tx.kept (tx.kept ht36 (hf83 36 0 (by omega)) (hf83 37 0 (by omega))) (hf90 36 0 (by omega)) (hf90 37 0 (by omega))) (hf97 36 0 (by omega)) (hf97 37 0 (by omega)))
            refine g_cv (g_runV X (k_X2_mergeRows f98 ht99 ht100 ht96 ht101) (cwV 0 hts gX2_merge_X2_mergeRows rfl rfl rfl ⟨rfl, ds_X2_mergeRows⟩ ⟨Nat.le_of_ble_eq_true rfl, Nat.le_of_ble_eq_true rfl⟩) hW hS f98 rfl rfl hl.1 rfl (Nat.le_of_ble_eq_true rfl) dX2_merge_122 ⟨Nat.le_of_ble_eq_true rfl, Nat.le_of_ble_eq_true rfl⟩) hS (fun C102 H locs hp103 hW hS => ?_)
            obtain ⟨⟨cf104, mt105, ha106, ht107, hmr108⟩, hf109⟩ := hp103
            refine lv_aload_n hx hb dX2_merge_125 rfl (lv_at hl 2 rfl) ?_
            refine g_get (ci := 2) X in_X2_merge_2 rfl hW ha106 5 (by decide) (hts _ (List.mem_of_getElem? (i := 3) rfl)) rfl dX2_merge_126 ?_
            refine lv_aload_n hx hb dX2_merge_129 rfl (lv_at hl 3 rfl) ?_
            refine lv_iload hx hb dX2_merge_130 (lv_at hl 9 rfl) ?_
            have ht110 : tx Z B C102 ka sa a := (tx.kept (tx.kept (tx.kept (tx.kept htal (hf83 ka sa (by omega)) (hf83 (ka + 1) sa (by omega))) (hf90 ka sa (by omega)) (hf90 (ka + 1) sa (by omega))) (hf97 ka sa (by omega)) (hf97 (ka + 1) sa (by omega))) (hf109 ka sa (by omega)) (hf109 (ka + 1) sa (by omega)))
            refine g_ci (g_runV X (k_X5_at (t := a) ht110 (a := (kk : Int)) (⟨by omega, by omega⟩)) (cwV 1 hts gX2_merge_X5_at rfl rfl rfl ⟨rfl, ds_X5_at⟩ ⟨Nat.le_of_ble_eq_true rfl, Nat.le_of_ble_eq_true rfl⟩) hW hS ht110.2.2.1 rfl rfl hl.1 rfl (Nat.le_of_ble_eq_true rfl) dX2_merge_132 ⟨Nat.le_of_ble_eq_true rfl, Nat.le_of_ble_eq_true rfl⟩) hS (fun r113 C111 H locs hp112 hW hS => ?_)
            obtain ⟨rfl, ehp112⟩ := hp112
            rw [ehp112] at hW
            refine g_cv (g_runV X (k_X5_append (t := mt105) ht107 (a := (ta a (kk : Int))) (ta_in htal.2.1 (by omega) (by omega))) (cwV 1 hts gX2_merge_X5_append rfl rfl rfl ⟨rfl, ds_X5_append⟩ ⟨Nat.le_of_ble_eq_true rfl, Nat.le_of_ble_eq_true rfl⟩) hW hS ht107.2.2.1 rfl rfl hl.1 rfl (Nat.le_of_ble_eq_true rfl) dX2_merge_135 ⟨Nat.le_of_ble_eq_true rfl, Nat.le_of_ble_eq_true rfl⟩) hS (fun C114 H locs hp115 hW hS => ?_)
            obtain ⟨ht116, hf117⟩ := hp115
            refine lv_iload hx hb dX2_merge_138 (lv_at hl 9 rfl) ?_
            refine lv_iconst (v := zI (1)) hx hb dX2_merge_140 rfl ?_
            refine z_iadd hx hb dX2_merge_141 ?_
            refine lv_istore (lv' := [(4, .int (zI ((kk : Int) + 1))), (9, .int (zI (q : Int))), (8, .int (zI (p : Int))), (0, .ref (B 18 0)), (1, .ref (B ka sa)), (2, .ref (B kb sb)), (3, .ref (B kc sc1)), (5, .int (zI (im : Int))), (6, .int (zI (ir : Int))), (7, .int (zI (kk : Int)))]) hx hb dX2_merge_142 hl (by decide) rfl (fun ls hl => ?_)
            refine lv_iload hx hb dX2_merge_144 (lv_at hl 2 rfl) ?_
            refine lv_iconst (v := zI (1)) hx hb dX2_merge_146 rfl ?_
            refine z_iadd hx hb dX2_merge_147 ?_
            refine lv_istore (lv' := [(5, .int (zI ((p : Int) + 1))), (4, .int (zI ((kk : Int) + 1))), (9, .int (zI (q : Int))), (8, .int (zI (p : Int))), (0, .ref (B 18 0)), (1, .ref (B ka sa)), (2, .ref (B kb sb)), (3, .ref (B kc sc1)), (6, .int (zI (ir : Int))), (7, .int (zI (kk : Int)))]) hx hb dX2_merge_148 hl (by decide) rfl (fun ls hl => ?_)
            refine lv_iload hx hb dX2_merge_150 (lv_at hl 2 rfl) ?_
            refine lv_iconst (v := zI (1)) hx hb dX2_merge_152 rfl ?_
            refine z_iadd hx hb dX2_merge_153 ?_
            refine lv_istore (lv' := [(6, .int (zI ((q : Int) + 1))), (5, .int (zI ((p : Int) + 1))), (4, .int (zI ((kk : Int) + 1))), (9, .int (zI (q : Int))), (8, .int (zI (p : Int))), (0, .ref (B 18 0)), (1, .ref (B ka sa)), (2, .ref (B kb sb)), (3, .ref (B kc sc1)), (7, .int (zI (kk : Int)))]) hx hb dX2_merge_154 hl (by decide) rfl (fun ls hl => ?_)
            refine z_iinc (lv' := [(7, .int (zI ((kk : Int) + 1))), (6, .int (zI ((q : Int) + 1))), (5, .int (zI ((p : Int) + 1))), (4, .int (zI ((kk : Int) + 1))), (9, .int (zI (q : Int))), (8, .int (zI (p : Int))), (0, .ref (B 18 0)), (1, .ref (B ka sa)), (2, .ref (B kb sb)), (3, .ref (B kc sc1))]) hx hb dX2_merge_156 hl (q := 9) rfl (by decide) rfl (fun ls hl => ?_)
            refine lv_goto (tgt := 42) hx hb dX2_merge_159 (by decide) ?_
            have f118 : C114 18 0 = some (.inr (2, [.ref (B 20 0), .ref (B 24 0), .ref (B 30 0), .ref (B 32 0), .ref (B 34 0), .ref (B 36 0), .int (zI cf104)])) := ((hf117 18 0 (by omega)).trans ha106)
            have hp119 : sc Z B C114 20 0 a b := (sc.kept (sc.kept (sc.kept (sc.kept (sc.kept hs1 (hf83 20 0 (by omega)) (hf83 21 0 (by omega)) (hf83 22 0 (by omega)) (hf83 23 0 (by omega))) (hf90 20 0 (by omega)) (hf90 21 0 (by omega)) (hf90 22 0 (by omega)) (hf90 23 0 (by omega))) (hf97 20 0 (by omega)) (hf97 21 0 (by omega)) (hf97 22 0 (by omega)) (hf97 23 0 (by omega))) (hf109 20 0 (by omega)) (hf109 21 0 (by omega)) (hf109 22 0 (by omega)) (hf109 23 0 (by omega))) (hf117 20 0 (by omega)) (hf117 21 0 (by omega)) (hf117 22 0 (by omega)) (hf117 23 0 (by omega)))
            have hp120 : sc Z B C114 24 0 a w := (sc.kept (sc.kept (sc.kept (sc.kept (sc.kept hs2 (hf83 24 0 (by omega)) (hf83 25 0 (by omega)) (hf83 26 0 (by omega)) (hf83 27 0 (by omega))) (hf90 24 0 (by omega)) (hf90 25 0 (by omega)) (hf90 26 0 (by omega)) (hf90 27 0 (by omega))) (hf97 24 0 (by omega)) (hf97 25 0 (by omega)) (hf97 26 0 (by omega)) (hf97 27 0 (by omega))) (hf109 24 0 (by omega)) (hf109 25 0 (by omega)) (hf109 26 0 (by omega)) (hf109 27 0 (by omega))) (hf117 24 0 (by omega)) (hf117 25 0 (by omega)) (hf117 26 0 (by omega)) (hf117 27 0 (by omega)))
            have ht121 : tx Z B C114 30 0 (seg a fr kk) := (tx.kept (tx.kept ht99 (hf109 30 0 (by omega)) (hf109 31 0 (by omega))) (hf117 30 0 (by omega)) (hf117 31 0 (by omega)))
            have ht122 : tx Z B C114 32 0 (seg b im p) := (tx.kept (tx.kept ht100 (hf109 32 0 (by omega)) (hf109 33 0 (by omega))) (hf117 32 0 (by omega)) (hf117 33 0 (by omega)))
            have ht123 : tx Z B C114 34 0 (seg w ir q) := (tx.kept (tx.kept ht96 (hf109 34 0 (by omega)) (hf109 35 0 (by omega))) (hf117 34 0 (by omega)) (hf117 35 0 (by omega)))
            exact ih42 (kk + 1) (kk + 1) (p + 1) (q + 1) _ _ _ _ _ _ _ _ (by omega) ⟨by omega, by omega, by omega, by omega⟩ (fun k1 p1 q1 q2 => kt_mono a b kk k1 p p1 hp q2 (by omega)) (fun k1 p1 q1 q2 => kt_mono a w kk k1 q p1 hq q2 (by omega)) (msp_step hsp (by omega) hp hq hmr108) f118 hp119 hp120 ht121 ht122 ht123 ht116 (fun k' i' h => (hf117 k' i' (by omega)).trans ((hf109 k' i' (by omega)).trans ((hf97 k' i' (by omega)).trans ((hf90 k' i' (by omega)).trans ((hf83 k' i' (by omega)).trans (hfl k' i' h)))))) hW hS _ (lv_sub hl [6, 7, 8, 9, 3, 2, 1, 0] rfl)
  have hp124 : sc Z B C24 20 0 a b := (sc.kept (sc.kept (sc.kept hsc5 (hf16 20 0 (by omega)) (hf16 21 0 (by omega)) (hf16 22 0 (by omega)) (hf16 23 0 (by omega))) (hf22 20 0 (by omega)) (hf22 21 0 (by omega)) (hf22 22 0 (by omega)) (hf22 23 0 (by omega))) (hn26 20 0 (gk (by decide))) (hn26 21 0 (gk (by decide))) (hn26 22 0 (gk (by decide))) (hn26 23 0 (gk (by decide))))
  have hp125 : sc Z B C24 24 0 a w := (sc.kept (sc.kept hsc15 (hf22 24 0 (by omega)) (hf22 25 0 (by omega)) (hf22 26 0 (by omega)) (hf22 27 0 (by omega))) (hn26 24 0 (gk (by decide))) (hn26 25 0 (gk (by decide))) (hn26 26 0 (gk (by decide))) (hn26 27 0 (gk (by decide))))
  have ht126 : tx Z B C24 30 0 t1 := (tx.kept (tx.kept (tx.kept (tx.kept h30 (hf6 30 0 (by omega)) (hf6 31 0 (by omega))) (hf16 30 0 (by omega)) (hf16 31 0 (by omega))) (hf22 30 0 (by omega)) (hf22 31 0 (by omega))) (hn26 30 0 (gk (by decide))) (hn26 31 0 (gk (by decide))))
  have ht127 : tx Z B C24 32 0 t2 := (tx.kept (tx.kept (tx.kept (tx.kept h32 (hf6 32 0 (by omega)) (hf6 33 0 (by omega))) (hf16 32 0 (by omega)) (hf16 33 0 (by omega))) (hf22 32 0 (by omega)) (hf22 33 0 (by omega))) (hn26 32 0 (gk (by decide))) (hn26 33 0 (gk (by decide))))
  have ht128 : tx Z B C24 34 0 t3 := (tx.kept (tx.kept (tx.kept (tx.kept h34 (hf6 34 0 (by omega)) (hf6 35 0 (by omega))) (hf16 34 0 (by omega)) (hf16 35 0 (by omega))) (hf22 34 0 (by omega)) (hf22 35 0 (by omega))) (hn26 34 0 (gk (by decide))) (hn26 35 0 (gk (by decide))))
  have ht129 : tx Z B C24 36 0 ([]) := (tx.kept ht21 (hn26 36 0 (gk (by decide))) (hn26 37 0 (gk (by decide))))
  exact lp42 (a.length + 1) 0 0 0 0 0 _ _ _ [] _ _ _ (by omega) (by omega) (fun k1 p1 q1 q2 => by omega) (fun k1 p1 q1 q2 => by omega) (msp_0 a b w) hs25 hp124 hp125 ht126 ht127 ht128 ht129 (fun k' i' h => (hn26 k' i' (by omega)).trans ((hf22 k' i' (by omega)).trans ((hf16 k' i' (by omega)).trans ((hf6 k' i' (by omega)))))) hW hS _ (lv_sub hl [4, 5, 6, 7, 3, 2, 1, 0] rfl)
