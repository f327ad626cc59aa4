abbrev vwCl : List vw_C := [(RX0, TX0, 1), (RX1, TX1, 11), (RX2, TX2, 7), (RX3, TX3, 4), (RX4, TX4, 4), (RX5, TX5, 2), (RX6, TX6, 1), (RX7, TX7, 13), (RX8, TX8, 1), (RJ0, TJ0, 4), (RJ4, TJ4, 4)]
/-! THE WORLD BY KINDS: what lies at the cell of kind k, index i (C), and where that cell lies (B) -/
abbrev gC : Type := Nat → Nat → Option va_E
abbrev gB : Type := Nat → Nat → Nat
/-- the classes' numbers, the arrays' classes, the first address that is ours -/
abbrev gZ : Type := va_G × (Nat → ClassId) × Nat
abbrev gI (Z : gZ) (n : Nat) (f : Nat → Int32) : va_E := .inl (Z.2.1 0, n, .inl f)
abbrev gR (Z : gZ) (t n : Nat) (f : Nat → Option Nat) : va_E := .inl (Z.2.1 t, n, .inr (.inr (.inr (.inr f))))
/-- a row of bytes, as ints -/
abbrev gY (Z : gZ) (n : Nat) (f : Nat → Int32) : va_E := .inl (Z.2.1 4, n, .inl f)
abbrev gT (Z : gZ) : List (ClassId × FieldType) := [(Z.2.1 0, .int), (Z.2.1 1, .object RX1), (Z.2.1 2, .object RX3), (Z.2.1 3, .object RX5), (Z.2.1 4, .byte)]
def gA (Z : gZ) : Nat → Prop := fun q => Z.2.2 ≤ q
def gw (Z : gZ) (B : gB) (C : gC) (H : Heap) : Prop :=
  ∀ (k i : Nat) (e : va_E), C k i = some e → Z.2.2 ≤ B k i ∧ va_at Z.1 vwCl (B k i, e) H ∧ ∀ (k' i' : Nat) (e' : va_E), C k' i' = some e' → B k' i' = B k i → k' = k ∧ i' = i
theorem gw.P {Z : gZ} {B : gB} {C : gC} {H : Heap} (h : gw Z B C H) {k i : Nat} {e : va_E} (he : C k i = some e) : va_P Z.1 vwCl [(B k i, e)] H := by
  intro j q hj
  cases j with
  | zero =>
    rw [List.getElem?_cons_zero] at hj
    cases hj
    exact (h k i e he).2.1
  | succ j =>
    rw [List.getElem?_cons_succ] at hj
    cases hj
theorem gw.lt {Z : gZ} {B : gB} {C : gC} {H : Heap} (h : gw Z B C H) {k i : Nat} {e : va_E} (he : C k i = some e) : B k i < H.size := (h k i e he).2.1.lt
theorem gw.write {Z : gZ} {B : gB} {C C1 : gC} {H H1 : Heap} {k i : Nat} {e0 e : va_E} (h : gw Z B C H) (he : C k i = some e0) (hs : C1 k i = some e) (hn : ∀ k' i', ¬ (k' = k ∧ i' = i) → C1 k' i' = C k' i')
    (h1 : va_at Z.1 vwCl (B k i, e) H1) (oq : ∀ q : Nat, q ≠ B k i → H1[q]? = H[q]?) : gw Z B C1 H1 := by
  intro k' i' e' h'
  by_cases hc : k' = k ∧ i' = i
  · obtain ⟨rfl, rfl⟩ := hc
    rw [hs] at h'
    cases h'
    refine ⟨(h _ _ _ he).1, h1, fun k2 i2 e2 h2 hb => ?_⟩
    by_cases hc2 : k2 = k' ∧ i2 = i'
    · exact hc2
    · rw [hn _ _ hc2] at h2
      exact (h _ _ _ he).2.2 _ _ _ h2 hb
  · rw [hn _ _ hc] at h'
    obtain ⟨a1, a2, a3⟩ := h _ _ _ h'
    refine ⟨a1, a2.kept (oq _ (fun z => hc ((h _ _ _ he).2.2 _ _ _ h' z))), fun k2 i2 e2 h2 hb => ?_⟩
    by_cases hc2 : k2 = k ∧ i2 = i
    · obtain ⟨rfl, rfl⟩ := hc2
      exact a3 _ _ _ he hb
    · rw [hn _ _ hc2] at h2
      exact a3 _ _ _ h2 hb
theorem gw.kept {Z : gZ} {B : gB} {C : gC} {H H1 : Heap} (h : gw Z B C H) (oq : ∀ q : Nat, q < H.size → H1[q]? = H[q]?) : gw Z B C H1 :=
  fun k i e he => ⟨(h k i e he).1, (h k i e he).2.1.kept (oq _ (h.lt he)), (h k i e he).2.2⟩
theorem gw.new {Z : gZ} {B B1 : gB} {C C1 : gC} {H H1 : Heap} {k i : Nat} {e : va_E} (h : gw Z B C H) (hz : Z.2.2 ≤ H.size) (hno : C k i = none) (hb : B1 k i = H.size) (hbn : ∀ k' i', ¬ (k' = k ∧ i' = i) → B1 k' i' = B k' i')
    (hs : C1 k i = some e) (hn : ∀ k' i', ¬ (k' = k ∧ i' = i) → C1 k' i' = C k' i') (h1 : va_at Z.1 vwCl (H.size, e) H1) (oq : ∀ q : Nat, q < H.size → H1[q]? = H[q]?) : gw Z B1 C1 H1 := by
  intro k' i' e' h'
  by_cases hc : k' = k ∧ i' = i
  · obtain ⟨rfl, rfl⟩ := hc
    rw [hs] at h'
    cases h'
    refine ⟨by rw [hb]; exact hz, by rw [hb]; exact h1, fun k2 i2 e2 h2 hb2 => ?_⟩
    by_cases hc2 : k2 = k' ∧ i2 = i'
    · exact hc2
    · rw [hn _ _ hc2] at h2
      rw [hbn _ _ hc2, hb] at hb2
      exact absurd (h.lt h2) (by omega)
  · rw [hn _ _ hc] at h'
    obtain ⟨a1, a2, a3⟩ := h _ _ _ h'
    refine ⟨by rw [hbn _ _ hc]; exact a1, by rw [hbn _ _ hc]; exact a2.kept (oq _ (h.lt h')), fun k2 i2 e2 h2 hb2 => ?_⟩
    by_cases hc2 : k2 = k ∧ i2 = i
    · obtain ⟨rfl, rfl⟩ := hc2
      rw [hbn _ _ hc, hb] at hb2
      exact absurd (h.lt h') (by omega)
    · rw [hn _ _ hc2] at h2
      rw [hbn _ _ hc, hbn _ _ hc2] at hb2
      exact a3 _ _ _ h2 hb2
/-- one cell is written -/
def gu (C : gC) (k i : Nat) (e : va_E) : gC := fun k' i' => if k' = k ∧ i' = i then some e else C k' i'
theorem gu_s {C : gC} {k i : Nat} {e : va_E} : gu C k i e k i = some e := if_pos ⟨rfl, rfl⟩
theorem gu_n {C : gC} {k i : Nat} {e : va_E} (k' i' : Nat) (h : ¬ (k' = k ∧ i' = i)) : gu C k i e k' i' = C k' i' := if_neg h
theorem gk {k' k i' i : Nat} (h : k' ≠ k) : ¬ (k' = k ∧ i' = i) := fun z => h z.1
theorem gi {k' k i' i : Nat} (h : i' ≠ i) : ¬ (k' = k ∧ i' = i) := fun z => h z.2
def gub (B : gB) (k i a : Nat) : gB := fun k' i' => if k' = k ∧ i' = i then a else B k' i'
theorem gub_s {B : gB} {k i a : Nat} : gub B k i a k i = a := if_pos ⟨rfl, rfl⟩
theorem gub_n {B : gB} {k i a : Nat} (k' i' : Nat) (h : ¬ (k' = k ∧ i' = i)) : gub B k i a k' i' = B k' i' := if_neg h
/-! what the Statement gives that no word says: members of nest mates, strings, two statics, casts -/
abbrev gNF : List (String × Nat × String × String × String) := [(RX7, 112, "ReviewBench$Change", "draft", "LReviewBench$Text;"), (RX7, 124, "ReviewBench$Change", "roundCount", "I"), (RX7, 145, "ReviewBench$Change", "before", "I"), (RX7, 160, "ReviewBench$Change", "priority", "I"), (RX7, 188, "ReviewBench$Remark", "resolved", "Z"), (RX7, 194, "ReviewBench$Remark", "change", "LReviewBench$Change;"), (RX7, 204, "ReviewBench$Change", "author", "I"), (RX7, 209, "ReviewBench$Change", "approvedRounds", "[I"), (RX7, 301, "ReviewBench$Change", "landed", "Z"), (RX7, 314, "ReviewBench$Remark", "round", "I"), (RX7, 325, "ReviewBench$Change", "base", "LReviewBench$Text;"), (RX7, 332, "ReviewBench$Merger", "conflict", "Z"), (RX7, 335, "ReviewBench$Merger", "merged", "LReviewBench$Text;"), (RX7, 342, "ReviewBench$Change", "number", "I"), (RX7, 357, "ReviewBench$Remark", "line", "I")]
abbrev gNM : List (String × Nat × MethodName) := [(RX7, 11, yX5_init), (RX7, 37, yX4_init), (RX7, 44, yX6_init), (RX7, 51, yX0_init), (RX7, 58, yX2_init), (RX0, 33, yX7_place), (RX0, 37, yX7_cell), (RX0, 46, yX7_put), (RX1, 11, yX5_init), (RX1, 59, yX7_cell), (RX1, 63, yX7_withBit), (RX2, 11, yX4_init), (RX2, 23, yX5_init), (RX4, 32, yX7_cell), (RX4, 45, yX7_place), (RX4, 54, yX7_put), (RX5, 19, yX7_put), (RX6, 21, yX7_put), (RX6, 33, yX7_cell)]
abbrev gST : List (Nat × String) := [(78, "the low content is greater than the high one"), (89, "all ranges are given"), (99, "all changes are open"), (119, "the draft is full"), (127, "the change has all its rounds"), (142, "a change can't land after itself"), (158, "no such priority"), (173, "no such line in the present round"), (179, "all comments are made"), (192, "the comment is resolved"), (207, "the author can't approve"), (223, "there is a reason against landing"), (231, "there is no reason against landing"), (236, "no approval is missing"), (238, "no such position"), (264, "the line has no owner"), (285, "no such change"), (288, "no such comment"), (297, "no such user"), (299, "no such content"), (304, "the change has landed"), (306, "the change has no round"), (308, "the change has no such round"), (310, "no such line"), (312, "the user has not approved the change"), (317, "the comment was made in a later round"), (319, "the comment is gone")]
abbrev gEX : List String := ["java/lang/IllegalArgumentException", "java/lang/IllegalStateException", "java/lang/IndexOutOfBoundsException", "java/lang/UnsupportedOperationException", "java/util/NoSuchElementException"]
abbrev gAO : List String := [RX1, RX3, RX5]
abbrev gDE : List MethodName := [Bundle.initS "java/lang/RuntimeException", Bundle.initS "java/lang/Exception", Bundle.initS Bundle.tN]
abbrev gCst (E : String) (U : State) : Prop := va_Nw (.castable E E) U ∧ ∀ x ∈ gDE, va_Nw (.declares x) U
theorem gDcl.warm {x : MethodName} {s U : State} (hW : s.WarmedH U.vm) (hZ : va_Nw (.declares x) s) : va_Nw (.declares x) U := va_tabs rfl (rfl : (s.setVm U.vm).vm = U.vm) (by rw [Cond.declares_setVm hW.alike]; exact hZ)
def gN (Z : gZ) (U : State) : Prop := (∀ q ∈ gNF, va_Nw (.fieldLinkNest q.1 q.2.1 q.2.2.1 q.2.2.2.1 q.2.2.2.2 "ReviewBench") U) ∧ (∀ q ∈ gNM, va_Nw (.methodLinkNest q.1 q.2.1 q.2.2 "ReviewBench") U) ∧ (∀ q ∈ gST, ∃ a, vk_R RX7 q.1 q.2 a U) ∧
  (∀ E ∈ gEX, gCst E U) ∧ (∀ E ∈ gAO, va_AO E U) ∧ vx_Zq Bundle.tN "UNASSIGNED_STACK" Bundle.steD (gA Z) U U.heap ∧ vx_Zq Bundle.tN "SUPPRESSED_SENTINEL" Bundle.listD (gA Z) U U.heap
theorem gN.warm {Z : gZ} {s U : State} (hW : s.WarmedH U.vm) (hq : ∀ q : Nat, q < s.heap.size → ¬ gA Z q → U.heap[q]? = s.heap[q]?) (h : gN Z s) : gN Z U := by
  obtain ⟨h1, h2, h3, h4, h7, h5, h6⟩ := h
  exact ⟨fun q hq' => va_Nw.warmF hW (h1 q hq'), fun q hq' => va_Nw.warmM hW (h2 q hq'), fun q hq' => (h3 q hq').imp fun a h => vk_R.warm hW h, fun E hE => ⟨va_Nw.warmC hW (h4 E hE).1, fun x hx => gDcl.warm hW ((h4 E hE).2 x hx)⟩, fun E hE => va_AO.moved hW.alike (h7 E hE),
    vx_Zq.moved hW.alike (h5.kept hq), vx_Zq.moved hW.alike (h6.kept hq)⟩
/-- a method's start -/
def gPre (Z : gZ) (B : gB) (C : gC) : State → Prop := fun U => gw Z B C U.heap ∧ Z.2.2 ≤ U.heap.size ∧ va_K Z.1 vwCl (gT Z) U ∧ gN Z U
abbrev gPc (Z : gZ) (B : gB) (C : gC) (av : List Value) : Array Value → State → Prop := va_Pc av (gPre Z B C)
theorem gPre.blind {Z : gZ} {B : gB} {C : gC} {av : List Value} : FrameBlind (gPc Z B C av) := by
  intro a U g mk ⟨h0, h1, h2, h3, h4⟩
  exact ⟨h0, h1, h2, va_K.moved (u := U) (U := U.calling g mk a) (Vm.Alike.refl U.vm) h3, gN.warm (s := U) (U := U.calling g mk a) (State.WarmedH.refl U) (fun _ _ _ => rfl) h4⟩
/-- a method's ends -/
abbrev gQi (Z : gZ) (B : gB) (post : Int32 → gC → Prop) : Array Value → State → Outcome → State → Prop := va_Qi (S := gC) post (fun C' t => gw Z B C' t.heap) (gA Z)
abbrev gQv (Z : gZ) (B : gB) (post : gC → Prop) : Array Value → State → Outcome → State → Prop := va_Qv (S := gC) post (fun C' t => gw Z B C' t.heap) (gA Z)
abbrev gQr (Z : gZ) (B : gB) (post : Nat → gC → Prop) : Array Value → State → Outcome → State → Prop := va_Qr (S := gC) (fun _ => True) (fun C' a t => post a C' ∧ gw Z B C' t.heap) (gA Z)
abbrev gQvB (Z : gZ) (post : gB → gC → Prop) : Array Value → State → Outcome → State → Prop := va_Qv (S := gB × gC) (fun u => post u.1 u.2) (fun u t => gw Z u.1 u.2 t.heap) (gA Z)
abbrev gQiB (Z : gZ) (post : Int32 → gB → gC → Prop) : Array Value → State → Outcome → State → Prop := va_Qi (S := gB × gC) (fun r u => post r u.1 u.2) (fun u t => gw Z u.1 u.2 t.heap) (gA Z)
abbrev gXC (Z : gZ) (B : gB) (px : String → gC → Prop) : String → State → State → Prop := vx_X (S := gC) (fun _ => True) (fun E C' t => px E C' ∧ gw Z B C' t.heap) (gA Z)
/-- what stands throughout a method -/
abbrev gX (Z : gZ) (p : Program) (s : State) (m : MethodId) (c : Code) (cc : ByteArray) (nL : Nat) (args : Array Value) (Ts : List Cond) (own : String) : Prop :=
  CallFix p m c cc nL s args Ts own ∧ va_K Z.1 vwCl (gT Z) s ∧ gN Z s ∧ Z.2.2 ≤ s.heap.size
