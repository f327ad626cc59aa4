/-! THE LAW: the bench and the reference side by side; the law's own methods with their handlers -/
theorem cs.out {Z : gZ} {B : gB} {C C' : gC} {S : gS} {T : gTx} (h : cs Z B C S T) (hf : ∀ k' i', k' < 70 → C' k' i' = C k' i') : cs Z B C' S T := by
  obtain ⟨h1, h2, ⟨F, h3, h3'⟩, ⟨f, h4, h4'⟩, ⟨g, h5, h5'⟩, ⟨G, h6, h6'⟩, h7, h8, h9, h10, h11⟩ := h
  refine ⟨(hf _ _ (by omega)).trans h1, h2.kept (hf _ _ (by omega)) (hf _ _ (by omega)), ⟨F, (hf _ _ (by omega)).trans h3, h3'⟩, ⟨f, (hf _ _ (by omega)).trans h4, h4'⟩, ⟨g, (hf _ _ (by omega)).trans h5, h5'⟩, ⟨G, (hf _ _ (by omega)).trans h6, h6'⟩,
    fun i hi => (h7 i hi).kept (fun k' i' a b => hf _ _ (by omega)), fun q hq => (hf _ _ (by omega)).trans (h8 q hq), fun i k a1 a2 a3 a4 a5 => (hf _ _ (by omega)).trans (h9 i k a1 a2 a3 a4 a5), fun i hi => ⟨(hf _ _ (by omega)).trans (h10 i hi).1, (hf _ _ (by omega)).trans (h10 i hi).2⟩, fun q hq => (hf _ _ (by omega)).trans (h11 q hq)⟩
theorem md.out {Z : gZ} {B : gB} {C C' : gC} {S : gS} {T : gTx} {th : Int} (h : md Z B C S T th) (hf : ∀ k', 70 ≤ k' → k' ≤ 90 → C' k' 0 = C k' 0) : md Z B C' S T th := by
  obtain ⟨⟨mg, a0⟩, ⟨F, Fs, a1, a2, a3⟩, b1, b2, b3, b4, b5, b6, b7, b8, b9, b10, b11, b12, b13, b14, c1, c2, c3, c4⟩ := h
  exact ⟨⟨mg, (hf _ (by omega) (by omega)).trans a0⟩, ⟨F, Fs, (hf _ (by omega) (by omega)).trans a1, (hf _ (by omega) (by omega)).trans a2, a3⟩, b1.kept (hf _ (by omega) (by omega)), b2.kept (hf _ (by omega) (by omega)), b3.kept (hf _ (by omega) (by omega)), b4.kept (hf _ (by omega) (by omega)), b5.kept (hf _ (by omega) (by omega)), b6.kept (hf _ (by omega) (by omega)), b7.kept (hf _ (by omega) (by omega)), b8.kept (hf _ (by omega) (by omega)), b9.kept (hf _ (by omega) (by omega)), b10.kept (hf _ (by omega) (by omega)), b11.kept (hf _ (by omega) (by omega)), b12.kept (hf _ (by omega) (by omega)), b13.kept (hf _ (by omega) (by omega)), b14.kept (hf _ (by omega) (by omega)), c1.kept (hf _ (by omega) (by omega)), c2.kept (hf _ (by omega) (by omega)), c3.kept (hf _ (by omega) (by omega)), c4.kept (hf _ (by omega) (by omega))⟩
theorem md.Bx {Z : gZ} {B B1 : gB} {C : gC} {S : gS} {T : gTx} {th : Int} (h : md Z B C S T th) (hb : ∀ k', 70 ≤ k' → k' ≤ 90 → B1 k' 0 = B k' 0) : md Z B1 C S T th := by
  obtain ⟨⟨mg, a0⟩, r⟩ := h
  refine ⟨⟨mg, ?_⟩, r⟩
  unfold mdO
  rw [hb 71 (by omega) (by omega), hb 72 (by omega) (by omega), hb 73 (by omega) (by omega), hb 74 (by omega) (by omega), hb 75 (by omega) (by omega), hb 76 (by omega) (by omega), hb 77 (by omega) (by omega), hb 78 (by omega) (by omega), hb 79 (by omega) (by omega), hb 80 (by omega) (by omega), hb 81 (by omega) (by omega), hb 82 (by omega) (by omega), hb 83 (by omega) (by omega), hb 84 (by omega) (by omega), hb 85 (by omega) (by omega), hb 86 (by omega) (by omega), hb 87 (by omega) (by omega), hb 88 (by omega) (by omega), hb 89 (by omega) (by omega), hb 90 (by omega) (by omega)]
  exact a0
/-- what one of the law's methods leaves: its answer is the code; the row of one long holds the value -/
def lpost (Z : gZ) (B : gB) (C0 : gC) (S : gS) (T : gTx) (cd : Nat) (v : Int) (S' : gS) (T' : gTx) : Int32 → gB → gC → Prop := fun r B1 C1 =>
  r = zI (cd : Int) ∧ (cd = 0 → (∃ F : Nat → Int64, C1 95 0 = some (gL Z 1 F) ∧ F 0 = (zI v).toInt64) ∧ cs Z B1 C1 S' T') ∧ (¬ cd = 0 → cs Z B1 C1 S T) ∧ (∃ F : Nat → Int64, C1 95 0 = some (gL Z 1 F)) ∧ cx Z B1 C1 ∧ (∀ k' i', 70 ≤ k' → ¬ (k' = 95 ∧ i' = 0) → C1 k' i' = C0 k' i') ∧ gfB B B1
theorem gfB.rfl' {B : gB} : gfB B B := fun _ _ _ => rfl
theorem lpost_ok {Z : gZ} {B B1 : gB} {C0 C1 C2 : gC} {S S' : gS} {T T' : gTx} {cd : Nat} {v : Int} {F : Nat → Int64} (hcd : cd = 0) (hcs : cs Z B1 C1 S' T') (hcx : cx Z B1 C1) (hfo : gfo C0 C1) (hB : gfB B B1) (h95 : C2 95 0 = some (gL Z 1 F)) (hF : F 0 = (zI v).toInt64) (hn : ∀ k' i', ¬ (k' = 95 ∧ i' = 0) → C2 k' i' = C1 k' i') : lpost Z B C0 S T cd v S' T' (zI 0) B1 C2 := by
  subst hcd
  exact ⟨rfl, fun _ => ⟨⟨F, h95, hF⟩, hcs.out (fun k' i' h => hn k' i' (by omega))⟩, fun z => absurd rfl z, ⟨F, h95⟩, hcx.kept (fun k' i' _ _ => hn k' i' (by omega)), fun k' i' h1 h2 => (hn k' i' h2).trans (hfo k' i' h1), hB⟩
theorem lpost_x {Z : gZ} {B : gB} {C0 C1 : gC} {S S' : gS} {T T' : gTx} {cd : Nat} {v : Int} {F : Nat → Int64} (n : Nat) (hcd : cd = n) (hn : n ≠ 0) (hcs : cs Z B C1 S T) (hcx : cx Z B C1) (hfo : gfo C0 C1) (h95 : C0 95 0 = some (gL Z 1 F)) : lpost Z B C0 S T cd v S' T' (zI (n : Int)) B C1 := by
  subst hcd
  exact ⟨rfl, fun z => absurd z hn, fun _ => hcs, ⟨F, (hfo 95 0 (by omega)).trans h95⟩, hcx, fun k' i' h1 _ => hfo k' i' h1, gfB.rfl'⟩
theorem ite_flip {P : Prop} [Decidable P] : (if P then (0 : Int) else 1) = if ¬ P then 1 else 0 := by
  by_cases h : P <;> simp [h]
theorem updL0 {f : Nat → Int64} {y : Int64} : vp_updL f (zI 0).toNatClampNeg y 0 = y := if_pos (by decide)
/-! the exceptions' classes are apart -/
def gNc (U : State) : Prop := ∀ E ∈ gEX, ∀ E' ∈ gEX, E ≠ E' → va_Nc E E' U
def gPreN (Z : gZ) (B : gB) (C : gC) : State → Prop := fun U => gPre Z B C U ∧ gNc U
abbrev gPcN (Z : gZ) (B : gB) (C : gC) (av : List Value) : Array Value → State → Prop := va_Pc av (gPreN Z B C)
theorem gPcN.blind {Z : gZ} {B : gB} {C : gC} {av : List Value} : FrameBlind (gPcN Z B C av) := by
  intro a U g mk ⟨h0, h1, h2⟩
  have h := gPre.blind (Z := Z) (B := B) (C := C) (av := av) a U g mk ⟨h0, h1⟩
  exact ⟨h.1, h.2, fun E hE E' hE' hne => va_Nc.moved (u := U) (U := U.calling g mk a) (Vm.Alike.refl U.vm) (h2 E hE E' hE' hne)⟩
section LW
variable {p : Program} {l : Launch} {e : Env} {R : Room} {s : State} {m : MethodId} {args : Array Value} {below : List Frame} {meth : Method} {c : Code} {H : Heap} {locs : List Loc} {cells slots : Nat} {Q : State → Prop}
variable {cc bytes : ByteArray} {pc nL maxL mc ms n index : Nat} {ret : Option FieldType} {ls : Array Slot} {rest st0 As av : List Value} {Z : gZ} {B : gB} {C C0 : gC} {Ts ws ws' : List Cond} {own : String} {y : MethodName} {rm : Room} {hh : List (Nat × Nat × Nat × Nat)}
theorem g_preN (X : gX Z p s m c cc nL args Ts own) (hNc : gNc s) (hW : gw Z B C H) (hS : va_S (gA Z) s.heap H locs) : ∀ U : State, U.heap = H → s.WarmedH U.vm → gPcN Z B C av av.toArray U := by
  intro U hU hW1
  have h := g_pre X hW hS (av := av) U hU hW1
  exact ⟨h.1, h.2, fun E hE E' hE' hne => va_Nc.moved hW1.alike (hNc E hE E' hE' hne)⟩
theorem g_runSW {Qc : Array Value → State → Outcome → State → Prop} (X : gX Z p s m c cc nL args Ts own) (hNc : gNc s) (hM : Met l y ws rm (gPcN Z B C As) Qc mc ms (gA Z)) (cw : vx_CSW R s args own index y bytes maxL ret hh ws rm mc ms n) (hW : gw Z B C H) (hS : va_S (gA Z) s.heap H locs)
    (hn : As.length = n) (hl : ls.size = nL) (hst : st0 = As.reverse ++ rest) (hR : (rest.map fun v => v.category).sum ≤ 8) (hdg : decode cc pc = .ok (.invokestatic index, 3)) (hf : cells + mc ≤ R.cells ∧ slots + ms ≤ R.slots) :
    va_Run p l e R s m args below meth c H locs cells slots mc ms (F0 m pc ls st0) rest (Qc As.toArray) (gA Z) :=
  vx_runSW (As := As) (rest := rest) X.1 hM cw ⟨gPcN.blind, g_preN X hNc hW hS⟩ rfl hn hl hst (lv_room hR) hdg hf
theorem g_ofIH {post : Int32 → gB → gC → Prop} (hy : plainName y.cls = true) (hyc : y.cls = RL) (hw : ws = Cond.codeWith y cc maxL (some .int) hh :: ws') (hlen : (lg_sl av).length ≤ maxL)
    (body : ∀ p e s m args below meth c Q, gX Z p s m c cc maxL args ws RL → gNc s → c.exceptionTable.toList = tableOf hh → gKiB l Z rm cc mc ms post p e s m args below meth c Q → gGo l Z B C0 rm maxL av p e s m args below meth c Q) : Met l y ws rm (gPcN Z B C0 av) (gQiB Z post) mc ms (gA Z) := by
  refine MetFree.of_bodyS (code := cc) (maxLocals := maxL) (ret := some .int) hy ?_ ?_
  · intro args s m h hn
    obtain ⟨m9, meth, c, hn9, h1, h2, h3, h4, -, h5, h6, -⟩ := Cond.codeWith_spec (atoms_spec (ws := ws) h _ (by rw [hw]; exact List.mem_cons_self))
    cases hn.symm.trans hn9
    exact ⟨meth, c, h1, h2, h3, h4, h5, h6⟩
  · intro p e s m args below meth c s₁ BL hml hP _
    have hh0 : s₁.heap = s.heap := by rw [BL.state]; rfl
    have htab := vx_table (x := y) BL (atoms_spec (ws := ws) BL.pre _ (by rw [hw]; exact List.mem_cons_self))
    obtain ⟨rfl, ⟨hW, hz, hK, hN⟩, hNc⟩ := hP
    have hl := lv_entry av (n := maxL) hlen
    have K : W p l e (headSpec ws rm).room s m av.toArray below meth c s.heap [] 0 0 (MQ below (gQiB Z post) av.toArray s mc ms (gA Z)) (entryFrame m av.toArray maxL) := by
      rw [lg_entry_eq]
      refine body p e s m _ below meth c _ ⟨⟨BL.exec, BL.bytes, hml, by rw [← hyc]; exact findClass_of_methodNamed BL.named, atoms_spec (ws := ws) BL.pre⟩, hK, hN, hz⟩ hNc htab ?_ hW va_S.rf _ hl
      intro r B1 C1 H1 locs1 cells slots pc ls hp hW1 hS1 hc hs hd
      exact W.widen hc hs (W.iret BL.exec BL.bytes BL.returns (fun t ht _ => ⟨⟨r, (B1, C1), rfl, hp, by subst ht; exact hW1⟩, hS1.F ht⟩) hS1.2.2 hd BL.notSynchronized)
    obtain ⟨t, a1, o, b1, b2, b3⟩ := K s₁ hh0 (Stand.of_body BL)
    exact ⟨t, o, a1, b1, b2, ⟨b3.1, b3.2⟩⟩
theorem g_catch {E : String} {ce : Cell} {q : Addr} (pre : List ExceptionTableEntry) (x : ExceptionTableEntry) (suf : List ExceptionTableEntry) (X : gX Z p s m c cc nL args Ts own) (hNc : gNc s) (htab : c.exceptionTable.toList = pre ++ x :: suf) (hE : E ∈ gEX) (hx : covers x pc = true) (h0 : x.catchType ≠ 0) (hlink : Cond.classLink own x.catchType E ∈ Ts)
    (hpass : ∀ z ∈ pre, z.catchType ≠ 0 ∧ ∃ nm, nm ∈ gEX ∧ E ≠ nm ∧ Cond.classLink own z.catchType nm ∈ Ts) (h1 : H[q]? = some ce) (h2 : ce.vm = .none) (h3 : s.vm.findClass E = some ce.cls)
    (kk : W p l e R s m args below meth c H locs cells slots Q (F0 m x.handlerPc ls [.ref q])) : vx_W p l e R s m args below meth c H locs cells slots Q (F0 m pc ls rest) q :=
  vx_catch X.1.2.2.2.1 pre x suf htab (fun z hz => by obtain ⟨a, nm, b, c9, d⟩ := hpass z hz; exact Or.inr ⟨a, nm, X.1.2.2.2.2 _ d, hNc E hE nm b c9⟩) hx h0 (X.1.2.2.2.2 _ hlink) (va_Nw.use rfl (X.2.2.1.2.2.2.1 E hE).1) h1 h2 h3 kk
end LW
