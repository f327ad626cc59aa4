/-! STARTS AND ENDS OF METHODS OVER THE WORLD BY KINDS -/
section GS
variable {l : Launch} {Z : gZ} {B : gB} {C0 : gC} {y : MethodName} {ws ws' : List Cond} {rm : Room} {cc : ByteArray} {maxL : Nat} {ret : Option FieldType} {av : List Value} {mc ms : Nat}
/-- where a body begins -/
abbrev gGo (l : Launch) (Z : gZ) (B : gB) (C0 : gC) (rm : Room) (maxL : Nat) (av : List Value) (p : Program) (e : Env) (s : State) (m : MethodId) (args : Array Value) (below : List Frame) (meth : Method) (c : Code) (Q : State → Prop) : Prop :=
  gw Z B C0 s.heap → va_S (gA Z) s.heap s.heap [] → ∀ ls : Array Slot, lv_has ls maxL (lv_args 0 av) → W p l e rm s m args below meth c s.heap [] 0 0 Q (F0 m 0 ls [])
abbrev gKi (l : Launch) (Z : gZ) (B : gB) (rm : Room) (cc : ByteArray) (mc ms : Nat) (post : Int32 → gC → Prop) (p : Program) (e : Env) (s : State) (m : MethodId) (args : Array Value) (below : List Frame) (meth : Method) (c : Code) (Q : State → Prop) : Prop :=
  ∀ (r : Int32) (C1 : gC) (H1 : Heap) (locs1 : List Loc) (cells slots pc : Nat) (ls : Array Slot), post r C1 → gw Z B C1 H1 → va_S (gA Z) s.heap H1 locs1 → cells ≤ mc → slots ≤ ms → decode cc pc = .ok (.ireturn, 1) → W p l e rm s m args below meth c H1 locs1 cells slots Q (F0 m pc ls [.int r])
abbrev gKv (l : Launch) (Z : gZ) (B : gB) (rm : Room) (cc : ByteArray) (mc ms : Nat) (post : gC → Prop) (p : Program) (e : Env) (s : State) (m : MethodId) (args : Array Value) (below : List Frame) (meth : Method) (c : Code) (Q : State → Prop) : Prop :=
  ∀ (C1 : gC) (H1 : Heap) (locs1 : List Loc) (cells slots pc : Nat) (ls : Array Slot), post C1 → gw Z B C1 H1 → va_S (gA Z) s.heap H1 locs1 → cells ≤ mc → slots ≤ ms → decode cc pc = .ok (.return_, 1) → W p l e rm s m args below meth c H1 locs1 cells slots Q (F0 m pc ls [])
abbrev gKr (l : Launch) (Z : gZ) (B : gB) (rm : Room) (cc : ByteArray) (mc ms : Nat) (post : Nat → gC → Prop) (p : Program) (e : Env) (s : State) (m : MethodId) (args : Array Value) (below : List Frame) (meth : Method) (c : Code) (Q : State → Prop) : Prop :=
  ∀ (r : Nat) (C1 : gC) (H1 : Heap) (locs1 : List Loc) (cells slots pc : Nat) (ls : Array Slot), post r C1 → gw Z B C1 H1 → va_S (gA Z) s.heap H1 locs1 → cells ≤ mc → slots ≤ ms → decode cc pc = .ok (.areturn, 1) → W p l e rm s m args below meth c H1 locs1 cells slots Q (F0 m pc ls [.ref r])
abbrev gKvB (l : Launch) (Z : gZ) (rm : Room) (cc : ByteArray) (mc ms : Nat) (post : gB → gC → Prop) (p : Program) (e : Env) (s : State) (m : MethodId) (args : Array Value) (below : List Frame) (meth : Method) (c : Code) (Q : State → Prop) : Prop :=
  ∀ (B1 : gB) (C1 : gC) (H1 : Heap) (locs1 : List Loc) (cells slots pc : Nat) (ls : Array Slot), post B1 C1 → gw Z B1 C1 H1 → va_S (gA Z) s.heap H1 locs1 → cells ≤ mc → slots ≤ ms → decode cc pc = .ok (.return_, 1) → W p l e rm s m args below meth c H1 locs1 cells slots Q (F0 m pc ls [])
abbrev gKiB (l : Launch) (Z : gZ) (rm : Room) (cc : ByteArray) (mc ms : Nat) (post : Int32 → gB → gC → Prop) (p : Program) (e : Env) (s : State) (m : MethodId) (args : Array Value) (below : List Frame) (meth : Method) (c : Code) (Q : State → Prop) : Prop :=
  ∀ (r : Int32) (B1 : gB) (C1 : gC) (H1 : Heap) (locs1 : List Loc) (cells slots pc : Nat) (ls : Array Slot), post r B1 C1 → gw Z B1 C1 H1 → va_S (gA Z) s.heap H1 locs1 → cells ≤ mc → slots ≤ ms → decode cc pc = .ok (.ireturn, 1) → W p l e rm s m args below meth c H1 locs1 cells slots Q (F0 m pc ls [.int r])
/-- a throw goes out of this method -/
abbrev gKo (l : Launch) (Z : gZ) (B : gB) (rm : Room) (mc ms : Nat) (px : String → gC → Prop) (p : Program) (e : Env) (s : State) (m : MethodId) (args : Array Value) (below : List Frame) (meth : Method) (c : Code) (Q : State → Prop) : Prop :=
  ∀ (E : String) (ce : Cell) (q9 : Addr) (C1 : gC) (H1 : Heap) (locs1 : List Loc) (cells slots pc : Nat) (ls : Array Slot) (rest : List Value), px E C1 → gw Z B C1 H1 → va_S (gA Z) s.heap H1 locs1 → H1[q9]? = some ce → ce.vm = .none → s.vm.findClass E = some ce.cls → cells ≤ mc → slots ≤ ms → vx_W p l e rm s m args below meth c H1 locs1 cells slots Q (F0 m pc ls rest) q9
/-- this method throws a new one -/
abbrev gThr : List String := ["java/lang/RuntimeException", "java/lang/Exception"]
abbrev gKt (l : Launch) (Z : gZ) (B : gB) (ws : List Cond) (cc : ByteArray) (maxL : Nat) (rm : Room) (mc ms : Nat) (px : String → gC → Prop) (p : Program) (e : Env) (s : State) (m : MethodId) (args : Array Value) (below : List Frame) (meth : Method) (c : Code) (Q : State → Prop) : Prop :=
  ∀ (E text : String) (ik is ic : Nat) (C1 : gC) (H1 : Heap) (locs1 : List Loc) (cells slots pc : Nat) (ls : Array Slot) (lv : List (Nat × Value)), px E C1 → gw Z B C1 H1 → va_S (gA Z) s.heap H1 locs1 → lv_has ls maxL lv → E ∈ gEX → (is, text) ∈ gST → Bundle.fit E = true → Cond.classLink RX7 ik E ∈ ws → Cond.initialized E ∈ ws → (∀ w ∈ (vx_atE RX7 ic E gThr).filter goodWord, w ∈ ws) →
    (∀ w ∈ Cond.classLink RX7 ik E :: Cond.initialized E :: vx_atE RX7 ic E gThr, vx_ot w = true) → (∀ w ∈ (vx_atE RX7 ic E gThr).filter (fun w => !goodWord w), w ∈ Cond.castable E E :: gDE.map Cond.declares) → cells + 1 ≤ mc → slots + 6 ≤ ms →
    decode cc pc = .ok (.new ik, 3) → decode cc (pc + 3) = .ok (.dup, 1) → ((decode cc (pc + 4) = .ok (.ldc is, 2) ∧ decode cc (pc + 6) = .ok (.invokespecial ic, 3) ∧ decode cc (pc + 9) = .ok (.athrow, 1)) ∨ (decode cc (pc + 4) = .ok (.ldc_w is, 3) ∧ decode cc (pc + 7) = .ok (.invokespecial ic, 3) ∧ decode cc (pc + 10) = .ok (.athrow, 1))) →
    W p l e rm s m args below meth c H1 locs1 cells slots Q (F0 m pc ls [])
theorem g_ofI {post : Int32 → gC → Prop} (hy : plainName y.cls = true) (hw : ws = Cond.code y cc maxL (some .int) :: ws') (hlen : (lg_sl av).length ≤ maxL)
    (body : ∀ p e s m args below meth c Q, gX Z p s m c cc maxL args ws y.cls → gKi l Z B rm cc mc ms post p e s m args below meth c Q → gGo l Z B C0 rm maxL av p e s m args below meth c Q) : Met l y ws rm (gPc Z B C0 av) (gQi Z B post) mc ms (gA Z) := by
  refine Met.ofW (cc := cc) (maxL := maxL) (ret := some .int) hy hw ?_
  intro p e s m args below meth c s₁ BL hml hv
  obtain ⟨rfl, hW, hz, hK, hN⟩ := hv
  have hl := lv_entry av (n := maxL) hlen
  rw [lg_entry_eq]
  refine body p e s m _ below meth c _ ⟨⟨BL.exec, BL.bytes, hml, findClass_of_methodNamed BL.named, atoms_spec (ws := ws) BL.pre⟩, hK, hN, hz⟩ ?_ hW va_S.rf _ hl
  intro r C1 H1 locs1 cells slots pc ls hp hW1 hS1 hc hs hd
  exact W.widen hc hs (W.iret BL.exec BL.bytes BL.returns (fun t ht _ => ⟨⟨r, C1, rfl, hp, by subst ht; exact hW1⟩, hS1.F ht⟩) hS1.2.2 hd BL.notSynchronized)
/-- the same for answers that are narrow: boolean, char -/
theorem g_ofZ {ty : FieldType} {post : Int32 → gC → Prop} (hy : plainName y.cls = true) (hw : ws = Cond.code y cc maxL (some ty) :: ws') (hlen : (lg_sl av).length ≤ maxL) (hnar : ∀ r C1, post r C1 → narrow ty (.int r) = .int r)
    (body : ∀ p e s m args below meth c Q, gX Z p s m c cc maxL args ws y.cls → gKi l Z B rm cc mc ms post p e s m args below meth c Q → gGo l Z B C0 rm maxL av p e s m args below meth c Q) : Met l y ws rm (gPc Z B C0 av) (gQi Z B post) mc ms (gA Z) := by
  refine Met.ofW (cc := cc) (maxL := maxL) (ret := some ty) hy hw ?_
  intro p e s m args below meth c s₁ BL hml hv
  obtain ⟨rfl, hW, hz, hK, hN⟩ := hv
  have hl := lv_entry av (n := maxL) hlen
  rw [lg_entry_eq]
  refine body p e s m _ below meth c _ ⟨⟨BL.exec, BL.bytes, hml, findClass_of_methodNamed BL.named, atoms_spec (ws := ws) BL.pre⟩, hK, hN, hz⟩ ?_ hW va_S.rf _ hl
  intro r C1 H1 locs1 cells slots pc ls hp hW1 hS1 hc hs hd
  exact W.widen hc hs (W.zret BL.exec BL.bytes BL.returns (hnar r C1 hp) (fun t ht _ => ⟨⟨r, C1, rfl, hp, by subst ht; exact hW1⟩, hS1.F ht⟩) hS1.2.2 hd BL.notSynchronized)
theorem g_ofV {post : gC → Prop} (hy : plainName y.cls = true) (hw : ws = Cond.code y cc maxL none :: ws') (hlen : (lg_sl av).length ≤ maxL)
    (body : ∀ p e s m args below meth c Q, gX Z p s m c cc maxL args ws y.cls → gKv l Z B rm cc mc ms post p e s m args below meth c Q → gGo l Z B C0 rm maxL av p e s m args below meth c Q) : Met l y ws rm (gPc Z B C0 av) (gQv Z B post) mc ms (gA Z) := by
  refine Met.ofW (cc := cc) (maxL := maxL) (ret := none) hy hw ?_
  intro p e s m args below meth c s₁ BL hml hv
  obtain ⟨rfl, hW, hz, hK, hN⟩ := hv
  have hl := lv_entry av (n := maxL) hlen
  rw [lg_entry_eq]
  refine body p e s m _ below meth c _ ⟨⟨BL.exec, BL.bytes, hml, findClass_of_methodNamed BL.named, atoms_spec (ws := ws) BL.pre⟩, hK, hN, hz⟩ ?_ hW va_S.rf _ hl
  intro C1 H1 locs1 cells slots pc ls hp hW1 hS1 hc hs hd
  exact W.widen hc hs (W.vret BL.exec BL.bytes BL.returns (fun t ht _ => ⟨⟨C1, rfl, hp, by subst ht; exact hW1⟩, hS1.F ht⟩) hS1.2.2 hd BL.notSynchronized)
theorem g_ofR {rt : FieldType} {post : Nat → gC → Prop} (hy : plainName y.cls = true) (hw : ws = Cond.code y cc maxL (some rt) :: ws') (hlen : (lg_sl av).length ≤ maxL) (hrt : ∃ n, rt = .object n)
    (body : ∀ p e s m args below meth c Q, gX Z p s m c cc maxL args ws y.cls → gKr l Z B rm cc mc ms post p e s m args below meth c Q → gGo l Z B C0 rm maxL av p e s m args below meth c Q) : Met l y ws rm (gPc Z B C0 av) (gQr Z B post) mc ms (gA Z) := by
  refine Met.ofW (cc := cc) (maxL := maxL) (ret := some rt) hy hw ?_
  intro p e s m args below meth c s₁ BL hml hv
  obtain ⟨rfl, hW, hz, hK, hN⟩ := hv
  have hl := lv_entry av (n := maxL) hlen
  rw [lg_entry_eq]
  refine body p e s m _ below meth c _ ⟨⟨BL.exec, BL.bytes, hml, findClass_of_methodNamed BL.named, atoms_spec (ws := ws) BL.pre⟩, hK, hN, hz⟩ ?_ hW va_S.rf _ hl
  intro r C1 H1 locs1 cells slots pc ls hp hW1 hS1 hc hs hd
  exact W.widen hc hs (W.aret BL.exec BL.bytes BL.returns (Or.inl hrt) (Or.inr ⟨r, rfl⟩) (fun t ht _ => ⟨⟨C1, r, rfl, trivial, hp, by subst ht; exact hW1⟩, hS1.F ht⟩) hS1.2.2 hd BL.notSynchronized)
theorem g_ofVB {post : gB → gC → Prop} (hy : plainName y.cls = true) (hw : ws = Cond.code y cc maxL none :: ws') (hlen : (lg_sl av).length ≤ maxL)
    (body : ∀ p e s m args below meth c Q, gX Z p s m c cc maxL args ws y.cls → meth.name = y.name → gKvB l Z rm cc mc ms post p e s m args below meth c Q → gGo l Z B C0 rm maxL av p e s m args below meth c Q) : Met l y ws rm (gPc Z B C0 av) (gQvB Z post) mc ms (gA Z) := by
  refine Met.ofW (cc := cc) (maxL := maxL) (ret := none) hy hw ?_
  intro p e s m args below meth c s₁ BL hml hv
  obtain ⟨rfl, hW, hz, hK, hN⟩ := hv
  have hl := lv_entry av (n := maxL) hlen
  rw [lg_entry_eq]
  refine body p e s m _ below meth c _ ⟨⟨BL.exec, BL.bytes, hml, findClass_of_methodNamed BL.named, atoms_spec (ws := ws) BL.pre⟩, hK, hN, hz⟩ (name_of_methodNamed BL.named BL.method).1 ?_ hW va_S.rf _ hl
  intro B1 C1 H1 locs1 cells slots pc ls hp hW1 hS1 hc hs hd
  exact W.widen hc hs (W.vret BL.exec BL.bytes BL.returns (fun t ht _ => ⟨⟨(B1, C1), rfl, hp, by subst ht; exact hW1⟩, hS1.F ht⟩) hS1.2.2 hd BL.notSynchronized)
/-- the ends of a body that may throw -/
theorem g_thr {px : String → gC → Prop} {Qc : Array Value → State → Outcome → State → Prop} {p : Program} {e : Env} {s : State} {m : MethodId} {args : Array Value} {below : List Frame} {meth : Method} {c : Code} (hl : l.stackTraces = false) (X : gX Z p s m c cc maxL args ws RX7) (htab : ∀ x ∈ c.exceptionTable.toList, False) (hlk : meth.locks = false)
    (hfr : 6 ≤ rm.frames) (hlo : 82 ≤ rm.locals) (hmc : mc ≤ rm.cells) (hms : ms ≤ rm.slots) : gKt l Z B ws cc maxL rm mc ms px p e s m args below meth c (vx_MQ below Qc (gXC Z B px) args s mc ms (gA Z)) := by
  intro E text ik is ic C1 H1 locs1 cells slots pc ls lv hp hW1 hS1 hlv hE hST hfit hk hini hgw hot hng hc hs d0 d3 hd
  obtain ⟨⟨hexec, hb, hml, hown, hts⟩, hK, hN, hz⟩ := X
  obtain ⟨sa, hstr⟩ := hN.2.2.1 (is, text) hST
  have hat : ∀ w ∈ vx_atE RX7 ic E gThr, w.before args s = true := vx_hat (fun w hw => hts w (hgw w hw)) hng (vx_c (va_Nw.use rfl (hN.2.2.2.1 E hE).1) (fun w hw => by
    obtain ⟨x, hx, rfl⟩ := List.mem_map.mp hw
    exact va_Nw.use rfl ((hN.2.2.2.1 E hE).2 x hx)))
  have hxx : ∀ t : State, s.vm.Alike t.vm → H1.size ≤ t.heap.size → (∀ q : Nat, q < H1.size → t.heap[q]? = H1[q]?) → gXC Z B px E s t := fun t _ hsz ho =>
    ⟨C1, trivial, ⟨hp, hW1.kept ho⟩, Nat.le_trans hS1.1 hsz, fun q h1 h2 => (ho q (Nat.lt_of_lt_of_le h1 hS1.1)).trans (hS1.2.1 q h1 h2)⟩
  rcases hd with ⟨d4, d6, d9⟩ | ⟨d4, d7, d10⟩
  · exact vx_throwE (names := gThr) hexec hb hl hown hfit (by decide +kernel) (hts _ hk) (hts _ hini) hstr hat hot hN.2.2.2.2.2.1 hN.2.2.2.2.2.2 hS1 (by rw [hml]; exact hlv.1) d0 d3 d4 d6 d9 (fun x hx => (htab x hx).elim)
      (by show 2 + 3 < rm.frames; omega) (by show 0 + (13 * (2 + 1) + 43) ≤ rm.locals; omega) (by omega) (by omega) hlk hxx hS1.2.2 hc hs
  · exact vx_throwEW (names := gThr) hexec hb hl hown hfit (by decide +kernel) (hts _ hk) (hts _ hini) hstr hat hot hN.2.2.2.2.2.1 hN.2.2.2.2.2.2 hS1 (by rw [hml]; exact hlv.1) d0 d3 d4 d7 d10 (fun x hx => (htab x hx).elim)
      (by show 2 + 3 < rm.frames; omega) (by show 0 + (13 * (2 + 1) + 43) ≤ rm.locals; omega) (by omega) (by omega) hlk hxx hS1.2.2 hc hs
theorem g_out {px : String → gC → Prop} {Qc : Array Value → State → Outcome → State → Prop} {p : Program} {e : Env} {s : State} {m : MethodId} {args : Array Value} {below : List Frame} {meth : Method} {c : Code} (htab : ∀ x ∈ c.exceptionTable.toList, False) (hlk : meth.locks = false) :
    gKo l Z B rm mc ms px p e s m args below meth c (vx_MQ below Qc (gXC Z B px) args s mc ms (gA Z)) := by
  intro E ce q9 C1 H1 locs1 cells slots pc ls rest hp hW1 hS1 h1 h2 h3 hc hs
  exact vx_out (fun x hx => (htab x hx).elim) hlk h1 h2 h3 (fun t ht _ => ⟨C1, trivial, ⟨hp, by subst ht; exact hW1⟩, hS1.F ht⟩) hS1.2.2 hc hs
theorem g_ofIx {post : Int32 → gC → Prop} {px : String → gC → Prop} (hl : l.stackTraces = false) (hy : plainName y.cls = true) (hyc : y.cls = RX7) (hw : ws = Cond.code y cc maxL (some .int) :: ws') (hlen : (lg_sl av).length ≤ maxL) (hfr : 6 ≤ rm.frames) (hlo : 82 ≤ rm.locals) (hmc : mc ≤ rm.cells) (hms : ms ≤ rm.slots)
    (body : ∀ p e s m args below meth c Q, gX Z p s m c cc maxL args ws RX7 → gKi l Z B rm cc mc ms post p e s m args below meth c Q → gKo l Z B rm mc ms px p e s m args below meth c Q → gKt l Z B ws cc maxL rm mc ms px p e s m args below meth c Q → gGo l Z B C0 rm maxL av p e s m args below meth c Q) : vx_Met l y ws rm (gPc Z B C0 av) (gQi Z B post) (gXC Z B px) mc ms (gA Z) := by
  refine vx_ofW (cc := cc) (maxL := maxL) (ret := some .int) hy hw ?_
  intro p e s m args below meth c s₁ BL hml htab hv
  obtain ⟨rfl, hW, hz, hK, hN⟩ := hv
  have hlv := lv_entry av (n := maxL) hlen
  have X : gX Z p s m c cc maxL av.toArray ws RX7 := ⟨⟨BL.exec, BL.bytes, hml, by rw [← hyc]; exact findClass_of_methodNamed BL.named, atoms_spec (ws := ws) BL.pre⟩, hK, hN, hz⟩
  rw [lg_entry_eq]
  refine body p e s m _ below meth c _ X ?_ (g_out htab BL.notSynchronized) (g_thr hl X htab BL.notSynchronized hfr hlo hmc hms) hW va_S.rf _ hlv
  intro r C1 H1 locs1 cells slots pc ls hp hW1 hS1 hc hs hd
  exact vx_ret (W.widen hc hs (W.iret BL.exec BL.bytes BL.returns (fun t ht _ => ⟨⟨r, C1, rfl, hp, by subst ht; exact hW1⟩, hS1.F ht⟩) hS1.2.2 hd BL.notSynchronized))
theorem g_ofZx {ty : FieldType} {post : Int32 → gC → Prop} {px : String → gC → Prop} (hl : l.stackTraces = false) (hy : plainName y.cls = true) (hyc : y.cls = RX7) (hw : ws = Cond.code y cc maxL (some ty) :: ws') (hlen : (lg_sl av).length ≤ maxL) (hnar : ∀ r C1, post r C1 → narrow ty (.int r) = .int r) (hfr : 6 ≤ rm.frames) (hlo : 82 ≤ rm.locals) (hmc : mc ≤ rm.cells) (hms : ms ≤ rm.slots)
    (body : ∀ p e s m args below meth c Q, gX Z p s m c cc maxL args ws RX7 → gKi l Z B rm cc mc ms post p e s m args below meth c Q → gKo l Z B rm mc ms px p e s m args below meth c Q → gKt l Z B ws cc maxL rm mc ms px p e s m args below meth c Q → gGo l Z B C0 rm maxL av p e s m args below meth c Q) : vx_Met l y ws rm (gPc Z B C0 av) (gQi Z B post) (gXC Z B px) mc ms (gA Z) := by
  refine vx_ofW (cc := cc) (maxL := maxL) (ret := some ty) hy hw ?_
  intro p e s m args below meth c s₁ BL hml htab hv
  obtain ⟨rfl, hW, hz, hK, hN⟩ := hv
  have hlv := lv_entry av (n := maxL) hlen
  have X : gX Z p s m c cc maxL av.toArray ws RX7 := ⟨⟨BL.exec, BL.bytes, hml, by rw [← hyc]; exact findClass_of_methodNamed BL.named, atoms_spec (ws := ws) BL.pre⟩, hK, hN, hz⟩
  rw [lg_entry_eq]
  refine body p e s m _ below meth c _ X ?_ (g_out htab BL.notSynchronized) (g_thr hl X htab BL.notSynchronized hfr hlo hmc hms) hW va_S.rf _ hlv
  intro r C1 H1 locs1 cells slots pc ls hp hW1 hS1 hc hs hd
  exact vx_ret (W.widen hc hs (W.zret BL.exec BL.bytes BL.returns (hnar r C1 hp) (fun t ht _ => ⟨⟨r, C1, rfl, hp, by subst ht; exact hW1⟩, hS1.F ht⟩) hS1.2.2 hd BL.notSynchronized))
theorem g_ofVx {post : gC → Prop} {px : String → gC → Prop} (hl : l.stackTraces = false) (hy : plainName y.cls = true) (hyc : y.cls = RX7) (hw : ws = Cond.code y cc maxL none :: ws') (hlen : (lg_sl av).length ≤ maxL) (hfr : 6 ≤ rm.frames) (hlo : 82 ≤ rm.locals) (hmc : mc ≤ rm.cells) (hms : ms ≤ rm.slots)
    (body : ∀ p e s m args below meth c Q, gX Z p s m c cc maxL args ws RX7 → gKv l Z B rm cc mc ms post p e s m args below meth c Q → gKo l Z B rm mc ms px p e s m args below meth c Q → gKt l Z B ws cc maxL rm mc ms px p e s m args below meth c Q → gGo l Z B C0 rm maxL av p e s m args below meth c Q) : vx_Met l y ws rm (gPc Z B C0 av) (gQv Z B post) (gXC Z B px) mc ms (gA Z) := by
  refine vx_ofW (cc := cc) (maxL := maxL) (ret := none) hy hw ?_
  intro p e s m args below meth c s₁ BL hml htab hv
  obtain ⟨rfl, hW, hz, hK, hN⟩ := hv
  have hlv := lv_entry av (n := maxL) hlen
  have X : gX Z p s m c cc maxL av.toArray ws RX7 := ⟨⟨BL.exec, BL.bytes, hml, by rw [← hyc]; exact findClass_of_methodNamed BL.named, atoms_spec (ws := ws) BL.pre⟩, hK, hN, hz⟩
  rw [lg_entry_eq]
  refine body p e s m _ below meth c _ X ?_ (g_out htab BL.notSynchronized) (g_thr hl X htab BL.notSynchronized hfr hlo hmc hms) hW va_S.rf _ hlv
  intro C1 H1 locs1 cells slots pc ls hp hW1 hS1 hc hs hd
  exact vx_ret (W.widen hc hs (W.vret BL.exec BL.bytes BL.returns (fun t ht _ => ⟨⟨C1, rfl, hp, by subst ht; exact hW1⟩, hS1.F ht⟩) hS1.2.2 hd BL.notSynchronized))
theorem g_ofRx {rt : FieldType} {post : Nat → gC → Prop} {px : String → gC → Prop} (hl : l.stackTraces = false) (hy : plainName y.cls = true) (hyc : y.cls = RX7) (hw : ws = Cond.code y cc maxL (some rt) :: ws') (hlen : (lg_sl av).length ≤ maxL) (hrt : ∃ n, rt = .object n) (hfr : 6 ≤ rm.frames) (hlo : 82 ≤ rm.locals) (hmc : mc ≤ rm.cells) (hms : ms ≤ rm.slots)
    (body : ∀ p e s m args below meth c Q, gX Z p s m c cc maxL args ws RX7 → gKr l Z B rm cc mc ms post p e s m args below meth c Q → gKo l Z B rm mc ms px p e s m args below meth c Q → gKt l Z B ws cc maxL rm mc ms px p e s m args below meth c Q → gGo l Z B C0 rm maxL av p e s m args below meth c Q) : vx_Met l y ws rm (gPc Z B C0 av) (gQr Z B post) (gXC Z B px) mc ms (gA Z) := by
  refine vx_ofW (cc := cc) (maxL := maxL) (ret := some rt) hy hw ?_
  intro p e s m args below meth c s₁ BL hml htab hv
  obtain ⟨rfl, hW, hz, hK, hN⟩ := hv
  have hlv := lv_entry av (n := maxL) hlen
  have X : gX Z p s m c cc maxL av.toArray ws RX7 := ⟨⟨BL.exec, BL.bytes, hml, by rw [← hyc]; exact findClass_of_methodNamed BL.named, atoms_spec (ws := ws) BL.pre⟩, hK, hN, hz⟩
  rw [lg_entry_eq]
  refine body p e s m _ below meth c _ X ?_ (g_out htab BL.notSynchronized) (g_thr hl X htab BL.notSynchronized hfr hlo hmc hms) hW va_S.rf _ hlv
  intro r C1 H1 locs1 cells slots pc ls hp hW1 hS1 hc hs hd
  exact vx_ret (W.widen hc hs (W.aret BL.exec BL.bytes BL.returns (Or.inl hrt) (Or.inr ⟨r, rfl⟩) (fun t ht _ => ⟨⟨C1, r, rfl, trivial, hp, by subst ht; exact hW1⟩, hS1.F ht⟩) hS1.2.2 hd BL.notSynchronized))
theorem g_ofIBx {post : Int32 → gB → gC → Prop} {px : String → gC → Prop} (hl : l.stackTraces = false) (hy : plainName y.cls = true) (hyc : y.cls = RX7) (hw : ws = Cond.code y cc maxL (some .int) :: ws') (hlen : (lg_sl av).length ≤ maxL) (hfr : 6 ≤ rm.frames) (hlo : 82 ≤ rm.locals) (hmc : mc ≤ rm.cells) (hms : ms ≤ rm.slots)
    (body : ∀ p e s m args below meth c Q, gX Z p s m c cc maxL args ws RX7 → gKiB l Z rm cc mc ms post p e s m args below meth c Q → gKo l Z B rm mc ms px p e s m args below meth c Q → gKt l Z B ws cc maxL rm mc ms px p e s m args below meth c Q → gGo l Z B C0 rm maxL av p e s m args below meth c Q) : vx_Met l y ws rm (gPc Z B C0 av) (gQiB Z post) (gXC Z B px) mc ms (gA Z) := by
  refine vx_ofW (cc := cc) (maxL := maxL) (ret := some .int) hy hw ?_
  intro p e s m args below meth c s₁ BL hml htab hv
  obtain ⟨rfl, hW, hz, hK, hN⟩ := hv
  have hlv := lv_entry av (n := maxL) hlen
  have X : gX Z p s m c cc maxL av.toArray ws RX7 := ⟨⟨BL.exec, BL.bytes, hml, by rw [← hyc]; exact findClass_of_methodNamed BL.named, atoms_spec (ws := ws) BL.pre⟩, hK, hN, hz⟩
  rw [lg_entry_eq]
  refine body p e s m _ below meth c _ X ?_ (g_out htab BL.notSynchronized) (g_thr hl X htab BL.notSynchronized hfr hlo hmc hms) hW va_S.rf _ hlv
  intro r B1 C1 H1 locs1 cells slots pc ls hp hW1 hS1 hc hs hd
  exact vx_ret (W.widen hc hs (W.iret BL.exec BL.bytes BL.returns (fun t ht _ => ⟨⟨r, (B1, C1), rfl, hp, by subst ht; exact hW1⟩, hS1.F ht⟩) hS1.2.2 hd BL.notSynchronized))
end GS
