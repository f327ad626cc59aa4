/-! CALLS OVER THE WORLD BY KINDS -/
section GC
variable {p : Program} {l : Launch} {e : Env} {R : Room} {s : State} {m : MethodId} {args : Array Value} {below : List Frame} {meth : Method} {c : Code} {H : Heap} {locs : List Loc} {cells slots : Nat} {Q : State → Prop}
variable {cc bytes : ByteArray} {pc nL maxL mc ms n index : Nat} {ret : Option FieldType} {ls : Array Slot} {rest st0 As : List Value} {Z : gZ} {B : gB} {C : gC} {Ts ws : List Cond} {own Cn : String} {k i : Nat} {y : MethodName} {rm : Room}
/-- the start of a callee, from where the caller stands -/
theorem g_pre (X : gX Z p s m c cc nL args Ts own) (hW : gw Z B C H) (hS : va_S (gA Z) s.heap H locs) {av : List Value} : ∀ U : State, U.heap = H → s.WarmedH U.vm → gPc Z B C av av.toArray U := by
  intro U hU hW1
  refine ⟨rfl, by rw [hU]; exact hW, by rw [hU]; exact Nat.le_trans X.2.2.2 hS.1, va_K.moved hW1.alike X.2.1, gN.warm hW1 (fun q h1 h2 => ?_) X.2.2.1⟩
  rw [hU]
  exact hS.2.1 q h1 h2
theorem g_recv {T : u_T} {N ci : Nat} {fs : List Value} (X : gX Z p s m c cc nL args Ts own) (hW : gw Z B C H) (he : C k i = some (.inr (ci, fs))) (hc : vwCl[ci]? = some (Cn, T, N)) : ∃ cell : Cell, H[B k i]? = some cell ∧ cell.vm.isStatics = false ∧ s.vm.findClass Cn = some cell.cls :=
  va_recv X.2.1 (hW.P he) (q0 := 0) hc rfl
variable {T : u_T} {N ci : Nat} {fs : List Value}
abbrev gRoom (R rm : Room) (maxL : Nat) : Prop := rm.frames + 1 ≤ R.frames ∧ 8 + (maxL + 11) + rm.locals ≤ R.locals
theorem g_runV {Qc : Array Value → State → Outcome → State → Prop} (X : gX Z p s m c cc nL args Ts own) (hM : Met l y ws rm (gPc Z B C (.ref (B k i) :: As)) Qc mc ms (gA Z)) (cw : CallW R s args own Cn index y bytes maxL ret ws rm mc ms n) (hW : gw Z B C H) (hS : va_S (gA Z) s.heap H locs) (he : C k i = some (.inr (ci, fs))) (hc : vwCl[ci]? = some (Cn, T, N))
    (hn : As.length = n) (hl : ls.size = nL) (hst : st0 = As.reverse ++ .ref (B k i) :: rest) (hR : (rest.map fun v => v.category).sum ≤ 8) (hdg : decode cc pc = .ok (.invokevirtual index, 3)) (hf : cells + mc ≤ R.cells ∧ slots + ms ≤ R.slots) :
    va_Run p l e R s m args below meth c H locs cells slots mc ms (F0 m pc ls st0) rest (Qc (Value.ref (B k i) :: As).toArray) (gA Z) :=
  va_runV (As := As) (rest := rest) X.1 hM cw ⟨gPre.blind, g_recv X hW he hc, g_pre X hW hS⟩ rfl hn hl hst (lv_room hR) hdg hf
theorem g_runS {Qc : Array Value → State → Outcome → State → Prop} (X : gX Z p s m c cc nL args Ts own) (hM : Met l y ws rm (gPc Z B C As) Qc mc ms (gA Z)) (cw : CallB R s args own index y bytes maxL ret ws rm mc ms n ∧ (Cond.static y).before args s = true) (hW : gw Z B C H) (hS : va_S (gA Z) s.heap H locs)
    (hn : As.length = n) (hl : ls.size = nL) (hst : st0 = As.reverse ++ rest) (hR : (rest.map fun v => v.category).sum ≤ 8) (hdg : decode cc pc = .ok (.invokestatic index, 3)) (hf : cells + mc ≤ R.cells ∧ slots + ms ≤ R.slots) :
    va_Run p l e R s m args below meth c H locs cells slots mc ms (F0 m pc ls st0) rest (Qc As.toArray) (gA Z) :=
  va_runS (As := As) (rest := rest) X.1 hM cw ⟨gPre.blind, g_pre X hW hS⟩ rfl hn hl hst (lv_room hR) hdg hf
theorem g_runSN {Qc : Array Value → State → Outcome → State → Prop} (X : gX Z p s m c cc nL args Ts own) (hM : Met l y ws rm (gPc Z B C As) Qc mc ms (gA Z)) (cw : va_CN R s args own index y "ReviewBench" bytes maxL ret ws rm mc ms n ∧ (Cond.static y).before args s = true ∧ True) (hW : gw Z B C H) (hS : va_S (gA Z) s.heap H locs)
    (hn : As.length = n) (hl : ls.size = nL) (hst : st0 = As.reverse ++ rest) (hR : (rest.map fun v => v.category).sum ≤ 8) (hdg : decode cc pc = .ok (.invokestatic index, 3)) (hf : cells + mc ≤ R.cells ∧ slots + ms ≤ R.slots) :
    va_Run p l e R s m args below meth c H locs cells slots mc ms (F0 m pc ls st0) rest (Qc As.toArray) (gA Z) :=
  va_runSN (As := As) (rest := rest) X.1 hM cw ⟨gPre.blind, g_pre X hW hS⟩ rfl hn hl hst (lv_room hR) hdg hf
theorem g_runI {Qc : Array Value → State → Outcome → State → Prop} (X : gX Z p s m c cc nL args Ts own) (hM : Met l y ws rm (gPc Z B C (.ref (B k i) :: As)) Qc mc ms (gA Z)) (cw : CallB R s args own index y bytes maxL none ws rm mc ms n ∧ y.name = "<init>" ∧ (Cond.instanceMethod y).before args s = true) (hW : gw Z B C H) (hS : va_S (gA Z) s.heap H locs)
    (hn : As.length = n) (hl : ls.size = nL) (hst : st0 = As.reverse ++ .ref (B k i) :: rest) (hR : (rest.map fun v => v.category).sum ≤ 8) (hdg : decode cc pc = .ok (.invokespecial index, 3)) (hf : cells + mc ≤ R.cells ∧ slots + ms ≤ R.slots) :
    va_Run p l e R s m args below meth c H locs cells slots mc ms (F0 m pc ls st0) rest (Qc (Value.ref (B k i) :: As).toArray) (gA Z) :=
  va_runI (As := As) (rest := rest) X.1 hM cw ⟨gPre.blind, g_pre X hW hS⟩ rfl hn hl hst (lv_room hR) hdg hf
theorem g_runIN {Qc : Array Value → State → Outcome → State → Prop} (X : gX Z p s m c cc nL args Ts own) (hM : Met l y ws rm (gPc Z B C (.ref (B k i) :: As)) Qc mc ms (gA Z)) (cw : va_CN R s args own index y "ReviewBench" bytes maxL none ws rm mc ms n ∧ y.name = "<init>" ∧ (Cond.instanceMethod y).before args s = true) (hW : gw Z B C H) (hS : va_S (gA Z) s.heap H locs)
    (hn : As.length = n) (hl : ls.size = nL) (hst : st0 = As.reverse ++ .ref (B k i) :: rest) (hR : (rest.map fun v => v.category).sum ≤ 8) (hdg : decode cc pc = .ok (.invokespecial index, 3)) (hf : cells + mc ≤ R.cells ∧ slots + ms ≤ R.slots) :
    va_Run p l e R s m args below meth c H locs cells slots mc ms (F0 m pc ls st0) rest (Qc (Value.ref (B k i) :: As).toArray) (gA Z) :=
  va_runIN (As := As) (rest := rest) X.1 hM cw ⟨gPre.blind, g_pre X hW hS⟩ rfl hn hl hst (lv_room hR) hdg hf
theorem g_ci {post : Int32 → gC → Prop} {av : Array Value} (hr : va_Run p l e R s m args below meth c H locs cells slots mc ms (F0 m pc ls st0) rest (gQi Z B post av) (gA Z)) (hS : va_S (gA Z) s.heap H locs)
    (kk : ∀ (r : Int32) (C1 : gC) (H1 : Heap) (locs1 : List Loc), post r C1 → gw Z B C1 H1 → va_S (gA Z) s.heap H1 locs1 → W p l e R s m args below meth c H1 locs1 (cells + mc) (slots + ms) Q (F0 m (pc + 3) ls (.int r :: rest))) : W p l e R s m args below meth c H locs cells slots Q (F0 m pc ls st0) :=
  va_calli hr hS (fun _ _ h => h) (fun _ h => h) (fun r u t H1 locs1 ht hvm hp hB _ _ hS1 => kk r u H1 locs1 hp (by rw [← ht]; exact hB) hS1)
theorem g_cv {post : gC → Prop} {av : Array Value} (hr : va_Run p l e R s m args below meth c H locs cells slots mc ms (F0 m pc ls st0) rest (gQv Z B post av) (gA Z)) (hS : va_S (gA Z) s.heap H locs)
    (kk : ∀ (C1 : gC) (H1 : Heap) (locs1 : List Loc), post C1 → gw Z B C1 H1 → va_S (gA Z) s.heap H1 locs1 → W p l e R s m args below meth c H1 locs1 (cells + mc) (slots + ms) Q (F0 m (pc + 3) ls rest)) : W p l e R s m args below meth c H locs cells slots Q (F0 m pc ls st0) :=
  va_callv hr hS (fun _ _ h => h) (fun _ h => h) (fun u t H1 locs1 ht hvm hp hB _ _ hS1 => kk u H1 locs1 hp (by rw [← ht]; exact hB) hS1)
theorem g_cr {post : Nat → gC → Prop} {av : Array Value} (hr : va_Run p l e R s m args below meth c H locs cells slots mc ms (F0 m pc ls st0) rest (gQr Z B post av) (gA Z)) (hS : va_S (gA Z) s.heap H locs)
    (kk : ∀ (r : Nat) (C1 : gC) (H1 : Heap) (locs1 : List Loc), post r C1 → gw Z B C1 H1 → va_S (gA Z) s.heap H1 locs1 → W p l e R s m args below meth c H1 locs1 (cells + mc) (slots + ms) Q (F0 m (pc + 3) ls (.ref r :: rest))) : W p l e R s m args below meth c H locs cells slots Q (F0 m pc ls st0) :=
  va_callr hr hS (fun _ _ h => h) (fun _ h => h) (fun u r t H1 locs1 ht hvm hp hB _ _ hS1 => kk r u H1 locs1 hB.1 (by rw [← ht]; exact hB.2) hS1)
theorem g_cvB {post : gB → gC → Prop} {av : Array Value} (hr : va_Run p l e R s m args below meth c H locs cells slots mc ms (F0 m pc ls st0) rest (gQvB Z post av) (gA Z)) (hS : va_S (gA Z) s.heap H locs)
    (kk : ∀ (B1 : gB) (C1 : gC) (H1 : Heap) (locs1 : List Loc), post B1 C1 → gw Z B1 C1 H1 → va_S (gA Z) s.heap H1 locs1 → W p l e R s m args below meth c H1 locs1 (cells + mc) (slots + ms) Q (F0 m (pc + 3) ls rest)) : W p l e R s m args below meth c H locs cells slots Q (F0 m pc ls st0) :=
  va_callv hr hS (fun _ _ h => h) (fun _ h => h) (fun u t H1 locs1 ht hvm hp hB _ _ hS1 => kk u.1 u.2 H1 locs1 hp (by rw [← ht]; exact hB) hS1)
theorem g_ciB {post : Int32 → gB → gC → Prop} {av : Array Value} (hr : va_Run p l e R s m args below meth c H locs cells slots mc ms (F0 m pc ls st0) rest (gQiB Z post av) (gA Z)) (hS : va_S (gA Z) s.heap H locs)
    (kk : ∀ (r : Int32) (B1 : gB) (C1 : gC) (H1 : Heap) (locs1 : List Loc), post r B1 C1 → gw Z B1 C1 H1 → va_S (gA Z) s.heap H1 locs1 → W p l e R s m args below meth c H1 locs1 (cells + mc) (slots + ms) Q (F0 m (pc + 3) ls (.int r :: rest))) : W p l e R s m args below meth c H locs cells slots Q (F0 m pc ls st0) :=
  va_calli hr hS (fun _ _ h => h) (fun _ h => h) (fun r u t H1 locs1 ht hvm hp hB _ _ hS1 => kk r u.1 u.2 H1 locs1 hp (by rw [← ht]; exact hB) hS1)
/-! the same, of callees that may throw -/
theorem g_runVx {Qc : Array Value → State → Outcome → State → Prop} {XC : String → State → State → Prop} (X : gX Z p s m c cc nL args Ts own) (hM : vx_Met l y ws rm (gPc Z B C (.ref (B k i) :: As)) Qc XC mc ms (gA Z)) (cw : CallW R s args own Cn index y bytes maxL ret ws rm mc ms n) (hW : gw Z B C H) (hS : va_S (gA Z) s.heap H locs) (he : C k i = some (.inr (ci, fs))) (hc : vwCl[ci]? = some (Cn, T, N))
    (hn : As.length = n) (hl : ls.size = nL) (hst : st0 = As.reverse ++ .ref (B k i) :: rest) (hR : (rest.map fun v => v.category).sum ≤ 8) (hdg : decode cc pc = .ok (.invokevirtual index, 3)) (hf : cells + mc ≤ R.cells ∧ slots + ms ≤ R.slots) :
    vx_Run p l e R s m args below meth c H locs cells slots mc ms (F0 m pc ls st0) rest (Qc (Value.ref (B k i) :: As).toArray) XC (gA Z) :=
  vx_runV (As := As) (rest := rest) X.1 hM cw ⟨gPre.blind, g_recv X hW he hc, g_pre X hW hS⟩ rfl hn hl hst (lv_room hR) hdg hf
theorem g_runSx {Qc : Array Value → State → Outcome → State → Prop} {XC : String → State → State → Prop} (X : gX Z p s m c cc nL args Ts own) (hM : vx_Met l y ws rm (gPc Z B C As) Qc XC mc ms (gA Z)) (cw : CallB R s args own index y bytes maxL ret ws rm mc ms n ∧ (Cond.static y).before args s = true) (hW : gw Z B C H) (hS : va_S (gA Z) s.heap H locs)
    (hn : As.length = n) (hl : ls.size = nL) (hst : st0 = As.reverse ++ rest) (hR : (rest.map fun v => v.category).sum ≤ 8) (hdg : decode cc pc = .ok (.invokestatic index, 3)) (hf : cells + mc ≤ R.cells ∧ slots + ms ≤ R.slots) :
    vx_Run p l e R s m args below meth c H locs cells slots mc ms (F0 m pc ls st0) rest (Qc As.toArray) XC (gA Z) :=
  vx_runS (As := As) (rest := rest) X.1 hM cw ⟨gPre.blind, g_pre X hW hS⟩ rfl hn hl hst (lv_room hR) hdg hf
/-- a throw comes out of a callee -/
abbrev gKx (p : Program) (l : Launch) (e : Env) (R : Room) (s : State) (m : MethodId) (args : Array Value) (below : List Frame) (meth : Method) (c : Code) (cells slots : Nat) (Q : State → Prop) (Z : gZ) (B : gB) (pc : Nat) (ls : Array Slot) (rest : List Value) (px : String → gC → Prop) : Prop :=
  ∀ (E : String) (ce : Cell) (q9 : Addr) (C1 : gC) (H1 : Heap) (locs1 : List Loc), px E C1 → gw Z B C1 H1 → va_S (gA Z) s.heap H1 locs1 → H1[q9]? = some ce → ce.vm = .none → s.vm.findClass E = some ce.cls → vx_W p l e R s m args below meth c H1 locs1 cells slots Q (F0 m pc ls rest) q9
theorem g_cix {post : Int32 → gC → Prop} {px : String → gC → Prop} {av : Array Value} (hr : vx_Run p l e R s m args below meth c H locs cells slots mc ms (F0 m pc ls st0) rest (gQi Z B post av) (gXC Z B px) (gA Z)) (hS : va_S (gA Z) s.heap H locs)
    (kx : gKx p l e R s m args below meth c (cells + mc) (slots + ms) Q Z B pc ls rest px)
    (kk : ∀ (r : Int32) (C1 : gC) (H1 : Heap) (locs1 : List Loc), post r C1 → gw Z B C1 H1 → va_S (gA Z) s.heap H1 locs1 → W p l e R s m args below meth c H1 locs1 (cells + mc) (slots + ms) Q (F0 m (pc + 3) ls (.int r :: rest))) : W p l e R s m args below meth c H locs cells slots Q (F0 m pc ls st0) :=
  vx_calli hr hS (fun _ _ h => h) (fun _ h => h) (fun _ _ h => h) (fun E ce q9 u t H1 locs1 ht hvm _ hB _ _ hS1 h1 h2 h3 => kx E ce q9 u H1 locs1 hB.1 (by rw [← ht]; exact hB.2) hS1 h1 h2 h3) (fun r u t H1 locs1 ht hvm hp hB _ _ hS1 => kk r u H1 locs1 hp (by rw [← ht]; exact hB) hS1)
theorem g_cvx {post : gC → Prop} {px : String → gC → Prop} {av : Array Value} (hr : vx_Run p l e R s m args below meth c H locs cells slots mc ms (F0 m pc ls st0) rest (gQv Z B post av) (gXC Z B px) (gA Z)) (hS : va_S (gA Z) s.heap H locs)
    (kx : gKx p l e R s m args below meth c (cells + mc) (slots + ms) Q Z B pc ls rest px)
    (kk : ∀ (C1 : gC) (H1 : Heap) (locs1 : List Loc), post C1 → gw Z B C1 H1 → va_S (gA Z) s.heap H1 locs1 → W p l e R s m args below meth c H1 locs1 (cells + mc) (slots + ms) Q (F0 m (pc + 3) ls rest)) : W p l e R s m args below meth c H locs cells slots Q (F0 m pc ls st0) :=
  vx_callv hr hS (fun _ _ h => h) (fun _ h => h) (fun _ _ h => h) (fun E ce q9 u t H1 locs1 ht hvm _ hB _ _ hS1 h1 h2 h3 => kx E ce q9 u H1 locs1 hB.1 (by rw [← ht]; exact hB.2) hS1 h1 h2 h3) (fun u t H1 locs1 ht hvm hp hB _ _ hS1 => kk u H1 locs1 hp (by rw [← ht]; exact hB) hS1)
theorem g_crx {post : Nat → gC → Prop} {px : String → gC → Prop} {av : Array Value} (hr : vx_Run p l e R s m args below meth c H locs cells slots mc ms (F0 m pc ls st0) rest (gQr Z B post av) (gXC Z B px) (gA Z)) (hS : va_S (gA Z) s.heap H locs)
    (kx : gKx p l e R s m args below meth c (cells + mc) (slots + ms) Q Z B pc ls rest px)
    (kk : ∀ (r : Nat) (C1 : gC) (H1 : Heap) (locs1 : List Loc), post r C1 → gw Z B C1 H1 → va_S (gA Z) s.heap H1 locs1 → W p l e R s m args below meth c H1 locs1 (cells + mc) (slots + ms) Q (F0 m (pc + 3) ls (.ref r :: rest))) : W p l e R s m args below meth c H locs cells slots Q (F0 m pc ls st0) := by
  intro T hT X
  rcases hr T hT X with ⟨v, st₀, t, T', L, h0, X', hL, e1, e2, ⟨⟨u, r, hv, -, hb⟩, hF⟩, st⟩ | ⟨q, st₀, t, T', L, E, ce, h0, X', hL, e1, e2, ⟨u, hp, hb, hF⟩, hce, hcv, hcl, st⟩
  · cases hv
    obtain ⟨k1, k2, k3⟩ := vx_keep h0 e1 hS (fun _ _ h => h) (fun _ h => h) hL hF
    obtain ⟨t2, a1, b1⟩ := kk r u T'.heap (locs ++ L) hb.1 (by rw [e1]; exact hb.2) k3 T' rfl X'
    exact ⟨t2, st t2 a1, b1⟩
  · obtain ⟨k1, k2, k3⟩ := vx_keep h0 e1 hS (fun _ _ h => h) (fun _ h => h) hL hF
    obtain ⟨t2, a1, b1⟩ := kx E ce q u T'.heap (locs ++ L) hb.1 (by rw [e1]; exact hb.2) k3 (by rw [e1]; exact hce) hcv hcl T' rfl X'
    exact ⟨t2, st.trans a1, b1⟩
theorem g_ciBx {post : Int32 → gB → gC → Prop} {px : String → gC → Prop} {av : Array Value} (hr : vx_Run p l e R s m args below meth c H locs cells slots mc ms (F0 m pc ls st0) rest (gQiB Z post av) (gXC Z B px) (gA Z)) (hS : va_S (gA Z) s.heap H locs)
    (kx : gKx p l e R s m args below meth c (cells + mc) (slots + ms) Q Z B pc ls rest px)
    (kk : ∀ (r : Int32) (B1 : gB) (C1 : gC) (H1 : Heap) (locs1 : List Loc), post r B1 C1 → gw Z B1 C1 H1 → va_S (gA Z) s.heap H1 locs1 → W p l e R s m args below meth c H1 locs1 (cells + mc) (slots + ms) Q (F0 m (pc + 3) ls (.int r :: rest))) : W p l e R s m args below meth c H locs cells slots Q (F0 m pc ls st0) :=
  vx_calli hr hS (fun _ _ h => h) (fun _ h => h) (fun _ _ h => h) (fun E ce q9 u t H1 locs1 ht hvm _ hB _ _ hS1 h1 h2 h3 => kx E ce q9 u H1 locs1 hB.1 (by rw [← ht]; exact hB.2) hS1 h1 h2 h3) (fun r u t H1 locs1 ht hvm hp hB _ _ hS1 => kk r u.1 u.2 H1 locs1 hp (by rw [← ht]; exact hB) hS1)
end GC
