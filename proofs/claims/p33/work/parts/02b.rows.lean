/-! ROWS OVER THE WORLD BY KINDS -/
section GR
variable {p : Program} {l : Launch} {e : Env} {R : Room} {s : State} {m : MethodId} {args : Array Value} {below : List Frame} {meth : Method} {c : Code} {H : Heap} {locs : List Loc} {cells slots : Nat} {Q : State → Prop}
variable {cc : ByteArray} {pc nL : Nat} {ls : Array Slot} {rest st0 : List Value} {Z : gZ} {B : gB} {C : gC} {Ts : List Cond} {own : String} {k i : Nat}
theorem g_get {Cn : String} {T : u_T} {N ci index : Nat} {fs : List Value} {v : Value} (X : gX Z p s m c cc nL args Ts own) (hin : ∀ w ∈ u_ws Cn T N, w ∈ Ts) (hc : vwCl[ci]? = some (Cn, T, N)) (hW : gw Z B C H) (he : C k i = some (.inr (ci, fs))) (j : Nat) (hj : j < N)
    (hlink : (Cond.fieldLink own index (T j).1 (T j).2.1 (T j).2.2.1).before args s = true) (hv : fs[j]? = some v) (hdg : decode cc pc = .ok (.getfield index, 3))
    (kk : W p l e R s m args below meth c H locs cells slots Q (F0 m (pc + 3) ls (v :: rest))) : W p l e R s m args below meth c H locs cells slots Q (F0 m pc ls (.ref (B k i) :: rest)) :=
  va_get X.1.1 X.1.2.1 X.1.2.2.2.2 hin X.1.2.2.2.1 X.2.1 (hW.P he) 0 rfl hc j hj hlink (fun _ h9 => h9) hv hdg kk
theorem g_getN {Cn : String} {T : u_T} {N ci index : Nat} {fs : List Value} {v : Value} (X : gX Z p s m c cc nL args Ts own) (hin : ∀ w ∈ u_ws Cn T N, w ∈ Ts) (hc : vwCl[ci]? = some (Cn, T, N)) (hW : gw Z B C H) (he : C k i = some (.inr (ci, fs))) (j : Nat) (hj : j < N)
    (q : String × Nat × String × String × String) (hq : q ∈ gNF) (hqe : q = (own, index, (T j).1, (T j).2.1, (T j).2.2.1)) (hv : fs[j]? = some v) (hdg : decode cc pc = .ok (.getfield index, 3))
    (kk : W p l e R s m args below meth c H locs cells slots Q (F0 m (pc + 3) ls (v :: rest))) : W p l e R s m args below meth c H locs cells slots Q (F0 m pc ls (.ref (B k i) :: rest)) := by
  have h1 := X.2.2.1.1 q hq
  subst hqe
  exact va_getN X.1.1 X.1.2.1 X.1.2.2.2.2 hin X.1.2.2.2.1 X.2.1 (hW.P he) 0 rfl hc j hj (va_Nw.use rfl h1) (fun _ h9 => h9) hv hdg kk
theorem g_set {ws ws' : va_W} {A : Nat → Prop} {H0 : Heap} {locs1 : List Loc} (h : va_S A H0 H locs1) : H0.size ≤ H.size := h.1
/-- a final store of an object's field, plainly: what the machine's own row gives -/
theorem g_put {Cn : String} {T : u_T} {N ci index : Nat} {fs : List Value} {v : Value} {ty : FieldType} (X : gX Z p s m c cc nL args Ts own) (hin : ∀ w ∈ u_ws Cn T N, w ∈ Ts) (ty0 : Nat → FieldType) (hty : ∀ a, a < N → parseFieldDescriptor (T a).2.2.1 = some (ty0 a)) (hnm : ∀ a, a < N → ∀ b, b < N → a ≠ b → (T a).2.1 ≠ (T b).2.1)
    (hc : vwCl[ci]? = some (Cn, T, N)) (hW : gw Z B C H) (hS0 : va_S (gA Z) s.heap H locs) (he : C k i = some (.inr (ci, fs))) (j : Nat) (hj : j < N)
    (hlink : (Cond.fieldLink own index (T j).1 (T j).2.1 (T j).2.2.1).before args s = true) (hfin : (T j).2.2.2 = false) (hd : parseFieldDescriptor (T j).2.2.1 = some ty) (hn : narrow ty v = v) (hfit : fits ty v = true) (hl : j < fs.length) (hdg : decode cc pc = .ok (.putfield index, 3))
    (kk : ∀ (C1 : gC) (H1 : Heap) (locs1 : List Loc), C1 k i = some (.inr (ci, fs.set j v)) → (∀ k' i', ¬ (k' = k ∧ i' = i) → C1 k' i' = C k' i') → gw Z B C1 H1 → va_S (gA Z) s.heap H1 locs1 → W p l e R s m args below meth c H1 locs1 cells slots Q (F0 m (pc + 3) ls rest)) :
    W p l e R s m args below meth c H locs cells slots Q (F0 m pc ls (v :: .ref (B k i) :: rest)) := by
  obtain ⟨⟨hexec, hb, hml, hown, hts⟩, hK, -, -⟩ := X
  have hap := va_apart (own := own) hts hin ty0 hty hnm hK hc
  obtain ⟨hbz, hat, -⟩ := id (hW k i _ he)
  obtain ⟨r, h1, cell, q1, q2, q3, q4⟩ := hat
  have hr : r = (Cn, T, N) := Option.some.inj (h1.symm.trans hc)
  subst hr
  obtain ⟨hS, hfc, kC, hkC, hkind⟩ := hK.1 ci _ hc
  obtain ⟨cf, kf, fi, f, hi, hsl⟩ := hS j hj
  have hlay := hts _ (hin _ (u_in_lay hj))
  unfold u_lay at hlay
  rw [if_neg (by rw [hfin]; decide)] at hlay
  have hst := (u_facts hfc hkC (u_lays hts hin hj) hi).1
  have h6 := u_store hfc hkC hkind hlay hi hd hn hfit
  refine W.putK hexec hb (f := f) ⟨hown, hlink, ⟨_, _, _, hi⟩, hst⟩ (by rw [q2]; exact h6) q1 q3 (by rw [hsl]; exact k2_hasslot (q4 j hj)) rfl rfl hdg fun H' e1 e2 e3 => ?_
  rw [hsl] at e1 ⊢
  exact kk (gu C k i (.inr (ci, fs.set j v))) H' _ gu_s (fun k' i' h => gu_n k' i' h)
    (hW.write he gu_s (fun k' i' h => gu_n k' i' h) ⟨_, hc, t_OB.to (V := updV (vp_V fs) j v) ⟨_, e1, q2, q3, t_set q4 hap hj v⟩ (fun a _ => vp_updV_set hl v a)⟩ e3) (hS0.put e2 e3 hbz)
theorem g_putN {Cn : String} {T : u_T} {N ci index : Nat} {fs : List Value} {v : Value} {ty : FieldType} (X : gX Z p s m c cc nL args Ts own) (hin : ∀ w ∈ u_ws Cn T N, w ∈ Ts) (ty0 : Nat → FieldType) (hty : ∀ a, a < N → parseFieldDescriptor (T a).2.2.1 = some (ty0 a)) (hnm : ∀ a, a < N → ∀ b, b < N → a ≠ b → (T a).2.1 ≠ (T b).2.1)
    (hc : vwCl[ci]? = some (Cn, T, N)) (hW : gw Z B C H) (hS0 : va_S (gA Z) s.heap H locs) (he : C k i = some (.inr (ci, fs))) (j : Nat) (hj : j < N)
    (q : String × Nat × String × String × String) (hq : q ∈ gNF) (hqe : q = (own, index, (T j).1, (T j).2.1, (T j).2.2.1)) (hfin : (T j).2.2.2 = false) (hd : parseFieldDescriptor (T j).2.2.1 = some ty) (hn : narrow ty v = v) (hfit : fits ty v = true) (hl : j < fs.length) (hdg : decode cc pc = .ok (.putfield index, 3))
    (kk : ∀ (C1 : gC) (H1 : Heap) (locs1 : List Loc), C1 k i = some (.inr (ci, fs.set j v)) → (∀ k' i', ¬ (k' = k ∧ i' = i) → C1 k' i' = C k' i') → gw Z B C1 H1 → va_S (gA Z) s.heap H1 locs1 → W p l e R s m args below meth c H1 locs1 cells slots Q (F0 m (pc + 3) ls rest)) :
    W p l e R s m args below meth c H locs cells slots Q (F0 m pc ls (v :: .ref (B k i) :: rest)) := by
  have hlink0 := X.2.2.1.1 q hq
  subst hqe
  have hlink := va_Nw.use (A := args) rfl hlink0
  obtain ⟨⟨hexec, hb, hml, hown, hts⟩, hK, -, -⟩ := X
  have hap := va_apart (own := own) hts hin ty0 hty hnm hK hc
  obtain ⟨hbz, hat, -⟩ := id (hW k i _ he)
  obtain ⟨r, h1, cell, q1, q2, q3, q4⟩ := hat
  have hr : r = (Cn, T, N) := Option.some.inj (h1.symm.trans hc)
  subst hr
  obtain ⟨hS, hfc, kC, hkC, hkind⟩ := hK.1 ci _ hc
  obtain ⟨cf, kf, fi, f, hi, hsl⟩ := hS j hj
  have hlay := hts _ (hin _ (u_in_lay hj))
  unfold u_lay at hlay
  rw [if_neg (by rw [hfin]; decide)] at hlay
  have hst := (u_facts hfc hkC (u_lays hts hin hj) hi).1
  have h6 := u_store hfc hkC hkind hlay hi hd hn hfit
  refine va_WputK hexec hb (f := f) hown hlink hi hst (by rw [q2]; exact h6) q1 q3 (by rw [hsl]; exact k2_hasslot (q4 j hj)) rfl rfl hdg fun H' e1 e2 e3 => ?_
  rw [hsl] at e1 ⊢
  exact kk (gu C k i (.inr (ci, fs.set j v))) H' _ gu_s (fun k' i' h => gu_n k' i' h)
    (hW.write he gu_s (fun k' i' h => gu_n k' i' h) ⟨_, hc, t_OB.to (V := updV (vp_V fs) j v) ⟨_, e1, q2, q3, t_set q4 hap hj v⟩ (fun a _ => vp_updV_set hl v a)⟩ e3) (hS0.put e2 e3 hbz)
/-- a final field, in its constructor -/
theorem g_putF {Cn : String} {T : u_T} {N ci index : Nat} {fs : List Value} {v : Value} {ty : FieldType} (X : gX Z p s m c cc nL args Ts own) (hin : ∀ w ∈ u_ws Cn T N, w ∈ Ts) (ty0 : Nat → FieldType) (hty : ∀ a, a < N → parseFieldDescriptor (T a).2.2.1 = some (ty0 a)) (hnm : ∀ a, a < N → ∀ b, b < N → a ≠ b → (T a).2.1 ≠ (T b).2.1)
    (hc : vwCl[ci]? = some (Cn, T, N)) (hW : gw Z B C H) (hS0 : va_S (gA Z) s.heap H locs) (he : C k i = some (.inr (ci, fs))) (j : Nat) (hj : j < N)
    (hlink : (Cond.fieldLink own index (T j).1 (T j).2.1 (T j).2.2.1).before args s = true) (hfin : (T j).2.2.2 = true) (hin2 : meth.name = "<init>") (hdecl : (T j).1 = own) (hd : parseFieldDescriptor (T j).2.2.1 = some ty) (hn : narrow ty v = v) (hfit : fits ty v = true) (hl : j < fs.length) (hdg : decode cc pc = .ok (.putfield index, 3))
    (kk : ∀ (C1 : gC) (H1 : Heap) (locs1 : List Loc), C1 k i = some (.inr (ci, fs.set j v)) → (∀ k' i', ¬ (k' = k ∧ i' = i) → C1 k' i' = C k' i') → gw Z B C1 H1 → va_S (gA Z) s.heap H1 locs1 → W p l e R s m args below meth c H1 locs1 cells slots Q (F0 m (pc + 3) ls rest)) :
    W p l e R s m args below meth c H locs cells slots Q (F0 m pc ls (v :: .ref (B k i) :: rest)) := by
  obtain ⟨⟨hexec, hb, hml, hown, hts⟩, hK, -, -⟩ := X
  have hap := va_apart (own := own) hts hin ty0 hty hnm hK hc
  obtain ⟨hbz, hat, -⟩ := id (hW k i _ he)
  obtain ⟨r, h1, cell, q1, q2, q3, q4⟩ := hat
  have hr : r = (Cn, T, N) := Option.some.inj (h1.symm.trans hc)
  subst hr
  obtain ⟨hS, hfc, kC, hkC, hkind⟩ := hK.1 ci _ hc
  obtain ⟨cf, kf, fi, f, hi, hsl⟩ := hS j hj
  have hlay := hts _ (hin _ (u_in_lay hj))
  unfold u_lay at hlay
  rw [if_pos hfin] at hlay
  have hst := (u_facts hfc hkC (u_lays hts hin hj) hi).1
  have hcf : m.cls = cf := by
    obtain ⟨_, _, c', _, _, _, -, -, hf', -, -, -, hown2, -⟩ := Cond.laysFinal_spec hlay
    have e1 : c' = cf := by have := hi.symm.trans hf'; simp at this; exact this.1.symm
    rw [hdecl] at hown2
    rw [← e1]; exact Option.some.inj (hown.symm.trans hown2)
  have h6 := u_fits hfc hkC hkind (Or.inr hlay) hi hd hn hfit
  refine W.putFinK hexec hb hown hlink hi hst hcf hin2 (by rw [q2]; exact h6) q1 q3 (by rw [hsl]; exact k2_hasslot (q4 j hj)) rfl rfl hdg fun H' e1 e2 e3 => ?_
  rw [hsl] at e1 ⊢
  exact kk (gu C k i (.inr (ci, fs.set j v))) H' _ gu_s (fun k' i' h => gu_n k' i' h)
    (hW.write he gu_s (fun k' i' h => gu_n k' i' h) ⟨_, hc, t_OB.to (V := updV (vp_V fs) j v) ⟨_, e1, q2, q3, t_set q4 hap hj v⟩ (fun a _ => vp_updV_set hl v a)⟩ e3) (hS0.put e2 e3 hbz)
theorem g_iald {n : Nat} {f : Nat → Int32} {x : Int32} (X : gX Z p s m c cc nL args Ts own) (hW : gw Z B C H) (he : C k i = some (gI Z n f)) (hx : vp_in x n) (hdg : decode cc pc = .ok (.iaload, 1))
    (kk : W p l e R s m args below meth c H locs cells slots Q (F0 m (pc + 1) ls (.int (f x.toNatClampNeg) :: rest))) : W p l e R s m args below meth c H locs cells slots Q (F0 m pc ls (.int x :: .ref (B k i) :: rest)) :=
  va_iald X.1.1 X.1.2.1 X.2.1 (hW.P he) 0 0 rfl rfl hx hdg kk
theorem g_aald {t n : Nat} {f : Nat → Option Nat} {x : Int32} {Cn : String} (X : gX Z p s m c cc nL args Ts own) (hW : gw Z B C H) (he : C k i = some (gR Z t n f)) (ht : (gT Z)[t]? = some (Z.2.1 t, .object Cn)) (hx : vp_in x n) (hdg : decode cc pc = .ok (.aaload, 1))
    (kk : W p l e R s m args below meth c H locs cells slots Q (F0 m (pc + 1) ls (va_rf (f x.toNatClampNeg) :: rest))) : W p l e R s m args below meth c H locs cells slots Q (F0 m pc ls (.int x :: .ref (B k i) :: rest)) :=
  va_aldq X.1.1 X.1.2.1 X.2.1 (hW.P he) 0 t rfl ht hx hdg kk
theorem g_alen {t n : Nat} {y : (Nat → Int32) ⊕ (Nat → Int64) ⊕ (Nat → UInt32) ⊕ (Nat → UInt64) ⊕ (Nat → Option Nat)} {ty : FieldType} (X : gX Z p s m c cc nL args Ts own) (hW : gw Z B C H) (he : C k i = some (.inl (Z.2.1 t, n, y))) (ht : (gT Z)[t]? = some (Z.2.1 t, ty)) (hdg : decode cc pc = .ok (.arraylength, 1))
    (kk : W p l e R s m args below meth c H locs cells slots Q (F0 m (pc + 1) ls (.int (nI n) :: rest))) : W p l e R s m args below meth c H locs cells slots Q (F0 m pc ls (.ref (B k i) :: rest)) :=
  va_alen X.1.1 X.1.2.1 X.2.1 (hW.P he) 0 t rfl ht rfl hdg kk
theorem g_iast {n : Nat} {f : Nat → Int32} {x y : Int32} (X : gX Z p s m c cc nL args Ts own) (hW : gw Z B C H) (hS0 : va_S (gA Z) s.heap H locs) (he : C k i = some (gI Z n f)) (hx : vp_in x n) (hdg : decode cc pc = .ok (.iastore, 1))
    (kk : ∀ (C1 : gC) (H1 : Heap) (locs1 : List Loc), C1 k i = some (gI Z n (upd f x.toNatClampNeg y)) → (∀ k' i', ¬ (k' = k ∧ i' = i) → C1 k' i' = C k' i') → gw Z B C1 H1 → va_S (gA Z) s.heap H1 locs1 → W p l e R s m args below meth c H1 locs1 cells slots Q (F0 m (pc + 1) ls rest)) :
    W p l e R s m args below meth c H locs cells slots Q (F0 m pc ls (.int y :: .int x :: .ref (B k i) :: rest)) := by
  have hat := (hW k i _ he).2.1
  refine W.iast X.1.1 X.1.2.1 hat ((X.2.1.2 0 _ rfl).1 n (fun j => .int (f j))) (fun q => by cases q) (by show ¬ (x < 0 ∨ (arrV _ _ _).slots.size ≤ _); rw [arrV_size]; exact hx) rfl rfl hdg fun H1 e1 z oq => ?_
  refine kk (gu C k i (gI Z n (upd f x.toNatClampNeg y))) H1 _ gu_s (fun k' i' h => gu_n k' i' h) (hW.write he gu_s (fun k' i' h => gu_n k' i' h) ?_ oq) (hS0.put z oq (hW k i _ he).1)
  show H1[B k i]? = some (vp_cell _ _)
  rw [e1]
  rw [vp_cell_i, vp_cell_i, arrV_store]
  congr 2
  funext q
  by_cases hq : q = x.toNatClampNeg
  · subst hq
    simp [updV, upd]
  · simp [updV, upd, hq]
/-- an object into an array of references -/
theorem g_aast {t n ci k2 i2 : Nat} {f : Nat → Option Nat} {x : Int32} {r : vw_C} {vs : List Value} (X : gX Z p s m c cc nL args Ts own) (hW : gw Z B C H) (hS0 : va_S (gA Z) s.heap H locs) (he : C k i = some (gR Z t n f)) (ht : (gT Z)[t]? = some (Z.2.1 t, .object r.1)) (hv : C k2 i2 = some (.inr (ci, vs))) (hc : vwCl[ci]? = some r) (hx : vp_in x n) (hdg : decode cc pc = .ok (.aastore, 1))
    (kk : ∀ (C1 : gC) (H1 : Heap) (locs1 : List Loc), C1 k i = some (gR Z t n (va_up f x.toNatClampNeg (some (B k2 i2)))) → (∀ k' i', ¬ (k' = k ∧ i' = i) → C1 k' i' = C k' i') → gw Z B C1 H1 → va_S (gA Z) s.heap H1 locs1 → W p l e R s m args below meth c H1 locs1 cells slots Q (F0 m (pc + 1) ls rest)) :
    W p l e R s m args below meth c H locs cells slots Q (F0 m pc ls (.ref (B k2 i2) :: .int x :: .ref (B k i) :: rest)) := by
  have hlt : x.toNatClampNeg < n := Nat.not_le.mp fun q => hx (Or.inr q)
  have h0 : ¬ x < 0 := fun q => hx (Or.inl q)
  obtain ⟨r', hr', cellV, g1, g2, g3, -⟩ := (hW k2 i2 _ hv).2.1
  have hcls := (X.2.1.1 ci r hc).2
  obtain ⟨kA, comp, k1, k2', k3, -⟩ := (X.2.1.2 t _ ht).2
  have hcomp : comp = Z.1.1 ci := Option.some.inj (k3.symm.trans hcls.1)
  subst hcomp
  obtain ⟨kC, hkC, -⟩ := hcls.2
  refine W.aast X.1.1 X.1.2.1 (hW k i _ he).2.1 (fun q h => by cases h) (fun h => by cases h) k1 k2' rfl hkC ⟨h0, by show _ < (arrV _ _ _).slots.size; rw [arrV_size]; exact hlt⟩ g1 (fun q h => by rw [g3] at h; cases h) (by rw [g2]; exact hkC) (by rw [g2]; exact va_assign hcls) rfl rfl hdg fun H1 e1 z oq => ?_
  refine kk (gu C k i (gR Z t n (va_up f x.toNatClampNeg (some (B k2 i2))))) H1 _ gu_s (fun k' i' h => gu_n k' i' h) (hW.write he gu_s (fun k' i' h => gu_n k' i' h) ?_ oq) (hS0.put z oq (hW k i _ he).1)
  show H1[B k i]? = some (vp_cell _ _)
  rw [e1]
  rw [vp_cell_q, vp_cell_q, arrV_store]
  congr 2
  funext q
  by_cases hq : q = x.toNatClampNeg
  · subst hq
    simp [updV, va_up, va_rf]
  · simp [updV, va_up, hq]
/-- a new object, at kind k, index i -/
theorem g_new {Cn : String} {T : u_T} {N ci index : Nat} {fs : List Value} (k i : Nat) (X : gX Z p s m c cc nL args Ts own) (hin : ∀ w ∈ u_ws Cn T N, w ∈ Ts) (ty : Nat → FieldType) (hty : ∀ a, a < N → parseFieldDescriptor (T a).2.2.1 = some (ty a)) (hcl : (Cond.classLink own index Cn).before args s = true) (hinst : (Cond.instantiable Cn N).before args s = true) (hini : (Cond.initialized Cn).before args s = true)
    (hc : vwCl[ci]? = some (Cn, T, N)) (hW : gw Z B C H) (hS0 : va_S (gA Z) s.heap H locs) (hno : C k i = none) (hfs : ∀ j, j < N → defaultValue (ty j) = vp_V fs j) (hcells : cells + 1 ≤ R.cells) (hslots : slots + N ≤ R.slots) (hdg : decode cc pc = .ok (.new index, 3))
    (kk : ∀ (a : Nat) (B1 : gB) (C1 : gC) (H1 : Heap), B1 k i = a → (∀ k' i', ¬ (k' = k ∧ i' = i) → B1 k' i' = B k' i') → C1 k i = some (.inr (ci, fs)) → (∀ k' i', ¬ (k' = k ∧ i' = i) → C1 k' i' = C k' i') → gw Z B1 C1 H1 → va_S (gA Z) s.heap H1 locs →
      W p l e R s m args below meth c H1 locs (cells + 1) (slots + N) Q (F0 m (pc + 3) ls (.ref a :: rest))) : W p l e R s m args below meth c H locs cells slots Q (F0 m pc ls rest) := by
  obtain ⟨⟨hexec, hb, hml, hown, hts⟩, hK, hN, hz⟩ := X
  have hKn := hK.1 ci _ hc
  refine W.newcK hexec hb hown hcl hinst hini rfl hdg hcells hslots hKn.2.1 rfl fun H1 kC hkC e1 z1 o1 => ?_
  refine kk H.size (gub B k i H.size) (gu C k i (.inr (ci, fs))) H1 gub_s (fun k' i' h => gub_n k' i' h) gu_s (fun k' i' h => gu_n k' i' h)
    (hW.new (Nat.le_trans hz hS0.1) hno gub_s (fun k' i' h => gub_n k' i' h) gu_s (fun k' i' h => gu_n k' i' h) ⟨_, hc, (u_born ty hts hin hKn hkC e1 hty).to hfs⟩ o1)
    ⟨Nat.le_trans hS0.1 (by omega), fun x h1 h2 => (o1 x (Nat.lt_of_lt_of_le h1 hS0.1)).trans (hS0.2.1 x h1 h2), hS0.2.2⟩
/-- a new row of ints -/
theorem g_newI {n : Int32} {N : Nat} (k i : Nat) (X : gX Z p s m c cc nL args Ts own) (harr : (Cond.arrayClass .int).before args s = true) (hW : gw Z B C H) (hS0 : va_S (gA Z) s.heap H locs) (hno : C k i = none) (hn : ¬ n < 0) (hN : n.toNatClampNeg = N) (hby : N * 4 ≤ 536870912) (hcells : cells + 1 ≤ R.cells) (hslots : slots + N ≤ R.slots) (hdg : decode cc pc = .ok (.newarray .int, 2))
    (kk : ∀ (a : Nat) (B1 : gB) (C1 : gC) (H1 : Heap), B1 k i = a → (∀ k' i', ¬ (k' = k ∧ i' = i) → B1 k' i' = B k' i') → C1 k i = some (gI Z N (fun _ => 0)) → (∀ k' i', ¬ (k' = k ∧ i' = i) → C1 k' i' = C k' i') → gw Z B1 C1 H1 → va_S (gA Z) s.heap H1 locs →
      W p l e R s m args below meth c H1 locs (cells + 1) (slots + N) Q (F0 m (pc + 2) ls (.ref a :: rest))) : W p l e R s m args below meth c H locs cells slots Q (F0 m pc ls (.int n :: rest)) := by
  obtain ⟨⟨hexec, hb, hml, hown, hts⟩, hK, hN', hz⟩ := X
  refine va_newaK hexec hb (atype := .int) harr rfl hdg rfl hn hN hby hcells hslots rfl fun H1 cA e1 z1 o1 hAr hNm => ?_
  have hcA : cA = Z.2.1 0 := by
    have h9 : s.vm.findClass ("[" ++ FieldType.int.toString) = some (Z.2.1 0) := (hK.2 0 _ rfl).2
    exact Option.some.inj (hNm.symm.trans h9)
  subst hcA
  refine kk H.size (gub B k i H.size) (gu C k i (gI Z N (fun _ => 0))) H1 gub_s (fun k' i' h => gub_n k' i' h) gu_s (fun k' i' h => gu_n k' i' h)
    (hW.new (Nat.le_trans hz hS0.1) hno gub_s (fun k' i' h => gub_n k' i' h) gu_s (fun k' i' h => gu_n k' i' h) ?_ o1)
    ⟨Nat.le_trans hS0.1 (by omega), fun x h1 h2 => (o1 x (Nat.lt_of_lt_of_le h1 hS0.1)).trans (hS0.2.1 x h1 h2), hS0.2.2⟩
  show H1[H.size]? = some (vp_cell _ _)
  rw [e1]
  rfl
/-- a new row of references -/
theorem g_newR {n : Int32} {N t index : Nat} {Cn : String} (k i : Nat) (X : gX Z p s m c cc nL args Ts own) (hclink : (Cond.classLink own index Cn).before args s = true) (hover : Cn ∈ gAO) (ht : (gT Z)[t]? = some (Z.2.1 t, .object Cn)) (hW : gw Z B C H) (hS0 : va_S (gA Z) s.heap H locs) (hno : C k i = none) (hn : ¬ n < 0) (hN : n.toNatClampNeg = N) (hby : N * 4 ≤ 536870912) (hcells : cells + 1 ≤ R.cells) (hslots : slots + N ≤ R.slots) (hdg : decode cc pc = .ok (.anewarray index, 3))
    (kk : ∀ (a : Nat) (B1 : gB) (C1 : gC) (H1 : Heap), B1 k i = a → (∀ k' i', ¬ (k' = k ∧ i' = i) → B1 k' i' = B k' i') → C1 k i = some (gR Z t N (fun _ => none)) → (∀ k' i', ¬ (k' = k ∧ i' = i) → C1 k' i' = C k' i') → gw Z B1 C1 H1 → va_S (gA Z) s.heap H1 locs →
      W p l e R s m args below meth c H1 locs (cells + 1) (slots + N) Q (F0 m (pc + 3) ls (.ref a :: rest))) : W p l e R s m args below meth c H locs cells slots Q (F0 m pc ls (.int n :: rest)) := by
  subst hN
  obtain ⟨⟨hexec, hb, hml, hown, hts⟩, hK, hN', hz⟩ := X
  refine W.anew hexec hb hown hclink (va_AO.use (hN'.2.2.2.2.1 Cn hover)) rfl hdg rfl hn hby hcells hslots fun cA kA comp f1 f2 f3 f4 => ?_
  have hcA : cA = Z.2.1 t := by
    obtain ⟨_, _, -, -, -, h9⟩ := (hK.2 t _ ht).2
    exact Option.some.inj (f1.symm.trans h9)
  subst hcA
  generalize hH1 : H.push ({ cls := Z.2.1 t, slots := Array.replicate n.toNatClampNeg .null, vm := .none } : Cell) = H1
  have z1 : H1.size = H.size + 1 := by rw [← hH1, Array.size_push]
  have e1 : H1[H.size]? = some (arrV (Z.2.1 t) n.toNatClampNeg (fun _ => .null)) := by rw [← hH1, Array.getElem?_push_size, ← arrV_new]
  have o1 : ∀ q : Nat, q < H.size → H1[q]? = H[q]? := fun q hq => by rw [← hH1, Array.getElem?_push, if_neg (Nat.ne_of_lt hq)]
  refine kk H.size (gub B k i H.size) (gu C k i (gR Z t n.toNatClampNeg (fun _ => none))) H1 gub_s (fun k' i' h => gub_n k' i' h) gu_s (fun k' i' h => gu_n k' i' h)
    (hW.new (Nat.le_trans hz hS0.1) hno gub_s (fun k' i' h => gub_n k' i' h) gu_s (fun k' i' h => gu_n k' i' h) ?_ o1)
    ⟨Nat.le_trans hS0.1 (by omega), fun x h1 h2 => (o1 x (Nat.lt_of_lt_of_le h1 hS0.1)).trans (hS0.2.1 x h1 h2), hS0.2.2⟩
  show H1[H.size]? = some (vp_cell _ _)
  rw [vp_cell_q]
  exact e1
end GR
