/-! WHOLE NUMBERS: an int by its number -/
def zI (z : Int) : Int32 := Int32.ofInt z
abbrev zr (z : Int) : Prop := -2147483648 ≤ z ∧ z < 2147483648
theorem zI_toInt {z : Int} (h : zr z) : (zI z).toInt = z := by
  unfold zI
  rw [Int32.toInt_ofInt]
  have hs : ((Int32.size : Nat) : Int) = 4294967296 := rfl
  exact Int.bmod_eq_of_le (by have := h.1; omega) (by have := h.2; omega)
theorem zI_of (x : Int32) : zI x.toInt = x := by
  unfold zI
  exact Int32.ofInt_toInt x
theorem zr_of (x : Int32) : zr x.toInt := ⟨by have := Int32.le_toInt x; omega, by have := Int32.toInt_lt x; omega⟩
theorem zI_add (a b : Int) : zI a + zI b = zI (a + b) := (Int32.ofInt_add a b).symm
theorem zI_sub (a b : Int) : zI a - zI b = zI (a - b) := (Int32.ofInt_sub a b).symm
theorem zI_mul (a b : Int) : zI a * zI b = zI (a * b) := (Int32.ofInt_mul a b).symm
theorem zI_neg (a : Int) : -zI a = zI (-a) := (Int32.ofInt_neg a).symm
theorem zI_nat (n : Nat) : nI n = zI (n : Int) := by
  apply Int32.toBitVec_inj.mp
  unfold nI zI
  simp
theorem zI_lt {a b : Int} (ha : zr a) (hb : zr b) : zI a < zI b ↔ a < b := by rw [Int32.lt_iff_toInt_lt, zI_toInt ha, zI_toInt hb]
theorem zI_le {a b : Int} (ha : zr a) (hb : zr b) : zI a ≤ zI b ↔ a ≤ b := by rw [Int32.le_iff_toInt_le, zI_toInt ha, zI_toInt hb]
theorem zI_eq {a b : Int} (ha : zr a) (hb : zr b) : zI a = zI b ↔ a = b := by rw [← Int32.toInt_inj, zI_toInt ha, zI_toInt hb]
theorem zI_0 : zI 0 = 0 := rfl
theorem zI_in {a : Int} {n : Nat} (h0 : 0 ≤ a) (h1 : a < n) (hn : (n : Int) < 2147483648) : vp_in (zI a) n := by
  rw [vp_in_iff, zI_toInt ⟨by omega, by omega⟩]
  exact ⟨h0, h1⟩
theorem zI_cl {a : Int} (h0 : 0 ≤ a) (h1 : a < 2147483648) : (zI a).toNatClampNeg = a.toNat := by
  have h := zI_toInt (z := a) ⟨by omega, h1⟩
  unfold Int32.toNatClampNeg
  rw [h]
/-- a row of ints by its numbers -/
abbrev gJ (Z : gZ) (n : Nat) (F : Nat → Int) : va_E := gI Z n (fun j => zI (F j))
def ju (F : Nat → Int) (k : Nat) (v : Int) : Nat → Int := fun j => if j = k then v else F j
theorem ju_s {F : Nat → Int} {k : Nat} {v : Int} : ju F k v k = v := if_pos rfl
theorem ju_n {F : Nat → Int} {k j : Nat} {v : Int} (h : j ≠ k) : ju F k v j = F j := if_neg h
theorem upd_zI (F : Nat → Int) (k : Nat) (v : Int) : upd (fun j => zI (F j)) k (zI v) = fun j => zI (ju F k v j) := by
  funext j
  unfold upd ju
  by_cases h : j = k <;> simp [h]
section ZR
variable {p : Program} {l : Launch} {e : Env} {R : Room} {s : State} {m : MethodId} {args : Array Value} {below : List Frame} {meth : Method} {c : Code} {H : Heap} {locs : List Loc} {cells slots : Nat} {Q : State → Prop}
variable {cc : ByteArray} {pc nL : Nat} {ls : Array Slot} {rest st0 : List Value} {Z : gZ} {B : gB} {C : gC} {Ts : List Cond} {own : String} {k i : Nat}
theorem z_iadd (hx : p.tables.exec = Jvm.exec) (hb : c.code = cc) {x y : Int} (hdg : decode cc pc = .ok (.iadd, 1)) (kk : W p l e R s m args below meth c H locs cells slots Q (F0 m (pc + 1) ls (.int (zI (x + y)) :: rest))) : W p l e R s m args below meth c H locs cells slots Q (F0 m pc ls (.int (zI y) :: .int (zI x) :: rest)) :=
  lv_iadd hx hb hdg (by rw [zI_add]; exact kk)
theorem z_isub (hx : p.tables.exec = Jvm.exec) (hb : c.code = cc) {x y : Int} (hdg : decode cc pc = .ok (.isub, 1)) (kk : W p l e R s m args below meth c H locs cells slots Q (F0 m (pc + 1) ls (.int (zI (x - y)) :: rest))) : W p l e R s m args below meth c H locs cells slots Q (F0 m pc ls (.int (zI y) :: .int (zI x) :: rest)) :=
  lv_isub hx hb hdg (by rw [zI_sub]; exact kk)
theorem z_imul (hx : p.tables.exec = Jvm.exec) (hb : c.code = cc) {x y : Int} (hdg : decode cc pc = .ok (.imul, 1)) (kk : W p l e R s m args below meth c H locs cells slots Q (F0 m (pc + 1) ls (.int (zI (x * y)) :: rest))) : W p l e R s m args below meth c H locs cells slots Q (F0 m pc ls (.int (zI y) :: .int (zI x) :: rest)) :=
  lv_imul hx hb hdg (by rw [zI_mul]; exact kk)
theorem z_ineg (hx : p.tables.exec = Jvm.exec) (hb : c.code = cc) {x : Int} (hdg : decode cc pc = .ok (.ineg, 1)) (kk : W p l e R s m args below meth c H locs cells slots Q (F0 m (pc + 1) ls (.int (zI (-x)) :: rest))) : W p l e R s m args below meth c H locs cells slots Q (F0 m pc ls (.int (zI x) :: rest)) :=
  lv_ineg hx hb hdg (by rw [zI_neg]; exact kk)
theorem z_iinc (hx : p.tables.exec = Jvm.exec) (hb : c.code = cc) {j q : Nat} {n x : Int} {lv lv' : List (Nat × Value)} (hdg : decode cc pc = .ok (.iinc j n, 3)) (h : lv_has ls nL lv) (hk : lv[q]? = some (j, .int (zI x))) (hn : j < nL) (hl : (j, Value.int (zI (x + n))) :: lv.filter (fun q => !(q.1 == j) && !(q.1 + 1 == j && q.2.category == 2)) = lv')
    (kk : ∀ ls' : Array Slot, lv_has ls' nL lv' → W p l e R s m args below meth c H locs cells slots Q (F0 m (pc + 3) ls' rest)) : W p l e R s m args below meth c H locs cells slots Q (F0 m pc ls rest) :=
  lv_iinc (v := zI (x + n)) hx hb hdg h hk (zI_add x n) hn hl kk
theorem z_icmp_lt (hx : p.tables.exec = Jvm.exec) (hb : c.code = cc) {x y off : Int} {tgt : Nat} (hdg : decode cc pc = .ok (.if_icmp .lt off, 3)) (ht : (pc : Int) + off = (tgt : Int)) (rx : zr x) (ry : zr y)
    (kt : x < y → W p l e R s m args below meth c H locs cells slots Q (F0 m tgt ls rest)) (kf : y ≤ x → W p l e R s m args below meth c H locs cells slots Q (F0 m (pc + 3) ls rest)) : W p l e R s m args below meth c H locs cells slots Q (F0 m pc ls (.int (zI y) :: .int (zI x) :: rest)) :=
  lv_icmp_lt hx hb hdg ht (fun h => kt ((zI_lt rx ry).mp h)) (fun h => kf (Int.not_lt.mp (fun q => h ((zI_lt rx ry).mpr q))))
theorem z_icmp_ge (hx : p.tables.exec = Jvm.exec) (hb : c.code = cc) {x y off : Int} {tgt : Nat} (hdg : decode cc pc = .ok (.if_icmp .ge off, 3)) (ht : (pc : Int) + off = (tgt : Int)) (rx : zr x) (ry : zr y)
    (kt : y ≤ x → W p l e R s m args below meth c H locs cells slots Q (F0 m tgt ls rest)) (kf : x < y → W p l e R s m args below meth c H locs cells slots Q (F0 m (pc + 3) ls rest)) : W p l e R s m args below meth c H locs cells slots Q (F0 m pc ls (.int (zI y) :: .int (zI x) :: rest)) :=
  lv_icmp_ge hx hb hdg ht (fun h => kt ((zI_le ry rx).mp h)) (fun h => kf (Int.not_le.mp (fun q => h ((zI_le ry rx).mpr q))))
theorem z_icmp_gt (hx : p.tables.exec = Jvm.exec) (hb : c.code = cc) {x y off : Int} {tgt : Nat} (hdg : decode cc pc = .ok (.if_icmp .gt off, 3)) (ht : (pc : Int) + off = (tgt : Int)) (rx : zr x) (ry : zr y)
    (kt : y < x → W p l e R s m args below meth c H locs cells slots Q (F0 m tgt ls rest)) (kf : x ≤ y → W p l e R s m args below meth c H locs cells slots Q (F0 m (pc + 3) ls rest)) : W p l e R s m args below meth c H locs cells slots Q (F0 m pc ls (.int (zI y) :: .int (zI x) :: rest)) :=
  lv_icmp_gt hx hb hdg ht (fun h => kt ((zI_lt ry rx).mp h)) (fun h => kf (Int.not_lt.mp (fun q => h ((zI_lt ry rx).mpr q))))
theorem z_icmp_le (hx : p.tables.exec = Jvm.exec) (hb : c.code = cc) {x y off : Int} {tgt : Nat} (hdg : decode cc pc = .ok (.if_icmp .le off, 3)) (ht : (pc : Int) + off = (tgt : Int)) (rx : zr x) (ry : zr y)
    (kt : x ≤ y → W p l e R s m args below meth c H locs cells slots Q (F0 m tgt ls rest)) (kf : y < x → W p l e R s m args below meth c H locs cells slots Q (F0 m (pc + 3) ls rest)) : W p l e R s m args below meth c H locs cells slots Q (F0 m pc ls (.int (zI y) :: .int (zI x) :: rest)) :=
  lv_icmp_le hx hb hdg ht (fun h => kt ((zI_le rx ry).mp h)) (fun h => kf (Int.not_le.mp (fun q => h ((zI_le rx ry).mpr q))))
theorem z_icmp_eq (hx : p.tables.exec = Jvm.exec) (hb : c.code = cc) {x y off : Int} {tgt : Nat} (hdg : decode cc pc = .ok (.if_icmp .eq off, 3)) (ht : (pc : Int) + off = (tgt : Int)) (rx : zr x) (ry : zr y)
    (kt : x = y → W p l e R s m args below meth c H locs cells slots Q (F0 m tgt ls rest)) (kf : x ≠ y → W p l e R s m args below meth c H locs cells slots Q (F0 m (pc + 3) ls rest)) : W p l e R s m args below meth c H locs cells slots Q (F0 m pc ls (.int (zI y) :: .int (zI x) :: rest)) :=
  lv_icmp_eq hx hb hdg ht (fun h => kt ((zI_eq rx ry).mp h)) (fun h => kf (fun q => h ((zI_eq rx ry).mpr q)))
theorem z_icmp_ne (hx : p.tables.exec = Jvm.exec) (hb : c.code = cc) {x y off : Int} {tgt : Nat} (hdg : decode cc pc = .ok (.if_icmp .ne off, 3)) (ht : (pc : Int) + off = (tgt : Int)) (rx : zr x) (ry : zr y)
    (kt : x ≠ y → W p l e R s m args below meth c H locs cells slots Q (F0 m tgt ls rest)) (kf : x = y → W p l e R s m args below meth c H locs cells slots Q (F0 m (pc + 3) ls rest)) : W p l e R s m args below meth c H locs cells slots Q (F0 m pc ls (.int (zI y) :: .int (zI x) :: rest)) :=
  lv_icmp_ne hx hb hdg ht (fun h => kt (fun q => h ((zI_eq rx ry).mpr q))) (fun h => kf ((zI_eq rx ry).mp h))
theorem z_if_lt (hx : p.tables.exec = Jvm.exec) (hb : c.code = cc) {x off : Int} {tgt : Nat} (hdg : decode cc pc = .ok (.ifCond .lt off, 3)) (ht : (pc : Int) + off = (tgt : Int)) (rx : zr x)
    (kt : x < 0 → W p l e R s m args below meth c H locs cells slots Q (F0 m tgt ls rest)) (kf : 0 ≤ x → W p l e R s m args below meth c H locs cells slots Q (F0 m (pc + 3) ls rest)) : W p l e R s m args below meth c H locs cells slots Q (F0 m pc ls (.int (zI x) :: rest)) :=
  lv_if_lt hx hb hdg ht (fun h => kt ((zI_lt rx (b := 0) (by decide)).mp h)) (fun h => kf (Int.not_lt.mp (fun q => h ((zI_lt rx (b := 0) (by decide)).mpr q))))
theorem z_if_ge (hx : p.tables.exec = Jvm.exec) (hb : c.code = cc) {x off : Int} {tgt : Nat} (hdg : decode cc pc = .ok (.ifCond .ge off, 3)) (ht : (pc : Int) + off = (tgt : Int)) (rx : zr x)
    (kt : 0 ≤ x → W p l e R s m args below meth c H locs cells slots Q (F0 m tgt ls rest)) (kf : x < 0 → W p l e R s m args below meth c H locs cells slots Q (F0 m (pc + 3) ls rest)) : W p l e R s m args below meth c H locs cells slots Q (F0 m pc ls (.int (zI x) :: rest)) :=
  lv_if_ge hx hb hdg ht (fun h => kt ((zI_le (a := 0) (by decide) rx).mp h)) (fun h => kf (Int.not_le.mp (fun q => h ((zI_le (a := 0) (by decide) rx).mpr q))))
theorem z_if_gt (hx : p.tables.exec = Jvm.exec) (hb : c.code = cc) {x off : Int} {tgt : Nat} (hdg : decode cc pc = .ok (.ifCond .gt off, 3)) (ht : (pc : Int) + off = (tgt : Int)) (rx : zr x)
    (kt : 0 < x → W p l e R s m args below meth c H locs cells slots Q (F0 m tgt ls rest)) (kf : x ≤ 0 → W p l e R s m args below meth c H locs cells slots Q (F0 m (pc + 3) ls rest)) : W p l e R s m args below meth c H locs cells slots Q (F0 m pc ls (.int (zI x) :: rest)) :=
  lv_if_gt hx hb hdg ht (fun h => kt ((zI_lt (a := 0) (by decide) rx).mp h)) (fun h => kf (Int.not_lt.mp (fun q => h ((zI_lt (a := 0) (by decide) rx).mpr q))))
theorem z_if_le (hx : p.tables.exec = Jvm.exec) (hb : c.code = cc) {x off : Int} {tgt : Nat} (hdg : decode cc pc = .ok (.ifCond .le off, 3)) (ht : (pc : Int) + off = (tgt : Int)) (rx : zr x)
    (kt : x ≤ 0 → W p l e R s m args below meth c H locs cells slots Q (F0 m tgt ls rest)) (kf : 0 < x → W p l e R s m args below meth c H locs cells slots Q (F0 m (pc + 3) ls rest)) : W p l e R s m args below meth c H locs cells slots Q (F0 m pc ls (.int (zI x) :: rest)) :=
  lv_if_le hx hb hdg ht (fun h => kt ((zI_le rx (b := 0) (by decide)).mp h)) (fun h => kf (Int.not_le.mp (fun q => h ((zI_le rx (b := 0) (by decide)).mpr q))))
theorem z_if_eq (hx : p.tables.exec = Jvm.exec) (hb : c.code = cc) {x off : Int} {tgt : Nat} (hdg : decode cc pc = .ok (.ifCond .eq off, 3)) (ht : (pc : Int) + off = (tgt : Int)) (rx : zr x)
    (kt : x = 0 → W p l e R s m args below meth c H locs cells slots Q (F0 m tgt ls rest)) (kf : x ≠ 0 → W p l e R s m args below meth c H locs cells slots Q (F0 m (pc + 3) ls rest)) : W p l e R s m args below meth c H locs cells slots Q (F0 m pc ls (.int (zI x) :: rest)) :=
  lv_if_eq hx hb hdg ht (fun h => kt ((zI_eq rx (b := 0) (by decide)).mp h)) (fun h => kf (fun q => h ((zI_eq rx (b := 0) (by decide)).mpr q)))
theorem z_if_ne (hx : p.tables.exec = Jvm.exec) (hb : c.code = cc) {x off : Int} {tgt : Nat} (hdg : decode cc pc = .ok (.ifCond .ne off, 3)) (ht : (pc : Int) + off = (tgt : Int)) (rx : zr x)
    (kt : x ≠ 0 → W p l e R s m args below meth c H locs cells slots Q (F0 m tgt ls rest)) (kf : x = 0 → W p l e R s m args below meth c H locs cells slots Q (F0 m (pc + 3) ls rest)) : W p l e R s m args below meth c H locs cells slots Q (F0 m pc ls (.int (zI x) :: rest)) :=
  lv_if_ne hx hb hdg ht (fun h => kt (fun q => h ((zI_eq rx (b := 0) (by decide)).mpr q))) (fun h => kf ((zI_eq rx (b := 0) (by decide)).mp h))
theorem z_alen {t n : Nat} {y : (Nat → Int32) ⊕ (Nat → Int64) ⊕ (Nat → UInt32) ⊕ (Nat → UInt64) ⊕ (Nat → Option Nat)} {ty : FieldType} (X : gX Z p s m c cc nL args Ts own) (hW : gw Z B C H) (he : C k i = some (.inl (Z.2.1 t, n, y))) (ht : (gT Z)[t]? = some (Z.2.1 t, ty)) (hdg : decode cc pc = .ok (.arraylength, 1))
    (kk : W p l e R s m args below meth c H locs cells slots Q (F0 m (pc + 1) ls (.int (zI (n : Int)) :: rest))) : W p l e R s m args below meth c H locs cells slots Q (F0 m pc ls (.ref (B k i) :: rest)) :=
  g_alen X hW he ht hdg (by rw [zI_nat]; exact kk)
theorem z_iald {n : Nat} {F : Nat → Int} {x : Int} (X : gX Z p s m c cc nL args Ts own) (hW : gw Z B C H) (he : C k i = some (gJ Z n F)) (h0 : 0 ≤ x) (h1 : x < n) (hn : (n : Int) < 2147483648) (hdg : decode cc pc = .ok (.iaload, 1))
    (kk : W p l e R s m args below meth c H locs cells slots Q (F0 m (pc + 1) ls (.int (zI (F x.toNat)) :: rest))) : W p l e R s m args below meth c H locs cells slots Q (F0 m pc ls (.int (zI x) :: .ref (B k i) :: rest)) :=
  g_iald X hW he (zI_in h0 h1 hn) hdg (by rw [zI_cl h0 (by omega)]; exact kk)
theorem z_iast {n : Nat} {F : Nat → Int} {x y : Int} (X : gX Z p s m c cc nL args Ts own) (hW : gw Z B C H) (hS0 : va_S (gA Z) s.heap H locs) (he : C k i = some (gJ Z n F)) (h0 : 0 ≤ x) (h1 : x < n) (hn : (n : Int) < 2147483648) (hdg : decode cc pc = .ok (.iastore, 1))
    (kk : ∀ (C1 : gC) (H1 : Heap) (locs1 : List Loc), C1 k i = some (gJ Z n (ju F x.toNat y)) → (∀ k' i', ¬ (k' = k ∧ i' = i) → C1 k' i' = C k' i') → gw Z B C1 H1 → va_S (gA Z) s.heap H1 locs1 → W p l e R s m args below meth c H1 locs1 cells slots Q (F0 m (pc + 1) ls rest)) :
    W p l e R s m args below meth c H locs cells slots Q (F0 m pc ls (.int (zI y) :: .int (zI x) :: .ref (B k i) :: rest)) :=
  g_iast X hW hS0 he (zI_in h0 h1 hn) hdg (fun C1 H1 locs1 h => kk C1 H1 locs1 (by rw [h, zI_cl h0 (by omega), upd_zI]))
theorem z_aald {t n : Nat} {f : Nat → Option Nat} {x : Int} {Cn : String} (X : gX Z p s m c cc nL args Ts own) (hW : gw Z B C H) (he : C k i = some (gR Z t n f)) (ht : (gT Z)[t]? = some (Z.2.1 t, .object Cn)) (h0 : 0 ≤ x) (h1 : x < n) (hn : (n : Int) < 2147483648) (hdg : decode cc pc = .ok (.aaload, 1))
    (kk : W p l e R s m args below meth c H locs cells slots Q (F0 m (pc + 1) ls (va_rf (f x.toNat) :: rest))) : W p l e R s m args below meth c H locs cells slots Q (F0 m pc ls (.int (zI x) :: .ref (B k i) :: rest)) :=
  g_aald X hW he ht (zI_in h0 h1 hn) hdg (by rw [zI_cl h0 (by omega)]; exact kk)
theorem z_aast {t n ci k2 i2 : Nat} {f : Nat → Option Nat} {x : Int} {r : vw_C} {vs : List Value} (X : gX Z p s m c cc nL args Ts own) (hW : gw Z B C H) (hS0 : va_S (gA Z) s.heap H locs) (he : C k i = some (gR Z t n f)) (ht : (gT Z)[t]? = some (Z.2.1 t, .object r.1)) (hv : C k2 i2 = some (.inr (ci, vs))) (hc : vwCl[ci]? = some r) (h0 : 0 ≤ x) (h1 : x < n) (hn : (n : Int) < 2147483648) (hdg : decode cc pc = .ok (.aastore, 1))
    (kk : ∀ (C1 : gC) (H1 : Heap) (locs1 : List Loc), C1 k i = some (gR Z t n (va_up f x.toNat (some (B k2 i2)))) → (∀ k' i', ¬ (k' = k ∧ i' = i) → C1 k' i' = C k' i') → gw Z B C1 H1 → va_S (gA Z) s.heap H1 locs1 → W p l e R s m args below meth c H1 locs1 cells slots Q (F0 m (pc + 1) ls rest)) :
    W p l e R s m args below meth c H locs cells slots Q (F0 m pc ls (.ref (B k2 i2) :: .int (zI x) :: .ref (B k i) :: rest)) :=
  g_aast X hW hS0 he ht hv hc (zI_in h0 h1 hn) hdg (fun C1 H1 locs1 h => kk C1 H1 locs1 (by rw [h, zI_cl h0 (by omega)]))
theorem z_ifb_eq (hx : p.tables.exec = Jvm.exec) (hb : c.code = cc) {P : Prop} [Decidable P] {off : Int} {tgt : Nat} (hdg : decode cc pc = .ok (.ifCond .eq off, 3)) (ht : (pc : Int) + off = (tgt : Int))
    (kt : ¬ P → W p l e R s m args below meth c H locs cells slots Q (F0 m tgt ls rest)) (kf : P → W p l e R s m args below meth c H locs cells slots Q (F0 m (pc + 3) ls rest)) : W p l e R s m args below meth c H locs cells slots Q (F0 m pc ls (.int (zI (if P then 1 else 0)) :: rest)) := by
  by_cases h : P
  · rw [if_pos h]
    exact z_if_eq hx hb hdg ht (by decide) (fun q => absurd q (by decide)) (fun _ => kf h)
  · rw [if_neg h]
    exact z_if_eq hx hb hdg ht (by decide) (fun _ => kt h) (fun q => absurd rfl q)
theorem z_ifb_ne (hx : p.tables.exec = Jvm.exec) (hb : c.code = cc) {P : Prop} [Decidable P] {off : Int} {tgt : Nat} (hdg : decode cc pc = .ok (.ifCond .ne off, 3)) (ht : (pc : Int) + off = (tgt : Int))
    (kt : P → W p l e R s m args below meth c H locs cells slots Q (F0 m tgt ls rest)) (kf : ¬ P → W p l e R s m args below meth c H locs cells slots Q (F0 m (pc + 3) ls rest)) : W p l e R s m args below meth c H locs cells slots Q (F0 m pc ls (.int (zI (if P then 1 else 0)) :: rest)) := by
  by_cases h : P
  · rw [if_pos h]
    exact z_if_ne hx hb hdg ht (by decide) (fun _ => kt h) (fun q => absurd q (by decide))
  · rw [if_neg h]
    exact z_if_ne hx hb hdg ht (by decide) (fun q => absurd rfl q) (fun _ => kf h)
end ZR
