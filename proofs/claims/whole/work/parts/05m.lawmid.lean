/-! THE LAW'S LOOP: what holds between two calls; what a call of both sides leaves; the comparison -/
def lawI (Z : gZ) (B : gB) (C : gC) (S : gS) (T : gTx) : Prop := wf S T ∧ wz S T ∧ cs Z B C S T ∧ cx Z B C ∧ (∃ th, md Z B C S T th) ∧ ∃ F : Nat → Int64, C 95 0 = some (gL Z 1 F)
/-- what a call of the reference leaves -/
def mpo (Z : gZ) (B : gB) (C0 : gC) (S : gS) (T : gTx) (cd : Nat) (v : Int) (S' : gS) (T' : gTx) (r : Int32) (C1 : gC) : Prop := (cd = 0 → r = zI v ∧ md Z B C1 S' T' 0) ∧ (¬ cd = 0 → md Z B C1 S T (cd : Int)) ∧ fmd C0 C1
theorem mpo.ask {Z : gZ} {B : gB} {C0 C1 : gC} {S : gS} {T : gTx} {cd : Nat} {v : Int} {r : Int32} (h1 : cd = 0 → r = zI v) (h2 : md Z B C1 S T (cd : Int)) (h3 : fmd C0 C1) : mpo Z B C0 S T cd v S T r C1 :=
  ⟨fun h => ⟨h1 h, by rw [h] at h2; exact h2⟩, fun _ => h2, h3⟩
theorem law_mid {Z : gZ} {B B1 : gB} {C C1 C2 : gC} {S S' : gS} {T T' : gTx} {cd : Nat} {v : Int} {k r : Int32} (hwf : wf S T) (hwz : wz S T) (hn : cd = 0 → wf S' T' ∧ wz S' T') (hp : lpost Z B C S T cd v S' T' k B1 C1) (hq : mpo Z B1 C1 S T cd v S' T' r C2) :
    ∃ (S2 : gS) (T2 : gTx) (F : Nat → Int64), wf S2 T2 ∧ wz S2 T2 ∧ cs Z B1 C2 S2 T2 ∧ cx Z B1 C2 ∧ md Z B1 C2 S2 T2 (cd : Int) ∧ C2 95 0 = some (gL Z 1 F) ∧ (cd = 0 → F 0 = r.toInt64) := by
  obtain ⟨-, p1, p2, ⟨F0, p3⟩, p4, -, -⟩ := hp
  obtain ⟨q1, q2, q3⟩ := hq
  have hcx : cx Z B1 C2 := p4.kept (fun k' i' _ _ => q3 k' i' (by omega))
  by_cases h : cd = 0
  · obtain ⟨⟨F, a1, a2⟩, a3⟩ := p1 h
    obtain ⟨b1, b2⟩ := q1 h
    obtain ⟨c1, c2⟩ := hn h
    exact ⟨S', T', F, c1, c2, a3.out (fun k' i' _ => q3 k' i' (by omega)), hcx, by rw [h]; exact b2, (q3 95 0 (by omega)).trans a1, fun _ => by rw [a2, b1]⟩
  · exact ⟨S, T, F0, hwf, hwz, (p2 h).out (fun k' i' _ => q3 k' i' (by omega)), hcx, q2 h, (q3 95 0 (by omega)).trans p3, fun z => absurd z h⟩
theorem zI_ex (x : Int32) : ∃ a : Int, zr a ∧ x = zI a := ⟨x.toInt, ⟨by have := Int32.le_toInt x; omega, by have := Int32.toInt_lt x; omega⟩, (zI_of x).symm⟩
abbrev lLoc (b : Nat) (B : gB) (j : Nat) : List (Nat × Value) := [(0, .ref b), (1, .ref (B 0 0)), (2, .ref (B 70 0)), (3, .ref (B 95 0)), (4, .int (zI (4 * (j : Int))))]
/-- where the loop goes on -/
def lKont (p : Program) (l : Launch) (e : Env) (s : State) (m : MethodId) (below : List Frame) (meth : Method) (c : Code) (b : Nat) (Q : State → Prop) (Z : gZ) (j cells slots : Nat) : Prop :=
  ∀ (B1 : gB) (C1 : gC) (S1 : gS) (T1 : gTx) (H1 : Heap) (locs1 : List Loc) (ls1 : Array Slot), lawI Z B1 C1 S1 T1 → gw Z B1 C1 H1 → va_S (gA Z) s.heap H1 locs1 → lv_has ls1 7 (lLoc b B1 j) → W p l e room_1 s m #[Value.ref b] below meth c H1 locs1 (cells + 16) (slots + 128) Q (F0 m 2034 ls1 [])
section LT
variable {p : Program} {l : Launch} {e : Env} {s : State} {m : MethodId} {below : List Frame} {meth : Method} {c : Code} {H : Heap} {locs : List Loc} {cells slots : Nat} {Q : State → Prop} {b L j : Nat} {xs : Nat → Int32} {Z : gZ} {B : gB} {C : gC} {S : gS} {T : gTx} {ls : Array Slot} {rest : List Value} {pc : Nat}
/-- a number of the script, as the law reads it -/
theorem l_arg {a : Int} (k : Nat) (X : gX Z p s m c code 7 #[Value.ref b] wsL_law RL) (hX : va_X b L xs s s.heap) (hbl : b < s.heap.size) (hzz : Z.2.2 = s.heap.size) (hS : va_S (gA Z) s.heap H locs) (hL : L ≤ 2048) (hj : 4 * j + k < L) (h0 : ls[0]? = some (.val (.ref b))) (h4 : ls[4]? = some (.val (.int (zI (4 * (j : Int)))))) (ea : xs (4 * j + k) = zI a) {k5 : Int} (hk5 : Int32.ofInt k5 = zI (k : Int))
    (d0 : decode code pc = .ok (.aload_n 0, 1)) (d1 : decode code (pc + 1) = .ok (.iload 4, 2)) (d2 : decode code (pc + 1 + 2) = .ok (.iconst k5, 1)) (d3 : decode code (pc + 1 + 2 + 1) = .ok (.iadd, 1)) (d4 : decode code (pc + 1 + 2 + 1 + 1) = .ok (.iaload, 1))
    (kk : W p l e room_1 s m #[Value.ref b] below meth c H locs cells slots Q (F0 m (pc + 1 + 2 + 1 + 1 + 1) ls (.int (zI a) :: rest))) : W p l e room_1 s m #[Value.ref b] below meth c H locs cells slots Q (F0 m pc ls rest) := by
  have hx := X.1.1
  have hb := X.1.2.1
  refine lv_aload_n hx hb d0 rfl h0 ?_
  refine lv_iload hx hb d1 h4 ?_
  refine lv_iconst (v := zI (k : Int)) hx hb d2 hk5 ?_
  refine z_iadd hx hb d3 ?_
  refine va_sld hx hb hX hbl (show ¬ gA Z b from fun z => by have : Z.2.2 ≤ b := z; omega) hS (zI_in (by omega) (by omega) (by omega)) d4 ?_
  rw [zI_cl (by omega) (by omega), show (4 * (j : Int) + (k : Int)).toNat = 4 * j + k by omega, ea]
  exact kk
/-- the comparison of two answers that are numbers -/
theorem lt_int {cd : Nat} {r : Int32} {F : Nat → Int64} {t0 : Nat} {off : Int} (X : gX Z p s m c code 7 #[Value.ref b] wsL_law RL) (hmd : md Z B C S T (cd : Int)) (h95 : C 95 0 = some (gL Z 1 F)) (hF : cd = 0 → F 0 = r.toInt64) (hcd : cd ≤ 3) (hW : gw Z B C H) (hS : va_S (gA Z) s.heap H locs)
    (hl : lv_has ls 7 ((6, .int r) :: (5, .int (zI (cd : Int))) :: lLoc b B j)) (hc : cells ≤ room_1.cells ∧ slots ≤ room_1.slots)
    (d0 : decode code t0 = .ok (.aload_n 2, 1)) (d1 : decode code (t0 + 1) = .ok (.invokevirtual 119, 3)) (d4 : decode code (t0 + 1 + 3) = .ok (.iload 5, 2)) (d6 : decode code (t0 + 1 + 3 + 2) = .ok (.if_icmp .eq 5, 3)) (d11 : decode code (t0 + 11) = .ok (.iload 5, 2)) (d13 : decode code (t0 + 11 + 2) = .ok (.ifCond .ne 15, 3))
    (d16 : decode code (t0 + 11 + 2 + 3) = .ok (.aload_n 3, 1)) (d17 : decode code (t0 + 11 + 2 + 3 + 1) = .ok (.iconst 0, 1)) (d18 : decode code (t0 + 11 + 2 + 3 + 1 + 1) = .ok (.laload, 1)) (d19 : decode code (t0 + 11 + 2 + 3 + 1 + 1 + 1) = .ok (.iload 6, 2)) (d21 : decode code (t0 + 11 + 2 + 3 + 1 + 1 + 1 + 2) = .ok (.i2l, 1))
    (d22 : decode code (t0 + 11 + 2 + 3 + 1 + 1 + 1 + 2 + 1) = .ok (.lcmp, 1)) (d23 : decode code (t0 + 11 + 2 + 3 + 1 + 1 + 1 + 2 + 1 + 1) = .ok (.ifCond .eq 5, 3)) (d28 : decode code (t0 + 28) = .ok (.goto off, 3)) (hoff : ((t0 + 28 : Nat) : Int) + off = ((2034 : Nat) : Int))
    (kk : ∀ (H1 : Heap) (locs1 : List Loc), gw Z B C H1 → va_S (gA Z) s.heap H1 locs1 → W p l e room_1 s m #[Value.ref b] below meth c H1 locs1 cells slots Q (F0 m 2034 ls [])) : W p l e room_1 s m #[Value.ref b] below meth c H locs cells slots Q (F0 m t0 ls []) := by
  have hx := X.1.1
  have hb := X.1.2.1
  have hts := X.1.2.2.2.2
  obtain ⟨⟨mg, h70⟩, -⟩ := id hmd
  refine lv_aload_n hx hb d0 rfl (lv_at hl 4 rfl) ?_
  refine g_ci (g_runV X (k_X8_thrown hmd) (cwV 0 hts gL_law_X8_thrown rfl rfl rfl ⟨rfl, ds_X8_thrown⟩ ⟨Nat.le_of_ble_eq_true rfl, Nat.le_of_ble_eq_true rfl⟩) hW hS h70 rfl rfl hl.1 rfl (Nat.le_of_ble_eq_true rfl) d1 ⟨hc.1, hc.2⟩) hS (fun r1 C1 H locs hp hW hS => ?_)
  obtain ⟨rfl, e1⟩ := hp
  rw [e1] at hW
  refine lv_iload hx hb d4 (lv_at hl 1 rfl) ?_
  refine z_icmp_eq (tgt := t0 + 11) hx hb d6 (by omega) ⟨by omega, by omega⟩ ⟨by omega, by omega⟩ (fun _ => ?_) (fun h => absurd rfl h)
  refine lv_iload hx hb d11 (lv_at hl 1 rfl) ?_
  refine z_if_ne (tgt := t0 + 28) hx hb d13 (by omega) ⟨by omega, by omega⟩ (fun _ => ?_) (fun h0 => ?_)
  · exact lv_goto (tgt := 2034) hx hb d28 hoff (kk H locs hW hS)
  · refine lv_aload_n hx hb d16 rfl (lv_at hl 5 rfl) ?_
    refine lv_iconst (v := zI 0) hx hb d17 rfl ?_
    refine g_lald X hW h95 (zI_in (by decide) (by decide) (by decide)) d18 ?_
    refine lv_iload hx hb d19 (lv_at hl 0 rfl) ?_
    refine lv_i2l hx hb d21 rfl ?_
    refine W.lcmp hx hb d22 ?_
    rw [show lg_cmp (F (zI 0).toNatClampNeg) r.toInt64 = zI 0 from by rw [show (zI 0).toNatClampNeg = 0 by decide, hF (by omega)]; simp [lg_cmp]; rfl]
    refine z_if_eq (tgt := t0 + 28) hx hb d23 (by omega) (by decide) (fun _ => ?_) (fun h => absurd rfl h)
    exact lv_goto (tgt := 2034) hx hb d28 hoff (kk H locs hW hS)
/-- the comparison of two answers that are true or false -/
theorem lt_bool {cd : Nat} {r : Int32} {F : Nat → Int64} {t0 : Nat} {off : Int} (X : gX Z p s m c code 7 #[Value.ref b] wsL_law RL) (hmd : md Z B C S T (cd : Int)) (h95 : C 95 0 = some (gL Z 1 F)) (hF : cd = 0 → F 0 = r.toInt64) (hr : r = zI 0 ∨ r = zI 1) (hcd : cd ≤ 3) (hW : gw Z B C H) (hS : va_S (gA Z) s.heap H locs)
    (hl : lv_has ls 7 ((6, .int r) :: (5, .int (zI (cd : Int))) :: lLoc b B j)) (hc : cells ≤ room_1.cells ∧ slots ≤ room_1.slots)
    (d0 : decode code t0 = .ok (.aload_n 2, 1)) (d1 : decode code (t0 + 1) = .ok (.invokevirtual 119, 3)) (d4 : decode code (t0 + 1 + 3) = .ok (.iload 5, 2)) (d6 : decode code (t0 + 1 + 3 + 2) = .ok (.if_icmp .eq 5, 3)) (d11 : decode code (t0 + 11) = .ok (.iload 5, 2)) (d13 : decode code (t0 + 11 + 2) = .ok (.ifCond .ne 22, 3))
    (d16 : decode code (t0 + 11 + 2 + 3) = .ok (.aload_n 3, 1)) (d17 : decode code (t0 + 11 + 2 + 3 + 1) = .ok (.iconst 0, 1)) (d18 : decode code (t0 + 11 + 2 + 3 + 1 + 1) = .ok (.laload, 1)) (d19 : decode code (t0 + 11 + 2 + 3 + 1 + 1 + 1) = .ok (.iload 6, 2)) (d21 : decode code (t0 + 11 + 2 + 3 + 1 + 1 + 1 + 2) = .ok (.ifCond .eq 7, 3))
    (d24 : decode code (t0 + 11 + 2 + 3 + 1 + 1 + 1 + 2 + 3) = .ok (.lconst 1, 1)) (d25 : decode code (t0 + 11 + 2 + 3 + 1 + 1 + 1 + 2 + 3 + 1) = .ok (.goto 4, 3)) (d28 : decode code (t0 + 28) = .ok (.lconst 0, 1))
    (d29 : decode code (t0 + 29) = .ok (.lcmp, 1)) (d30 : decode code (t0 + 29 + 1) = .ok (.ifCond .eq 5, 3)) (d35 : decode code (t0 + 35) = .ok (.goto off, 3)) (hoff : ((t0 + 35 : Nat) : Int) + off = ((2034 : Nat) : Int))
    (kk : ∀ (H1 : Heap) (locs1 : List Loc), gw Z B C H1 → va_S (gA Z) s.heap H1 locs1 → W p l e room_1 s m #[Value.ref b] below meth c H1 locs1 cells slots Q (F0 m 2034 ls [])) : W p l e room_1 s m #[Value.ref b] below meth c H locs cells slots Q (F0 m t0 ls []) := by
  have hx := X.1.1
  have hb := X.1.2.1
  have hts := X.1.2.2.2.2
  obtain ⟨⟨mg, h70⟩, -⟩ := id hmd
  refine lv_aload_n hx hb d0 rfl (lv_at hl 4 rfl) ?_
  refine g_ci (g_runV X (k_X8_thrown hmd) (cwV 0 hts gL_law_X8_thrown rfl rfl rfl ⟨rfl, ds_X8_thrown⟩ ⟨Nat.le_of_ble_eq_true rfl, Nat.le_of_ble_eq_true rfl⟩) hW hS h70 rfl rfl hl.1 rfl (Nat.le_of_ble_eq_true rfl) d1 ⟨hc.1, hc.2⟩) hS (fun r1 C1 H locs hp hW hS => ?_)
  obtain ⟨rfl, e1⟩ := hp
  rw [e1] at hW
  refine lv_iload hx hb d4 (lv_at hl 1 rfl) ?_
  refine z_icmp_eq (tgt := t0 + 11) hx hb d6 (by omega) ⟨by omega, by omega⟩ ⟨by omega, by omega⟩ (fun _ => ?_) (fun h => absurd rfl h)
  refine lv_iload hx hb d11 (lv_at hl 1 rfl) ?_
  refine z_if_ne (tgt := t0 + 35) hx hb d13 (by omega) ⟨by omega, by omega⟩ (fun _ => ?_) (fun h0 => ?_)
  · exact lv_goto (tgt := 2034) hx hb d35 hoff (kk H locs hW hS)
  · refine lv_aload_n hx hb d16 rfl (lv_at hl 5 rfl) ?_
    refine lv_iconst (v := zI 0) hx hb d17 rfl ?_
    refine g_lald X hW h95 (zI_in (by decide) (by decide) (by decide)) d18 ?_
    refine lv_iload hx hb d19 (lv_at hl 0 rfl) ?_
    have hF0 : F (zI 0).toNatClampNeg = r.toInt64 := by rw [show (zI 0).toNatClampNeg = 0 by decide, hF (by omega)]
    rcases hr with rfl | rfl
    · refine z_if_eq (tgt := t0 + 28) hx hb d21 (by omega) (by decide) (fun _ => ?_) (fun h => absurd rfl h)
      refine lv_lconst (v := 0) hx hb d28 rfl ?_
      refine W.lcmp hx hb d29 ?_
      rw [show lg_cmp (F (zI 0).toNatClampNeg) 0 = zI 0 from by rw [hF0]; decide]
      refine z_if_eq (tgt := t0 + 35) hx hb d30 (by omega) (by decide) (fun _ => ?_) (fun h => absurd rfl h)
      exact lv_goto (tgt := 2034) hx hb d35 hoff (kk H locs hW hS)
    · refine z_if_eq (tgt := t0 + 28) hx hb d21 (by omega) (by decide) (fun h => absurd h (by decide)) (fun _ => ?_)
      refine lv_lconst (v := 1) hx hb d24 rfl ?_
      refine lv_goto (tgt := t0 + 29) hx hb d25 (by omega) ?_
      refine W.lcmp hx hb d29 ?_
      rw [show lg_cmp (F (zI 0).toNatClampNeg) 1 = zI 0 from by rw [hF0]; decide]
      refine z_if_eq (tgt := t0 + 35) hx hb d30 (by omega) (by decide) (fun _ => ?_) (fun h => absurd rfl h)
      exact lv_goto (tgt := 2034) hx hb d35 hoff (kk H locs hW hS)
end LT
/-! the state behind a call that is not refused -/
theorem nx_giveRange {S : gS} {T : gTx} {a b u : Int} (hwf : wf S T) (hwz : wz S T) (h : cd_giveRange S a b u = 0) : wf (nS_giveRange S a b u) T ∧ wz (nS_giveRange S a b u) T := by
  unfold cd_giveRange at h
  split at h
  · omega
  · rename_i n1
    split at h
    · omega
    · rename_i n2
      split at h
      · omega
      · rename_i n3
        have n2 := Decidable.not_not.mp n2
        exact ⟨hwf.range n2.1 n2.2.1 (Decidable.not_not.mp n1) (by have := hwf.n; omega), hwz.range⟩
theorem nx_open {S : gS} {T : gTx} {u : Int} (hwf : wf S T) (hwz : wz S T) (h : cd_open S u = 0) : wf (nS_open S u) (nT_open S T) ∧ wz (nS_open S u) (nT_open S T) := by
  unfold cd_open at h
  split at h
  · omega
  · rename_i n1
    split at h
    · omega
    · have := hwf.n
      exact ⟨hwf.newc hwz (Decidable.not_not.mp n1) (by omega), hwz.newc (by omega)⟩
theorem nx_addLine {S : gS} {T : gTx} {c x : Int} (hwf : wf S T) (hwz : wz S T) (h : cd_addLine S T c x = 0) : wf S (nT_addLine T c x) ∧ wz S (nT_addLine T c x) := by
  unfold cd_addLine at h
  split at h
  · omega
  · rename_i n1
    split at h
    · omega
    · rename_i n2
      split at h
      · omega
      · rename_i n3
        have n1 := Decidable.not_not.mp n1
        have n2 := Decidable.not_not.mp n2
        have h1 := hwf.n
        have h2 := hwf.tx (5 + c.toNat)
        refine ⟨hwf.draft (by omega) ?_ (fun y hy => ?_), hwz.draft (by omega)⟩
        · rw [List.length_append, List.length_singleton]; omega
        · rcases List.mem_append.mp hy with q | q
          · exact hwf.tc _ y q
          · rw [List.mem_singleton.mp q]; exact n2
theorem nx_lay {S : gS} {T : gTx} {c : Int} (hwf : wf S T) (hwz : wz S T) (h : cd_lay S c = 0) : wf (nS_lay S c.toNat) (nT_lay S T c.toNat) ∧ wz (nS_lay S c.toNat) (nT_lay S T c.toNat) := by
  unfold cd_lay at h
  split at h
  · omega
  · rename_i n1
    split at h
    · omega
    · rename_i n2
      have n1 := Decidable.not_not.mp n1
      have h1 := (hwf.ch (show c.toNat < S 0 0 by omega)).2.1
      exact ⟨hwf.layd (by omega) (by omega), hwz.layd (by omega)⟩
theorem nx_landAfter {S : gS} {T : gTx} {c o : Int} (hwf : wf S T) (hwz : wz S T) (h : cd_landAfter S c o = 0) : wf (nS_landAfter S c o) T ∧ wz (nS_landAfter S c o) T := by
  unfold cd_landAfter at h
  split at h
  · omega
  · rename_i n1
    have n1 := Decidable.not_not.mp n1
    have h1 := hwf.n
    exact ⟨hwf.upd (Or.inl rfl) (fun _ => bset_16' (hwf.ch (show c.toNat < S 0 0 by omega)).2.2.1 (by omega)) (by omega) (by omega), hwz.upd1 (by omega) (fun _ => by omega) (by omega) (by omega)⟩
theorem nx_setPriority {S : gS} {T : gTx} {c q : Int} (hwf : wf S T) (hwz : wz S T) (h : cd_setPriority S c q = 0) : wf (nS_setPriority S c q) T ∧ wz (nS_setPriority S c q) T := by
  unfold cd_setPriority at h
  split at h
  · omega
  · rename_i n1
    split at h
    · omega
    · rename_i n2
      have n1 := Decidable.not_not.mp n1
      exact ⟨hwf.upd (Or.inr (Or.inl rfl)) (by omega) (fun _ => by omega) (by omega), hwz.upd1 (by omega) (fun _ => by omega) (by omega) (by omega)⟩
theorem nx_comment {S : gS} {T : gTx} {c y : Int} (hwf : wf S T) (hwz : wz S T) (h : cd_comment S T c y = 0) : wf (nS_comment S c y) T ∧ wz (nS_comment S c y) T := by
  unfold cd_comment at h
  split at h
  · omega
  · rename_i n1
    split at h
    · omega
    · rename_i n2
      split at h
      · omega
      · rename_i n3
        have n1 := Decidable.not_not.mp n1
        have h1 := hwf.n
        have n4 : 0 ≤ y ∧ y < ((prs S T c.toNat).length : Int) := Decidable.not_not.mp (fun z => n2 (Or.inr z))
        exact ⟨hwf.comm hwz n1 (Nat.pos_of_ne_zero (fun z => n2 (Or.inl z))) n4.1 n4.2 (by omega), hwz.comm⟩
theorem nx_resolve {S : gS} {T : gTx} {q : Int} (hwf : wf S T) (hwz : wz S T) (h : cd_resolve S q = 0) : wf (nS_resolve S q) T ∧ wz (nS_resolve S q) T := by
  unfold cd_resolve at h
  split at h
  · omega
  · rename_i n1
    have n1 := Decidable.not_not.mp n1
    exact ⟨hwf.reso (by omega), hwz.upd1 (by omega) (by omega) (by omega) (fun _ => by omega)⟩
theorem nx_approve {S : gS} {T : gTx} {c u : Int} (hwf : wf S T) (hwz : wz S T) (h : cd_approve S c u = 0) : wf (nS_approve S c u) T ∧ wz (nS_approve S c u) T := by
  unfold cd_approve at h
  split at h
  · omega
  · rename_i n1
    have n1 := Decidable.not_not.mp n1
    exact ⟨hwf.upd (Or.inr (Or.inr rfl)) (by omega) (by omega) (fun _ c9 u9 e9 hu9 hc9 => by rw [show c9 = c.toNat by omega]; exact Nat.le_refl _), hwz.upd1 (by omega) (by omega) (fun _ => by omega) (by omega)⟩
theorem nx_withdraw {S : gS} {T : gTx} {c u : Int} (hwf : wf S T) (hwz : wz S T) (h : cd_withdraw S c u = 0) : wf (nS_withdraw S c u) T ∧ wz (nS_withdraw S c u) T := by
  unfold cd_withdraw at h
  split at h
  · omega
  · rename_i n1
    have n1 := Decidable.not_not.mp n1
    exact ⟨hwf.upd (Or.inr (Or.inr rfl)) (by omega) (by omega) (fun _ c9 u9 e9 hu9 hc9 => by omega), hwz.upd1 (by omega) (by omega) (fun _ => by omega) (by omega)⟩
theorem nx_land {S : gS} {T : gTx} {c : Int} (hwf : wf S T) (hwz : wz S T) (h : cd_land S T c = 0) : wf (ldS S c.toNat) (ldT S T c.toNat) ∧ wz (ldS S c.toNat) (ldT S T c.toNat) := by
  unfold cd_land at h
  split at h
  · omega
  · rename_i n1
    split at h
    · omega
    · rename_i n2
      have n1 := Decidable.not_not.mp n1
      exact ⟨hwf.land (by omega) (Decidable.not_not.mp n2), hwz.land (by omega)⟩
