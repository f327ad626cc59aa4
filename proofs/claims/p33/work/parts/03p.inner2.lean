/-- the owners of the first e altered lines -/
def alb0 (S : gS) (l : List Int) (e : Nat) : Nat := alb S (l.take e)
theorem alb0_0 (S : gS) (l : List Int) : alb0 S l 0 = 0 := rfl
theorem alb0_e {S : gS} {l : List Int} {e : Nat} (h : l.length ≤ e) : alb0 S l e = alb S l := by unfold alb0; rw [List.take_of_length_le h]

theorem ds_X7_alteredOwners : yX7_alteredOwners.cls ≠ "java/lang/invoke/MethodHandle" ∧ yX7_alteredOwners.cls ≠ "java/lang/invoke/VarHandle" ∧ (parseMethodDescriptor yX7_alteredOwners.desc).map (fun d => d.parameters.length) = some 2 := by decide +kernel
theorem in_X7_alteredOwners_7 : ∀ w ∈ wsX70, w ∈ wsX7_alteredOwners := by decide +kernel
def rX7_alteredOwners : Room := { frames := 3, cells := 0, slots := 0, locals := 71 }
set_option maxHeartbeats 4000000 in
set_option maxRecDepth 100000 in
theorem k_X7_alteredOwners {l : Launch} {Z : gZ} {B : gB} {C0 : gC} {S : gS} {T : gTx} {k1 s1 k2 s2 : Nat} {a b : List Int} (hcs : cs Z B C0 S T) (hcx : cx Z B C0) (hwf : wf S T) (hta : tx Z B C0 k1 s1 a) (htb : tx Z B C0 k2 s2 b) (ha12 : a.length ≤ 12) (hb12 : b.length ≤ 12) (hd1 : k1 + 1 < 10 ∨ 37 < k1) (hd2 : k2 + 1 < 10 ∨ 37 < k2) : Met l yX7_alteredOwners wsX7_alteredOwners rX7_alteredOwners (gPc Z B C0 [.ref (B 0 0), .ref (B k1 s1), .ref (B k2 s2)]) (gQi Z B (fun r C1 => r = zI (alb S (al a b) : Int) ∧ cx Z B C1 ∧ fws C0 C1)) 0 0 (gA Z) := by
  refine g_ofI (cc := cX7_alteredOwners) (maxL := 6) (by decide) rfl (Nat.le_of_ble_eq_true rfl) ?_
  intro p e s m args below meth c Q X kret hW hS ls hl
  have hx := X.1.1
  have hb := X.1.2.1
  have hts := X.1.2.2.2.2
  have hl : lv_has ls 6 [(0, .ref (B 0 0)), (1, .ref (B k1 s1)), (2, .ref (B k2 s2))] := hl
  obtain ⟨hb0, hb1, ⟨F3, hb3, hb3a⟩, ⟨f4, hb4, hb4a, hb4b⟩, ⟨f5, hb5, hb5a, hb5b⟩, ⟨F6, hb6, hb6a⟩, hb7, hb8, hb9, hb10, hb11⟩ := id hcs
  have hwn := hwf.n
  obtain ⟨hs0, hs1, hs2, cf0, mt0, hs3⟩ := id hcx
  refine lv_aload_n hx hb dX7_alteredOwners_0 rfl (lv_at hl 0 rfl) ?_
  refine g_get (ci := 7) X in_X7_alteredOwners_7 rfl hW hb0 9 (by decide) (hts _ (List.mem_of_getElem? (i := 1) rfl)) rfl dX7_alteredOwners_1 ?_
  refine lv_aload_n hx hb dX7_alteredOwners_4 rfl (lv_at hl 1 rfl) ?_
  refine lv_aload_n hx hb dX7_alteredOwners_5 rfl (lv_at hl 2 rfl) ?_
  obtain ⟨n1, f2⟩ := hs0.ob
  refine g_cv (g_runV X (k_X4_find (hs0) hta htb (by omega) (by omega) (by omega) (by omega)) (cwV 2 hts gX7_alteredOwners_X4_find rfl rfl rfl ⟨rfl, ds_X4_find⟩ ⟨Nat.le_of_ble_eq_true rfl, Nat.le_of_ble_eq_true rfl⟩) hW hS f2 rfl rfl hl.1 rfl (Nat.le_of_ble_eq_true rfl) dX7_alteredOwners_6 ⟨Nat.le_of_ble_eq_true rfl, Nat.le_of_ble_eq_true rfl⟩) hS (fun C3 H locs hp4 hW hS => ?_)
  obtain ⟨hsc5, hf6⟩ := hp4
  refine lv_iconst (v := zI (0)) hx hb dX7_alteredOwners_9 rfl ?_
  refine lv_istore_n (lv' := [(3, .int (zI 0)), (0, .ref (B 0 0)), (1, .ref (B k1 s1)), (2, .ref (B k2 s2))]) hx hb dX7_alteredOwners_10 rfl hl (by decide) rfl (fun ls hl => ?_)
  refine lv_iconst (v := zI (0)) hx hb dX7_alteredOwners_11 rfl ?_
  refine lv_istore (lv' := [(4, .int (zI 0)), (3, .int (zI 0)), (0, .ref (B 0 0)), (1, .ref (B k1 s1)), (2, .ref (B k2 s2))]) hx hb dX7_alteredOwners_12 hl (by decide) rfl (fun ls hl => ?_)
  have hl : lv_has ls 6 [(4, .int (zI 0)), (3, .int (zI (alb0 S (al a b) 0 : Int))), (0, .ref (B 0 0)), (1, .ref (B k1 s1)), (2, .ref (B k2 s2))] := hl
  have hal := ed_le a b
  have f7 : C3 0 0 = some (.inr (7, [.ref (B 1 0), .ref (B 3 0), .int (zI (S 0 1 : Int)), .ref (B 4 0), .int (zI (S 0 0 : Int)), .ref (B 5 0), .int (zI (S 0 2 : Int)), .ref (B 6 0), .int (zI (S 0 3 : Int)), .ref (B 10 0), .ref (B 14 0), .ref (B 16 0), .ref (B 18 0)])) := ((hf6 0 0 (by omega)).trans hb0)
  have ht8 : tx Z B C3 1 0 (T 0) := (tx.kept hb1 (hf6 1 0 (by omega)) (hf6 2 0 (by omega)))
  have f9 : C3 3 0 = some (gJ Z 100 F3) := ((hf6 3 0 (by omega)).trans hb3)
  have f10 : C3 4 0 = some (gR Z 1 4 f4) := ((hf6 4 0 (by omega)).trans hb4)
  have f11 : C3 5 0 = some (gR Z 2 12 f5) := ((hf6 5 0 (by omega)).trans hb5)
  have f12 : C3 6 0 = some (gJ Z 4 F6) := ((hf6 6 0 (by omega)).trans hb6)
  have hp13 : wo Z B C3 14 0 := (wo.kept hs1 (hf6 14 0 (by omega)) (hf6 15 0 (by omega)))
  have hp14 : ao Z B C3 16 0 := (ao.kept hs2 (hf6 16 0 (by omega)) (hf6 17 0 (by omega)))
  have ht15 : tx Z B C3 k1 s1 a := (tx.kept hta (hf6 k1 s1 (by omega)) (hf6 (k1 + 1) s1 (by omega)))
  have ht16 : tx Z B C3 k2 s2 b := (tx.kept htb (hf6 k2 s2 (by omega)) (hf6 (k2 + 1) s2 (by omega)))
  have lp14 : ∀ (n : Nat) (e1 : Nat) (H : Heap) (locs : List Loc), (ed a b - e1 < n) → (e1 ≤ ed a b) → gw Z B C3 H → va_S (gA Z) s.heap H locs → ∀ ls : Array Slot, lv_has ls 6 [(0, .ref (B 0 0)), (1, .ref (B k1 s1)), (2, .ref (B k2 s2)), (3, .int (zI (alb0 S (al a b) e1 : Int))), (4, .int (zI (e1 : Int)))] → W p l e rX7_alteredOwners s m args below meth c H locs 0 0 Q (F0 m 14 ls []) := by
    intro n
    induction n with
    | zero =>
      intro e1  H locs hm he1 hW hS ls hl
      exact absurd hm (by omega)
    | succ n ih14 =>
      intro e1  H locs hm he1 hW hS ls hl
      have hbl : alb0 S (al a b) e1 < 32 := albn_lt hwf.rg _
      refine lv_iload hx hb dX7_alteredOwners_14 (lv_at hl 4 rfl) ?_
      refine lv_aload_n hx hb dX7_alteredOwners_16 rfl (lv_at hl 0 rfl) ?_
      refine g_get (ci := 7) X in_X7_alteredOwners_7 rfl hW f7 9 (by decide) (hts _ (List.mem_of_getElem? (i := 1) rfl)) rfl dX7_alteredOwners_17 ?_
      refine g_ci (g_runV X (k_X4_size (a := a) (b := b) hsc5 ) (cwV 0 hts gX7_alteredOwners_X4_size rfl rfl rfl ⟨rfl, ds_X4_size⟩ ⟨Nat.le_of_ble_eq_true rfl, Nat.le_of_ble_eq_true rfl⟩) hW hS hsc5.ob rfl rfl hl.1 rfl (Nat.le_of_ble_eq_true rfl) dX7_alteredOwners_20 ⟨Nat.le_of_ble_eq_true rfl, Nat.le_of_ble_eq_true rfl⟩) hS (fun r19 C17 H locs hp18 hW hS => ?_)
      obtain ⟨rfl, ehp18⟩ := hp18
      rw [ehp18] at hW
      refine z_icmp_ge (tgt := 63) hx hb dX7_alteredOwners_23 (by decide) (⟨by omega, by omega⟩) (⟨by omega, by omega⟩) (fun h_23 => ?_) (fun h_23 => ?_)
      · refine lv_iload_n hx hb dX7_alteredOwners_63 rfl (lv_at hl 3 rfl) ?_
        exact kret _ _ _ _ _ _ _ _ (⟨by rw [alb0_e (by rw [al_length]; omega)], cx.script hcx (hsc5.so) (fun k' i' h => (hf6 k' i' (by omega))), fun k' i' h => (hf6 k' i' (by omega))⟩) hW hS (Nat.le_of_ble_eq_true rfl) (Nat.le_of_ble_eq_true rfl) dX7_alteredOwners_64
      · refine lv_aload_n hx hb dX7_alteredOwners_26 rfl (lv_at hl 0 rfl) ?_
        refine g_get (ci := 7) X in_X7_alteredOwners_7 rfl hW f7 1 (by decide) (hts _ (List.mem_of_getElem? (i := 2) rfl)) rfl dX7_alteredOwners_27 ?_
        refine lv_aload_n hx hb dX7_alteredOwners_30 rfl (lv_at hl 0 rfl) ?_
        refine g_get (ci := 7) X in_X7_alteredOwners_7 rfl hW f7 9 (by decide) (hts _ (List.mem_of_getElem? (i := 1) rfl)) rfl dX7_alteredOwners_31 ?_
        refine lv_iload hx hb dX7_alteredOwners_34 (lv_at hl 4 rfl) ?_
        refine g_ci (g_runV X (k_X4_alteredContent (a := a) (b := b) hsc5 (x := (e1 : Int)) (⟨by omega, by omega⟩) (by omega)) (cwV 1 hts gX7_alteredOwners_X4_alteredContent rfl rfl rfl ⟨rfl, ds_X4_alteredContent⟩ ⟨Nat.le_of_ble_eq_true rfl, Nat.le_of_ble_eq_true rfl⟩) hW hS hsc5.ob rfl rfl hl.1 rfl (Nat.le_of_ble_eq_true rfl) dX7_alteredOwners_36 ⟨Nat.le_of_ble_eq_true rfl, Nat.le_of_ble_eq_true rfl⟩) hS (fun r22 C20 H locs hp21 hW hS => ?_)
        obtain ⟨rfl, ehp21⟩ := hp21
        rw [ehp21] at hW
        have hel : e1 < (al a b).length := by rw [al_length]; omega
        have hcr := al_rng hta.2.1 htb.2.1 (e := e1) (by omega)
        rw [show ((e1 : Int)).toNat = e1 by omega]
        refine g_ci (g_runS X (k_X7_cell (a := ((al a b).getD e1 (-1))) f9 (by decide) (⟨by omega, by omega⟩)) (va_cwS 2 hts gX7_alteredOwners_X7_cell rfl rfl rfl ds_X7_cell ⟨Nat.le_of_ble_eq_true rfl, Nat.le_of_ble_eq_true rfl⟩) hW hS rfl hl.1 rfl (Nat.le_of_ble_eq_true rfl) dX7_alteredOwners_39 ⟨Nat.le_of_ble_eq_true rfl, Nat.le_of_ble_eq_true rfl⟩) hS (fun r25 C23 H locs hp24 hW hS => ?_)
        rw [if_pos (show (0 : Int) ≤ ((al a b).getD e1 (-1)) ∧ ((al a b).getD e1 (-1)) < ((100 : Nat) : Int) from ⟨by omega, by omega⟩)] at hp24
        obtain ⟨rfl, ehp24⟩ := hp24
        rw [ehp24] at hW
        have hor : -1 ≤ ownf S ((al a b).getD e1 (-1)) ∧ ownf S ((al a b).getD e1 (-1)) < 5 := ownr_rng (S := S) (S 0 1) hwf.rg ((al a b).getD e1 (-1))
        have hov : F3 ((al a b).getD e1 (-1)).toNat = ownf S ((al a b).getD e1 (-1)) := by rw [hb3a _ (by omega)]; exact congrArg _ (by omega)
        rw [hov]
        refine lv_istore (lv' := [(5, .int (zI (ownf S ((al a b).getD e1 (-1))))), (0, .ref (B 0 0)), (1, .ref (B k1 s1)), (2, .ref (B k2 s2)), (3, .int (zI (alb0 S (al a b) e1 : Int))), (4, .int (zI (e1 : Int)))]) hx hb dX7_alteredOwners_42 hl (by decide) rfl (fun ls hl => ?_)
        refine lv_iload hx hb dX7_alteredOwners_44 (lv_at hl 0 rfl) ?_
        refine lv_iconst (v := zI (-1)) hx hb dX7_alteredOwners_46 rfl ?_
        refine z_icmp_eq (tgt := 57) hx hb dX7_alteredOwners_47 (by decide) (⟨by omega, by omega⟩) (⟨by omega, by omega⟩) (fun h_47 => ?_) (fun h_47 => ?_)
        · have hq : alb0 S (al a b) (e1 + 1) = alb0 S (al a b) e1 := by unfold alb0; exact (congrArg (alb S) (take_s hel)).trans ((albn_snoc _ _ _ _).trans (if_pos h_47))
          rw [← hq] at hl
          refine z_iinc (lv' := [(4, .int (zI ((e1 : Int) + 1))), (5, .int (zI (ownf S ((al a b).getD e1 (-1))))), (0, .ref (B 0 0)), (1, .ref (B k1 s1)), (2, .ref (B k2 s2)), (3, .int (zI (alb0 S (al a b) (e1 + 1) : Int)))]) hx hb dX7_alteredOwners_57 hl (q := 5) rfl (by decide) rfl (fun ls hl => ?_)
          refine lv_goto (tgt := 14) hx hb dX7_alteredOwners_60 (by decide) ?_
          exact ih14 (e1 + 1) _ _ (by omega) (by omega) hW hS _ (lv_sub hl [2, 3, 4, 5, 0] rfl)
        · refine lv_iload_n hx hb dX7_alteredOwners_50 rfl (lv_at hl 4 rfl) ?_
          refine lv_iload hx hb dX7_alteredOwners_51 (lv_at hl 0 rfl) ?_
          rw [show zI (ownf S ((al a b).getD e1 (-1))) = zI (((ownf S ((al a b).getD e1 (-1))).toNat : Nat) : Int) from congrArg zI (by omega)]
          refine g_ci (g_runS X (k_X7_withBit (nb := (alb0 S (al a b) e1)) (jb := (ownf S ((al a b).getD e1 (-1))).toNat) (hbl) (by omega)) (va_cwS 2 hts gX7_alteredOwners_X7_withBit rfl rfl rfl ds_X7_withBit ⟨Nat.le_of_ble_eq_true rfl, Nat.le_of_ble_eq_true rfl⟩) hW hS rfl hl.1 rfl (Nat.le_of_ble_eq_true rfl) dX7_alteredOwners_53 ⟨Nat.le_of_ble_eq_true rfl, Nat.le_of_ble_eq_true rfl⟩) hS (fun r28 C26 H locs hp27 hW hS => ?_)
          obtain ⟨rfl, ehp27⟩ := hp27
          rw [ehp27] at hW
          refine lv_istore_n (lv' := [(3, .int (zI (bset (alb0 S (al a b) e1) (ownf S ((al a b).getD e1 (-1))).toNat : Int))), (5, .int (zI (ownf S ((al a b).getD e1 (-1))))), (0, .ref (B 0 0)), (1, .ref (B k1 s1)), (2, .ref (B k2 s2)), (4, .int (zI (e1 : Int)))]) hx hb dX7_alteredOwners_56 rfl hl (by decide) rfl (fun ls hl => ?_)
          have hq : alb0 S (al a b) (e1 + 1) = (bset (alb0 S (al a b) e1) (ownf S ((al a b).getD e1 (-1))).toNat) := by unfold alb0; exact (congrArg (alb S) (take_s hel)).trans ((albn_snoc _ _ _ _).trans (if_neg h_47))
          rw [← hq] at hl
          refine z_iinc (lv' := [(4, .int (zI ((e1 : Int) + 1))), (3, .int (zI (alb0 S (al a b) (e1 + 1) : Int))), (5, .int (zI (ownf S ((al a b).getD e1 (-1))))), (0, .ref (B 0 0)), (1, .ref (B k1 s1)), (2, .ref (B k2 s2))]) hx hb dX7_alteredOwners_57 hl (q := 5) rfl (by decide) rfl (fun ls hl => ?_)
          refine lv_goto (tgt := 14) hx hb dX7_alteredOwners_60 (by decide) ?_
          exact ih14 (e1 + 1) _ _ (by omega) (by omega) hW hS _ (lv_sub hl [3, 4, 5, 1, 0] rfl)
  exact lp14 (ed a b + 1) 0 _ _ (by omega) (by omega) hW hS _ (lv_sub hl [2, 3, 4, 1, 0] rfl)

theorem ds_X7_neededUsers : yX7_neededUsers.cls ≠ "java/lang/invoke/MethodHandle" ∧ yX7_neededUsers.cls ≠ "java/lang/invoke/VarHandle" ∧ (parseMethodDescriptor yX7_neededUsers.desc).map (fun d => d.parameters.length) = some 1 := by decide +kernel
theorem in_X7_neededUsers_1 : ∀ w ∈ wsX10, w ∈ wsX7_neededUsers := by decide +kernel
def rX7_neededUsers : Room := { frames := 4, cells := 0, slots := 0, locals := 96 }
set_option maxHeartbeats 4000000 in
set_option maxRecDepth 100000 in
theorem k_X7_neededUsers {l : Launch} {Z : gZ} {B : gB} {C0 : gC} {S : gS} {T : gTx} {i : Nat} (hcs : cs Z B C0 S T) (hcx : cx Z B C0) (hwf : wf S T) (hi : i < S 0 0) : Met l yX7_neededUsers wsX7_neededUsers rX7_neededUsers (gPc Z B C0 [.ref (B 0 0), .ref (B 40 i)]) (gQi Z B (fun r C1 => r = zI (nee S T i : Int) ∧ cx Z B C1 ∧ fws C0 C1)) 0 0 (gA Z) := by
  refine g_ofI (cc := cX7_neededUsers) (maxL := 2) (by decide) rfl (Nat.le_of_ble_eq_true rfl) ?_
  intro p e s m args below meth c Q X kret hW hS ls hl
  have hx := X.1.1
  have hb := X.1.2.1
  have hts := X.1.2.2.2.2
  have hl : lv_has ls 2 [(0, .ref (B 0 0)), (1, .ref (B 40 i))] := hl
  obtain ⟨hb0, hb1, ⟨F3, hb3, hb3a⟩, ⟨f4, hb4, hb4a, hb4b⟩, ⟨f5, hb5, hb5a, hb5b⟩, ⟨F6, hb6, hb6a⟩, hb7, hb8, hb9, hb10, hb11⟩ := id hcs
  have hwn := hwf.n
  obtain ⟨hc0, hc1, hc2, ⟨f45, hc3, hc3a, hc3b⟩, hc4, hc4n, hc5, F50, hc6, hc6a⟩ := id (cs.ch hcs hi)
  have hwi := hwf.ch hi
  refine lv_aload_n hx hb dX7_neededUsers_0 rfl (lv_at hl 1 rfl) ?_
  refine g_getN (ci := 1) X in_X7_neededUsers_1 rfl hW hc0 6 (by decide) _ nf_1 rfl rfl dX7_neededUsers_1 ?_
  refine z_if_ne (tgt := 9) hx hb dX7_neededUsers_4 (by decide) (⟨by omega, by omega⟩) (fun h_4 => ?_) (fun h_4 => ?_)
  · refine lv_aload_n hx hb dX7_neededUsers_9 rfl (lv_at hl 0 rfl) ?_
    refine lv_aload_n hx hb dX7_neededUsers_10 rfl (lv_at hl 1 rfl) ?_
    refine g_getN (ci := 1) X in_X7_neededUsers_1 rfl hW hc0 2 (by decide) _ nf_10 rfl rfl dX7_neededUsers_11 ?_
    refine lv_aload_n hx hb dX7_neededUsers_14 rfl (lv_at hl 1 rfl) ?_
    refine g_cr (g_runV X (k_X1_presentText hcs hwf hi (by omega)) (cwV 0 hts gX7_neededUsers_X1_presentText rfl rfl rfl ⟨rfl, ds_X1_presentText⟩ ⟨Nat.le_of_ble_eq_true rfl, Nat.le_of_ble_eq_true rfl⟩) hW hS hc0 rfl rfl hl.1 rfl (Nat.le_of_ble_eq_true rfl) dX7_neededUsers_15 ⟨Nat.le_of_ble_eq_true rfl, Nat.le_of_ble_eq_true rfl⟩) hS (fun r3 C1 H locs hp2 hW hS => ?_)
    obtain ⟨rfl, ehp2⟩ := hp2
    rw [ehp2] at hW
    refine g_ci (g_runV X (k_X7_alteredOwners hcs hcx hwf hc1 (hc4 (S 2 i - 1) (by omega)) (hwf.tx _) (hwf.tx _) (by omega) (by omega)) (cwV 2 hts gX7_neededUsers_X7_alteredOwners rfl rfl rfl ⟨rfl, ds_X7_alteredOwners⟩ ⟨Nat.le_of_ble_eq_true rfl, Nat.le_of_ble_eq_true rfl⟩) hW hS hb0 rfl rfl hl.1 rfl (Nat.le_of_ble_eq_true rfl) dX7_neededUsers_18 ⟨Nat.le_of_ble_eq_true rfl, Nat.le_of_ble_eq_true rfl⟩) hS (fun r6 C4 H locs hp5 hW hS => ?_)
    obtain ⟨e7, hx8, hf9⟩ := hp5
    rw [e7]
    refine lv_aload_n hx hb dX7_neededUsers_21 rfl (lv_at hl 1 rfl) ?_
    have f10 : C4 40 i = some (.inr (1, [.int (zI (i : Int)), .int (zI (S 1 i : Int)), .ref (B 41 i), .ref (B 43 i), .ref (B 45 i), .ref (B 48 i), .int (zI (S 2 i : Int)), .int (zI (S 4 i : Int)), .int (zI (S 5 i : Int)), .int (zI (S 3 i : Int)), .ref (B 50 i)])) := ((hf9 40 i (by omega)).trans hc0)
    refine g_getN (ci := 1) X in_X7_neededUsers_1 rfl hW f10 1 (by decide) _ nf_6 rfl rfl dX7_neededUsers_22 ?_
    refine g_ci (g_runS X (k_X7_withoutBit (nb := (alb S (al (T (1 + i)) (T (9 + 4 * i + (S 2 i - 1)))))) (jb := (S 1 i)) (albn_lt hwf.rg _) (hwi.1)) (va_cwS 2 hts gX7_neededUsers_X7_withoutBit rfl rfl rfl ds_X7_withoutBit ⟨Nat.le_of_ble_eq_true rfl, Nat.le_of_ble_eq_true rfl⟩) hW hS rfl hl.1 rfl (Nat.le_of_ble_eq_true rfl) dX7_neededUsers_25 ⟨Nat.le_of_ble_eq_true rfl, Nat.le_of_ble_eq_true rfl⟩) hS (fun r13 C11 H locs hp12 hW hS => ?_)
    obtain ⟨rfl, ehp12⟩ := hp12
    rw [ehp12] at hW
    exact kret _ _ _ _ _ _ _ _ (⟨by rw [nee, if_neg (by omega)], hx8, fun k' i' h => (hf9 k' i' (by omega))⟩) hW hS (Nat.le_of_ble_eq_true rfl) (Nat.le_of_ble_eq_true rfl) dX7_neededUsers_28
  · refine lv_iconst (v := zI (0)) hx hb dX7_neededUsers_7 rfl ?_
    exact kret _ _ _ _ _ _ _ _ (⟨by rw [nee, if_pos (by omega)]; rfl, hcx, fws.rfl'⟩) hW hS (Nat.le_of_ble_eq_true rfl) (Nat.le_of_ble_eq_true rfl) dX7_neededUsers_8

theorem ds_X7_freshUsers : yX7_freshUsers.cls ≠ "java/lang/invoke/MethodHandle" ∧ yX7_freshUsers.cls ≠ "java/lang/invoke/VarHandle" ∧ (parseMethodDescriptor yX7_freshUsers.desc).map (fun d => d.parameters.length) = some 1 := by decide +kernel
theorem in_X7_freshUsers_1 : ∀ w ∈ wsX10, w ∈ wsX7_freshUsers := by decide +kernel
def rX7_freshUsers : Room := { frames := 4, cells := 0, slots := 0, locals := 96 }
set_option maxHeartbeats 4000000 in
set_option maxRecDepth 100000 in
theorem k_X7_freshUsers {l : Launch} {Z : gZ} {B : gB} {C0 : gC} {S : gS} {T : gTx} {i : Nat} (hcs : cs Z B C0 S T) (hcx : cx Z B C0) (hwf : wf S T) (hi : i < S 0 0) : Met l yX7_freshUsers wsX7_freshUsers rX7_freshUsers (gPc Z B C0 [.ref (B 0 0), .ref (B 40 i)]) (gQi Z B (fun r C1 => r = zI (fre S T i : Int) ∧ cx Z B C1 ∧ fws C0 C1)) 0 0 (gA Z) := by
  refine g_ofI (cc := cX7_freshUsers) (maxL := 5) (by decide) rfl (Nat.le_of_ble_eq_true rfl) ?_
  intro p e s m args below meth c Q X kret hW hS ls hl
  have hx := X.1.1
  have hb := X.1.2.1
  have hts := X.1.2.2.2.2
  have hl : lv_has ls 5 [(0, .ref (B 0 0)), (1, .ref (B 40 i))] := hl
  obtain ⟨hb0, hb1, ⟨F3, hb3, hb3a⟩, ⟨f4, hb4, hb4a, hb4b⟩, ⟨f5, hb5, hb5a, hb5b⟩, ⟨F6, hb6, hb6a⟩, hb7, hb8, hb9, hb10, hb11⟩ := id hcs
  have hwn := hwf.n
  obtain ⟨hc0, hc1, hc2, ⟨f45, hc3, hc3a, hc3b⟩, hc4, hc4n, hc5, F50, hc6, hc6a⟩ := id (cs.ch hcs hi)
  have hwi := hwf.ch hi
  refine lv_iconst (v := zI (0)) hx hb dX7_freshUsers_0 rfl ?_
  refine lv_istore_n (lv' := [(2, .int (zI 0)), (0, .ref (B 0 0)), (1, .ref (B 40 i))]) hx hb dX7_freshUsers_1 rfl hl (by decide) rfl (fun ls hl => ?_)
  refine lv_iconst (v := zI (0)) hx hb dX7_freshUsers_2 rfl ?_
  refine lv_istore_n (lv' := [(3, .int (zI 0)), (2, .int (zI 0)), (0, .ref (B 0 0)), (1, .ref (B 40 i))]) hx hb dX7_freshUsers_3 rfl hl (by decide) rfl (fun ls hl => ?_)
  refine lv_aload_n hx hb dX7_freshUsers_4 rfl (lv_at hl 3 rfl) ?_
  refine g_getN (ci := 1) X in_X7_freshUsers_1 rfl hW hc0 6 (by decide) _ nf_1 rfl rfl dX7_freshUsers_5 ?_
  refine lv_iconst (v := zI (1)) hx hb dX7_freshUsers_8 rfl ?_
  refine z_isub hx hb dX7_freshUsers_9 ?_
  refine lv_istore (lv' := [(4, .int (zI ((S 2 i : Int) - 1))), (3, .int (zI 0)), (2, .int (zI 0)), (0, .ref (B 0 0)), (1, .ref (B 40 i))]) hx hb dX7_freshUsers_10 hl (by decide) rfl (fun ls hl => ?_)
  have lp12 : ∀ (n : Nat) (rr f a : Nat) (Cl : gC) (H : Heap) (locs : List Loc), (rr < n) → (rr ≤ S 2 i) → (f < 32) → (∀ u, u < 5 → f.testBit u = (decide (rr + 1 ≤ S 7 (5 * i + u)) && !old S T i u (S 7 (5 * i + u)))) → (a < 32) → (1 ≤ rr → ∀ u, u < 5 → a.testBit u = old S T i u rr) → (cs Z B Cl S T) → (cx Z B Cl) → (fws C0 Cl) → gw Z B Cl H → va_S (gA Z) s.heap H locs → ∀ ls : Array Slot, lv_has ls 5 [(0, .ref (B 0 0)), (1, .ref (B 40 i)), (2, .int (zI (f : Int))), (3, .int (zI (a : Int))), (4, .int (zI ((rr : Int) - 1)))] → W p l e rX7_freshUsers s m args below meth c H locs 0 0 Q (F0 m 12 ls []) := by
    intro n
    induction n with
    | zero =>
      intro rr f a Cl H locs hm hrr hf5 hft ha5 hat hcsl hcxl hfl hW hS ls hl
      exact absurd hm (by omega)
    | succ n ih12 =>
      intro rr f a Cl H locs hm hrr hf5 hft ha5 hat hcsl hcxl hfl hW hS ls hl
      obtain ⟨hc0l, hc1l, hc2l, ⟨f45l, hc3l, hc3al, hc3bl⟩, hc4l, hc4nl, hc5l, F50l, hc6l, hc6al⟩ := id (cs.ch hcsl hi)
      refine lv_iload hx hb dX7_freshUsers_12 (lv_at hl 4 rfl) ?_
      refine z_if_lt (tgt := 62) hx hb dX7_freshUsers_14 (by decide) (⟨by omega, by omega⟩) (fun h_14 => ?_) (fun h_14 => ?_)
      · refine lv_iload_n hx hb dX7_freshUsers_62 rfl (lv_at hl 2 rfl) ?_
        obtain rfl : rr = 0 := by omega
        exact kret _ _ _ _ _ _ _ _ (⟨by rw [fr_end hf5 hft], hcxl, hfl⟩) hW hS (Nat.le_of_ble_eq_true rfl) (Nat.le_of_ble_eq_true rfl) dX7_freshUsers_63
      · refine lv_iload_n hx hb dX7_freshUsers_17 rfl (lv_at hl 2 rfl) ?_
        refine lv_aload_n hx hb dX7_freshUsers_18 rfl (lv_at hl 1 rfl) ?_
        refine lv_iload hx hb dX7_freshUsers_19 (lv_at hl 4 rfl) ?_
        refine g_ci (g_runV X (k_X1_approversOf (a := ((rr : Int) - 1)) (r := (rr - 1)) hcsl hwf hi (by omega) (by omega)) (cwV 1 hts gX7_freshUsers_X1_approversOf rfl rfl rfl ⟨rfl, ds_X1_approversOf⟩ ⟨Nat.le_of_ble_eq_true rfl, Nat.le_of_ble_eq_true rfl⟩) hW hS hc0l rfl rfl hl.1 rfl (Nat.le_of_ble_eq_true rfl) dX7_freshUsers_21 ⟨Nat.le_of_ble_eq_true rfl, Nat.le_of_ble_eq_true rfl⟩) hS (fun r3 C1 H locs hp2 hW hS => ?_)
        obtain ⟨rfl, ehp2⟩ := hp2
        rw [ehp2] at hW
        refine lv_iload_n hx hb dX7_freshUsers_24 rfl (lv_at hl 3 rfl) ?_
        refine lv_iconst (v := zI (-1)) hx hb dX7_freshUsers_25 rfl ?_
        refine lv_ixor hx hb dX7_freshUsers_26 ?_
        refine lv_iand hx hb dX7_freshUsers_27 ?_
        rw [show ((zI ((mkb (fun u => decide (S 7 (5 * i + u) = (rr - 1) + 1)) 5 : Nat) : Int)) &&& ((zI (a : Int)) ^^^ (zI (-1)))) = zI (bdif (mkb (fun u => decide (S 7 (5 * i + u) = (rr - 1) + 1)) 5) a : Int) from bdif_i (mkb_lt _ 5 (by omega)) ha5]
        refine lv_ior hx hb dX7_freshUsers_28 ?_
        rw [show ((zI (f : Int)) ||| (zI (bdif (mkb (fun u => decide (S 7 (5 * i + u) = (rr - 1) + 1)) 5) a : Int))) = zI ((f ||| bdif (mkb (fun u => decide (S 7 (5 * i + u) = (rr - 1) + 1)) 5) a : Nat) : Int) from bor_i hf5 (bdif_lt (mkb_lt _ 5 (by omega)) ha5)]
        refine lv_istore_n (lv' := [(2, .int (zI ((f ||| bdif (mkb (fun u => decide (S 7 (5 * i + u) = (rr - 1) + 1)) 5) a : Nat) : Int))), (0, .ref (B 0 0)), (1, .ref (B 40 i)), (3, .int (zI (a : Int))), (4, .int (zI ((rr : Int) - 1)))]) hx hb dX7_freshUsers_29 rfl hl (by decide) rfl (fun ls hl => ?_)
        refine lv_iload hx hb dX7_freshUsers_30 (lv_at hl 4 rfl) ?_
        refine z_if_le (tgt := 56) hx hb dX7_freshUsers_32 (by decide) (⟨by omega, by omega⟩) (fun h_32 => ?_) (fun h_32 => ?_)
        · refine z_iinc (lv' := [(4, .int (zI (((rr : Int) - 1) + (-1)))), (2, .int (zI ((f ||| bdif (mkb (fun u => decide (S 7 (5 * i + u) = (rr - 1) + 1)) 5) a : Nat) : Int))), (0, .ref (B 0 0)), (1, .ref (B 40 i)), (3, .int (zI (a : Int)))]) hx hb dX7_freshUsers_56 hl (q := 4) rfl (by decide) rfl (fun ls hl => ?_)
          refine lv_goto (tgt := 12) hx hb dX7_freshUsers_59 (by decide) ?_
          rw [show ((rr : Int) - 1 + -1) = ((rr - 1 : Nat) : Int) - 1 by omega] at hl
          exact ih12 (rr - 1) (f ||| bdif (mkb (fun u => decide (S 7 (5 * i + u) = (rr - 1) + 1)) 5) a) a _ _ _ (by omega) (by omega) (fr_step hf5 ha5 (by omega) hft (hat (by omega))).1 (fr_step hf5 ha5 (by omega) hft (hat (by omega))).2 ha5 (fun z => absurd z (by omega)) hcsl hcxl (hfl) hW hS _ (lv_sub hl [2, 3, 1, 4, 0] rfl)
        · refine lv_iload_n hx hb dX7_freshUsers_35 rfl (lv_at hl 3 rfl) ?_
          refine lv_aload_n hx hb dX7_freshUsers_36 rfl (lv_at hl 1 rfl) ?_
          refine lv_aload_n hx hb dX7_freshUsers_37 rfl (lv_at hl 2 rfl) ?_
          refine lv_iload hx hb dX7_freshUsers_38 (lv_at hl 4 rfl) ?_
          refine lv_iconst (v := zI (1)) hx hb dX7_freshUsers_40 rfl ?_
          refine z_isub hx hb dX7_freshUsers_41 ?_
          refine g_cr (g_runV X (k_X1_textOf (a := (((rr : Int) - 1) - 1)) (r := (rr - 1 - 1)) hcsl hwf hi (by omega) (by omega)) (cwV 1 hts gX7_freshUsers_X1_textOf rfl rfl rfl ⟨rfl, ds_X1_textOf⟩ ⟨Nat.le_of_ble_eq_true rfl, Nat.le_of_ble_eq_true rfl⟩) hW hS hc0l rfl rfl hl.1 rfl (Nat.le_of_ble_eq_true rfl) dX7_freshUsers_42 ⟨Nat.le_of_ble_eq_true rfl, Nat.le_of_ble_eq_true rfl⟩) hS (fun r6 C4 H locs hp5 hW hS => ?_)
          obtain ⟨rfl, ehp5⟩ := hp5
          rw [ehp5] at hW
          refine lv_aload_n hx hb dX7_freshUsers_45 rfl (lv_at hl 2 rfl) ?_
          refine lv_iload hx hb dX7_freshUsers_46 (lv_at hl 4 rfl) ?_
          refine g_cr (g_runV X (k_X1_textOf (a := ((rr : Int) - 1)) (r := (rr - 1)) hcsl hwf hi (by omega) (by omega)) (cwV 1 hts gX7_freshUsers_X1_textOf rfl rfl rfl ⟨rfl, ds_X1_textOf⟩ ⟨Nat.le_of_ble_eq_true rfl, Nat.le_of_ble_eq_true rfl⟩) hW hS hc0l rfl rfl hl.1 rfl (Nat.le_of_ble_eq_true rfl) dX7_freshUsers_48 ⟨Nat.le_of_ble_eq_true rfl, Nat.le_of_ble_eq_true rfl⟩) hS (fun r9 C7 H locs hp8 hW hS => ?_)
          obtain ⟨rfl, ehp8⟩ := hp8
          rw [ehp8] at hW
          refine g_ci (g_runV X (k_X7_alteredOwners hcsl hcxl hwf (hc4l (rr - 1 - 1) (by omega)) (hc4l (rr - 1) (by omega)) (hwf.tx _) (hwf.tx _) (by omega) (by omega)) (cwV 2 hts gX7_freshUsers_X7_alteredOwners rfl rfl rfl ⟨rfl, ds_X7_alteredOwners⟩ ⟨Nat.le_of_ble_eq_true rfl, Nat.le_of_ble_eq_true rfl⟩) hW hS (id hcsl).1 rfl rfl hl.1 rfl (Nat.le_of_ble_eq_true rfl) dX7_freshUsers_51 ⟨Nat.le_of_ble_eq_true rfl, Nat.le_of_ble_eq_true rfl⟩) hS (fun r12 C10 H locs hp11 hW hS => ?_)
          obtain ⟨e13, hx14, hf15⟩ := hp11
          rw [e13]
          refine lv_ior hx hb dX7_freshUsers_54 ?_
          rw [show ((zI (a : Int)) ||| (zI (alb S (al (T (9 + 4 * i + (rr - 1 - 1))) (T (9 + 4 * i + (rr - 1)))) : Int))) = zI ((a ||| alb S (al (T (9 + 4 * i + (rr - 1 - 1))) (T (9 + 4 * i + (rr - 1)))) : Nat) : Int) from bor_i ha5 (albn_lt hwf.rg _)]
          refine lv_istore_n (lv' := [(3, .int (zI ((a ||| alb S (al (T (9 + 4 * i + (rr - 1 - 1))) (T (9 + 4 * i + (rr - 1)))) : Nat) : Int))), (2, .int (zI ((f ||| bdif (mkb (fun u => decide (S 7 (5 * i + u) = (rr - 1) + 1)) 5) a : Nat) : Int))), (0, .ref (B 0 0)), (1, .ref (B 40 i)), (4, .int (zI ((rr : Int) - 1)))]) hx hb dX7_freshUsers_55 rfl hl (by decide) rfl (fun ls hl => ?_)
          refine z_iinc (lv' := [(4, .int (zI (((rr : Int) - 1) + (-1)))), (3, .int (zI ((a ||| alb S (al (T (9 + 4 * i + (rr - 1 - 1))) (T (9 + 4 * i + (rr - 1)))) : Nat) : Int))), (2, .int (zI ((f ||| bdif (mkb (fun u => decide (S 7 (5 * i + u) = (rr - 1) + 1)) 5) a : Nat) : Int))), (0, .ref (B 0 0)), (1, .ref (B 40 i))]) hx hb dX7_freshUsers_56 hl (q := 4) rfl (by decide) rfl (fun ls hl => ?_)
          refine lv_goto (tgt := 12) hx hb dX7_freshUsers_59 (by decide) ?_
          rw [show ((rr : Int) - 1 + -1) = ((rr - 1 : Nat) : Int) - 1 by omega] at hl
          exact ih12 (rr - 1) (f ||| bdif (mkb (fun u => decide (S 7 (5 * i + u) = (rr - 1) + 1)) 5) a) (a ||| alb S (al (rdt T i (rr - 1 - 1)) (rdt T i (rr - 1)))) _ _ _ (by omega) (by omega) (fr_step hf5 ha5 (by omega) hft (hat (by omega))).1 (fr_step hf5 ha5 (by omega) hft (hat (by omega))).2 (al_step hwf.rg ha5 (by omega) hrr (hat (by omega))).1 (fun _ => (al_step hwf.rg ha5 (by omega) hrr (hat (by omega))).2) (cs.kept hcsl (fun k' i' h' => hf15 (k') (i') (by omega))) hx14 (fws.trans hfl (fun k' i' h => (hf15 k' i' (by omega)))) hW hS _ (lv_sub hl [3, 4, 2, 1, 0] rfl)
  exact lp12 5 (S 2 i) 0 0 _ _ _ (by omega) (Nat.le_refl _) (by decide) (fun u hu => by have := hwi.2.2.2.2.2 u hu; rw [decide_eq_false (by omega)]; simp) (by decide) (fun _ u hu => by rw [old_end (Nat.le_refl _)]; simp) hcs hcx fws.rfl' hW hS _ (lv_sub hl [3, 4, 2, 1, 0] rfl)

theorem plb_rng {S : gS} {T : gTx} (hwf : wf S T) {o : Nat} : ∀ {n st x y : Nat}, plb T o n st (some x) = some y → x ≤ 12 → y ≤ 12
  | 0, st, x, y, h, hx => by cases h; exact hx
  | n + 1, st, x, y, h, hx => by
    change plb T o n (st - 1) (kf (rdt T o (st - 1)) (rdt T o st) x) = some y at h
    cases hk : kf (rdt T o (st - 1)) (rdt T o st) x with
    | none => rw [hk, plb_none] at h; cases h
    | some z =>
      rw [hk] at h
      have h1 := (kf_lt _ _ _ _ hk).1
      have h2 : (rdt T o (st - 1)).length ≤ 12 := hwf.tx _
      exact plb_rng hwf h (by omega)

theorem ds_X7_placeForwards : yX7_placeForwards.cls ≠ "java/lang/invoke/MethodHandle" ∧ yX7_placeForwards.cls ≠ "java/lang/invoke/VarHandle" ∧ (parseMethodDescriptor yX7_placeForwards.desc).map (fun d => d.parameters.length) = some 2 := by decide +kernel
theorem in_X7_placeForwards_3 : ∀ w ∈ wsX30, w ∈ wsX7_placeForwards := by decide +kernel
theorem in_X7_placeForwards_7 : ∀ w ∈ wsX70, w ∈ wsX7_placeForwards := by decide +kernel
def rX7_placeForwards : Room := { frames := 3, cells := 0, slots := 0, locals := 71 }
set_option maxHeartbeats 4000000 in
set_option maxRecDepth 100000 in
theorem k_X7_placeForwards {l : Launch} {Z : gZ} {B : gB} {C0 : gC} {S : gS} {T : gTx} {q rd : Nat} {a : Int} (hcs : cs Z B C0 S T) (hcx : cx Z B C0) (hwf : wf S T) (hq : q < S 0 2) (ha : a = (rd : Int)) (hrd : S 12 q ≤ rd ∧ rd < S 2 (S 11 q)) : Met l yX7_placeForwards wsX7_placeForwards rX7_placeForwards (gPc Z B C0 [.ref (B 0 0), .ref (B 60 q), .int (zI a)]) (gQi Z B (fun r C1 => r = zI (enc (plc T (S 11 q) (rd - S 12 q) (S 12 q) (some (S 13 q)))) ∧ cx Z B C1 ∧ fws C0 C1)) 0 0 (gA Z) := by
  refine g_ofI (cc := cX7_placeForwards) (maxL := 5) (by decide) rfl (Nat.le_of_ble_eq_true rfl) ?_
  intro p e s m args below meth c Q X kret hW hS ls hl
  have hx := X.1.1
  have hb := X.1.2.1
  have hts := X.1.2.2.2.2
  have hl : lv_has ls 5 [(0, .ref (B 0 0)), (1, .ref (B 60 q)), (2, .int (zI a))] := hl
  have hr0 := hcs.2.2.2.2.2.2.2.1 q hq
  have hwq := hwf.rm hq
  have hio := hwq.1
  have hwo := hwf.ch hio
  subst ha
  refine lv_aload_n hx hb dX7_placeForwards_0 rfl (lv_at hl 1 rfl) ?_
  refine g_getN (ci := 3) X in_X7_placeForwards_3 rfl hW hr0 2 (by decide) _ nf_14 rfl rfl dX7_placeForwards_1 ?_
  refine lv_istore_n (lv' := [(3, .int (zI (S 13 q : Int))), (0, .ref (B 0 0)), (1, .ref (B 60 q)), (2, .int (zI (rd : Int)))]) hx hb dX7_placeForwards_4 rfl hl (by decide) rfl (fun ls hl => ?_)
  refine lv_aload_n hx hb dX7_placeForwards_5 rfl (lv_at hl 2 rfl) ?_
  refine g_getN (ci := 3) X in_X7_placeForwards_3 rfl hW hr0 1 (by decide) _ nf_9 rfl rfl dX7_placeForwards_6 ?_
  refine lv_istore (lv' := [(4, .int (zI (S 12 q : Int))), (3, .int (zI (S 13 q : Int))), (0, .ref (B 0 0)), (1, .ref (B 60 q)), (2, .int (zI (rd : Int)))]) hx hb dX7_placeForwards_9 hl (by decide) rfl (fun ls hl => ?_)
  have lp11 : ∀ (n : Nat) (st : Nat) (po : Option Nat) (Cl : gC) (H : Heap) (locs : List Loc), (rd - st < n) → (S 12 q ≤ st ∧ st ≤ rd) → (plc T (S 11 q) (rd - st) st po = plc T (S 11 q) (rd - S 12 q) (S 12 q) (some (S 13 q))) → (∀ x, po = some x → x < (rdt T (S 11 q) st).length) → (cs Z B Cl S T) → (cx Z B Cl) → (fws C0 Cl) → gw Z B Cl H → va_S (gA Z) s.heap H locs → ∀ ls : Array Slot, lv_has ls 5 [(0, .ref (B 0 0)), (1, .ref (B 60 q)), (2, .int (zI (rd : Int))), (3, .int (zI (enc po))), (4, .int (zI (st : Int)))] → W p l e rX7_placeForwards s m args below meth c H locs 0 0 Q (F0 m 11 ls []) := by
    intro n
    induction n with
    | zero =>
      intro st po Cl H locs hm hst hpp hpl hcsl hcxl hfl hW hS ls hl
      exact absurd hm (by omega)
    | succ n ih11 =>
      intro st po Cl H locs hm hst hpp hpl hcsl hcxl hfl hW hS ls hl
      obtain ⟨hc0l, hc1l, hc2l, ⟨f45l, hc3l, hc3al, hc3bl⟩, hc4l, hc4nl, hc5l, F50l, hc6l, hc6al⟩ := id (cs.ch hcsl hio)
      obtain ⟨hs0l, hs1l, hs2l, cf0l, mt0l, hs3l⟩ := id hcxl
      have heg := enc_rng po
      refine lv_iload hx hb dX7_placeForwards_11 (lv_at hl 4 rfl) ?_
      refine lv_iload_n hx hb dX7_placeForwards_13 rfl (lv_at hl 2 rfl) ?_
      refine z_icmp_ge (tgt := 64) hx hb dX7_placeForwards_14 (by decide) (⟨by omega, by omega⟩) (⟨by omega, by omega⟩) (fun h_14 => ?_) (fun h_14 => ?_)
      · refine lv_iload_n hx hb dX7_placeForwards_64 rfl (lv_at hl 3 rfl) ?_
        exact kret _ _ _ _ _ _ _ _ (⟨by rw [← hpp, show rd - st = 0 by omega]; rfl, hcxl, hfl⟩) hW hS (Nat.le_of_ble_eq_true rfl) (Nat.le_of_ble_eq_true rfl) dX7_placeForwards_65
      · refine lv_iload_n hx hb dX7_placeForwards_17 rfl (lv_at hl 3 rfl) ?_
        refine lv_iconst (v := zI (-1)) hx hb dX7_placeForwards_18 rfl ?_
        refine z_icmp_eq (tgt := 64) hx hb dX7_placeForwards_19 (by decide) (⟨by omega, by cases po with | none => decide | some x => have h9 := hpl x rfl; have h8 : (rdt T (S 11 q) st).length ≤ 12 := hwf.tx _; simp only [enc]; omega⟩) (⟨by omega, by omega⟩) (fun h_19 => ?_) (fun h_19 => ?_)
        · refine lv_iload_n hx hb dX7_placeForwards_64 rfl (lv_at hl 3 rfl) ?_
          exact kret _ _ _ _ _ _ _ _ (⟨by rw [← hpp, enc_n h_19, plc_none], hcxl, hfl⟩) hW hS (Nat.le_of_ble_eq_true rfl) (Nat.le_of_ble_eq_true rfl) dX7_placeForwards_65
        · obtain ⟨x, rfl⟩ := enc_s h_19
          have hxl := hpl x rfl
          have hl : lv_has ls 5 [(0, .ref (B 0 0)), (1, .ref (B 60 q)), (2, .int (zI (rd : Int))), (3, .int (zI (x : Int))), (4, .int (zI (st : Int)))] := hl
          refine lv_aload_n hx hb dX7_placeForwards_22 rfl (lv_at hl 0 rfl) ?_
          refine g_get (ci := 7) X in_X7_placeForwards_7 rfl hW (id hcsl).1 9 (by decide) (hts _ (List.mem_of_getElem? (i := 1) rfl)) rfl dX7_placeForwards_23 ?_
          refine lv_aload_n hx hb dX7_placeForwards_26 rfl (lv_at hl 1 rfl) ?_
          refine g_getN (ci := 3) X in_X7_placeForwards_3 rfl hW (hcsl.2.2.2.2.2.2.2.1 q hq) 0 (by decide) _ nf_5 rfl rfl dX7_placeForwards_27 ?_
          refine lv_iload hx hb dX7_placeForwards_30 (lv_at hl 4 rfl) ?_
          refine g_cr (g_runV X (k_X1_textOf (a := (st : Int)) (r := st) hcsl hwf hio (by omega) (by omega)) (cwV 1 hts gX7_placeForwards_X1_textOf rfl rfl rfl ⟨rfl, ds_X1_textOf⟩ ⟨Nat.le_of_ble_eq_true rfl, Nat.le_of_ble_eq_true rfl⟩) hW hS hc0l rfl rfl hl.1 rfl (Nat.le_of_ble_eq_true rfl) dX7_placeForwards_32 ⟨Nat.le_of_ble_eq_true rfl, Nat.le_of_ble_eq_true rfl⟩) hS (fun r3 C1 H locs hp2 hW hS => ?_)
          obtain ⟨rfl, ehp2⟩ := hp2
          rw [ehp2] at hW
          refine lv_aload_n hx hb dX7_placeForwards_35 rfl (lv_at hl 1 rfl) ?_
          refine g_getN (ci := 3) X in_X7_placeForwards_3 rfl hW (hcsl.2.2.2.2.2.2.2.1 q hq) 0 (by decide) _ nf_5 rfl rfl dX7_placeForwards_36 ?_
          refine lv_iload hx hb dX7_placeForwards_39 (lv_at hl 4 rfl) ?_
          refine lv_iconst (v := zI (1)) hx hb dX7_placeForwards_41 rfl ?_
          refine z_iadd hx hb dX7_placeForwards_42 ?_
          refine g_cr (g_runV X (k_X1_textOf (a := ((st : Int) + 1)) (r := (st + 1)) hcsl hwf hio (by omega) (by omega)) (cwV 1 hts gX7_placeForwards_X1_textOf rfl rfl rfl ⟨rfl, ds_X1_textOf⟩ ⟨Nat.le_of_ble_eq_true rfl, Nat.le_of_ble_eq_true rfl⟩) hW hS hc0l rfl rfl hl.1 rfl (Nat.le_of_ble_eq_true rfl) dX7_placeForwards_43 ⟨Nat.le_of_ble_eq_true rfl, Nat.le_of_ble_eq_true rfl⟩) hS (fun r6 C4 H locs hp5 hW hS => ?_)
          obtain ⟨rfl, ehp5⟩ := hp5
          rw [ehp5] at hW
          obtain ⟨n7, f8⟩ := hs0l.ob
          refine g_cv (g_runV X (k_X4_find (hs0l) (hc4l st (by omega)) (hc4l (st + 1) (by omega)) (hwf.tx _) (hwf.tx _) (by omega) (by omega)) (cwV 2 hts gX7_placeForwards_X4_find rfl rfl rfl ⟨rfl, ds_X4_find⟩ ⟨Nat.le_of_ble_eq_true rfl, Nat.le_of_ble_eq_true rfl⟩) hW hS f8 rfl rfl hl.1 rfl (Nat.le_of_ble_eq_true rfl) dX7_placeForwards_46 ⟨Nat.le_of_ble_eq_true rfl, Nat.le_of_ble_eq_true rfl⟩) hS (fun C9 H locs hp10 hW hS => ?_)
          obtain ⟨hsc11, hf12⟩ := hp10
          refine lv_aload_n hx hb dX7_placeForwards_49 rfl (lv_at hl 0 rfl) ?_
          have f13 : C9 0 0 = some (.inr (7, [.ref (B 1 0), .ref (B 3 0), .int (zI (S 0 1 : Int)), .ref (B 4 0), .int (zI (S 0 0 : Int)), .ref (B 5 0), .int (zI (S 0 2 : Int)), .ref (B 6 0), .int (zI (S 0 3 : Int)), .ref (B 10 0), .ref (B 14 0), .ref (B 16 0), .ref (B 18 0)])) := ((hf12 0 0 (by omega)).trans (id hcsl).1)
          refine g_get (ci := 7) X in_X7_placeForwards_7 rfl hW f13 9 (by decide) (hts _ (List.mem_of_getElem? (i := 1) rfl)) rfl dX7_placeForwards_50 ?_
          refine lv_iload_n hx hb dX7_placeForwards_53 rfl (lv_at hl 3 rfl) ?_
          refine g_ci (g_runV X (k_X4_keptAs (a := (T (9 + 4 * (S 11 q) + st))) (b := (T (9 + 4 * (S 11 q) + (st + 1)))) hsc11 (x := (x : Int)) (⟨by omega, (by have h7 : x < (rdt T (S 11 q) st).length := hxl; exact Int.ofNat_lt.mpr h7)⟩) (hwf.tx _)) (cwV 1 hts gX7_placeForwards_X4_keptAs rfl rfl rfl ⟨rfl, ds_X4_keptAs⟩ ⟨Nat.le_of_ble_eq_true rfl, Nat.le_of_ble_eq_true rfl⟩) hW hS hsc11.ob rfl rfl hl.1 rfl (Nat.le_of_ble_eq_true rfl) dX7_placeForwards_54 ⟨Nat.le_of_ble_eq_true rfl, Nat.le_of_ble_eq_true rfl⟩) hS (fun r16 C14 H locs hp15 hW hS => ?_)
          obtain ⟨rfl, ehp15⟩ := hp15
          rw [ehp15] at hW
          refine lv_istore_n (lv' := [(3, .int (zI (enc (kt (T (9 + 4 * (S 11 q) + st)) (T (9 + 4 * (S 11 q) + (st + 1))) (x : Int).toNat)))), (0, .ref (B 0 0)), (1, .ref (B 60 q)), (2, .int (zI (rd : Int))), (4, .int (zI (st : Int)))]) hx hb dX7_placeForwards_57 rfl hl (by decide) rfl (fun ls hl => ?_)
          refine z_iinc (lv' := [(4, .int (zI ((st : Int) + 1))), (3, .int (zI (enc (kt (T (9 + 4 * (S 11 q) + st)) (T (9 + 4 * (S 11 q) + (st + 1))) (x : Int).toNat)))), (0, .ref (B 0 0)), (1, .ref (B 60 q)), (2, .int (zI (rd : Int)))]) hx hb dX7_placeForwards_58 hl (q := 4) rfl (by decide) rfl (fun ls hl => ?_)
          refine lv_goto (tgt := 11) hx hb dX7_placeForwards_61 (by decide) ?_
          rw [show ((x : Int)).toNat = x by omega] at hl
          exact ih11 (st + 1) (kt (rdt T (S 11 q) st) (rdt T (S 11 q) (st + 1)) x) _ _ _ (by omega) ⟨by omega, by omega⟩ (plc_s ((show rd - st = (rd - (st + 1)) + 1 by omega) ▸ hpp)) (fun y hy => (kt_lt _ _ _ _ hy).2) (cs.kept hcsl (fun k' i' h' => hf12 (k') (i') (by omega))) (cx.script hcxl (hsc11.so) (fun k' i' h => (hf12 k' i' (by omega)))) (fws.trans hfl (fun k' i' h => (hf12 k' i' (by omega)))) hW hS _ (lv_sub hl [2, 3, 4, 1, 0] rfl)
  exact lp11 (rd - S 12 q + 1) (S 12 q) (some (S 13 q)) _ _ _ (by omega) ⟨by omega, by omega⟩ rfl (fun y hy => by cases hy; exact hwq.2.2.1) hcs hcx fws.rfl' hW hS _ (lv_sub hl [2, 3, 4, 1, 0] rfl)

theorem ds_X7_lineWhenMade : yX7_lineWhenMade.cls ≠ "java/lang/invoke/MethodHandle" ∧ yX7_lineWhenMade.cls ≠ "java/lang/invoke/VarHandle" ∧ (parseMethodDescriptor yX7_lineWhenMade.desc).map (fun d => d.parameters.length) = some 3 := by decide +kernel
theorem in_X7_lineWhenMade_3 : ∀ w ∈ wsX30, w ∈ wsX7_lineWhenMade := by decide +kernel
theorem in_X7_lineWhenMade_7 : ∀ w ∈ wsX70, w ∈ wsX7_lineWhenMade := by decide +kernel
def rX7_lineWhenMade : Room := { frames := 3, cells := 0, slots := 0, locals := 73 }
set_option maxHeartbeats 4000000 in
set_option maxRecDepth 100000 in
theorem k_X7_lineWhenMade {l : Launch} {Z : gZ} {B : gB} {C0 : gC} {S : gS} {T : gTx} {q rd li : Nat} {a : Int} (hcs : cs Z B C0 S T) (hcx : cx Z B C0) (hwf : wf S T) (hq : q < S 0 2) (ha : a = (rd : Int)) (hrd : S 12 q ≤ rd ∧ rd < S 2 (S 11 q)) (hli : li < (rdt T (S 11 q) rd).length) : Met l yX7_lineWhenMade wsX7_lineWhenMade rX7_lineWhenMade (gPc Z B C0 [.ref (B 0 0), .ref (B 60 q), .int (zI a), .int (zI (li : Int))]) (gQi Z B (fun r C1 => r = zI (enc (plb T (S 11 q) (rd - S 12 q) rd (some li))) ∧ cx Z B C1 ∧ fws C0 C1)) 0 0 (gA Z) := by
  refine g_ofI (cc := cX7_lineWhenMade) (maxL := 6) (by decide) rfl (Nat.le_of_ble_eq_true rfl) ?_
  intro p e s m args below meth c Q X kret hW hS ls hl
  have hx := X.1.1
  have hb := X.1.2.1
  have hts := X.1.2.2.2.2
  have hl : lv_has ls 6 [(0, .ref (B 0 0)), (1, .ref (B 60 q)), (2, .int (zI a)), (3, .int (zI (li : Int)))] := hl
  have hr0 := hcs.2.2.2.2.2.2.2.1 q hq
  have hwq := hwf.rm hq
  have hio := hwq.1
  have hwo := hwf.ch hio
  subst ha
  refine lv_iload_n hx hb dX7_lineWhenMade_0 rfl (lv_at hl 3 rfl) ?_
  refine lv_istore (lv' := [(4, .int (zI (li : Int))), (0, .ref (B 0 0)), (1, .ref (B 60 q)), (2, .int (zI (rd : Int))), (3, .int (zI (li : Int)))]) hx hb dX7_lineWhenMade_1 hl (by decide) rfl (fun ls hl => ?_)
  refine lv_iload_n hx hb dX7_lineWhenMade_3 rfl (lv_at hl 3 rfl) ?_
  refine lv_istore (lv' := [(5, .int (zI (rd : Int))), (4, .int (zI (li : Int))), (0, .ref (B 0 0)), (1, .ref (B 60 q)), (2, .int (zI (rd : Int))), (3, .int (zI (li : Int)))]) hx hb dX7_lineWhenMade_4 hl (by decide) rfl (fun ls hl => ?_)
  have lp6 : ∀ (n : Nat) (st : Nat) (po : Option Nat) (Cl : gC) (H : Heap) (locs : List Loc), (st < n) → (S 12 q ≤ st ∧ st ≤ rd) → (plb T (S 11 q) (st - S 12 q) st po = plb T (S 11 q) (rd - S 12 q) rd (some li)) → (∀ x, po = some x → x < (rdt T (S 11 q) st).length) → (cs Z B Cl S T) → (cx Z B Cl) → (fws C0 Cl) → gw Z B Cl H → va_S (gA Z) s.heap H locs → ∀ ls : Array Slot, lv_has ls 6 [(0, .ref (B 0 0)), (1, .ref (B 60 q)), (2, .int (zI (rd : Int))), (3, .int (zI (li : Int))), (4, .int (zI (enc po))), (5, .int (zI (st : Int)))] → W p l e rX7_lineWhenMade s m args below meth c H locs 0 0 Q (F0 m 6 ls []) := by
    intro n
    induction n with
    | zero =>
      intro st po Cl H locs hm hst hpp hpl hcsl hcxl hfl hW hS ls hl
      exact absurd hm (by omega)
    | succ n ih6 =>
      intro st po Cl H locs hm hst hpp hpl hcsl hcxl hfl hW hS ls hl
      obtain ⟨hc0l, hc1l, hc2l, ⟨f45l, hc3l, hc3al, hc3bl⟩, hc4l, hc4nl, hc5l, F50l, hc6l, hc6al⟩ := id (cs.ch hcsl hio)
      obtain ⟨hs0l, hs1l, hs2l, cf0l, mt0l, hs3l⟩ := id hcxl
      have heg := enc_rng po
      refine lv_iload hx hb dX7_lineWhenMade_6 (lv_at hl 5 rfl) ?_
      refine lv_aload_n hx hb dX7_lineWhenMade_8 rfl (lv_at hl 1 rfl) ?_
      refine g_getN (ci := 3) X in_X7_lineWhenMade_3 rfl hW (hcsl.2.2.2.2.2.2.2.1 q hq) 1 (by decide) _ nf_9 rfl rfl dX7_lineWhenMade_9 ?_
      refine z_icmp_le (tgt := 58) hx hb dX7_lineWhenMade_12 (by decide) (⟨by omega, by omega⟩) (⟨by omega, by omega⟩) (fun h_12 => ?_) (fun h_12 => ?_)
      · refine lv_iload hx hb dX7_lineWhenMade_58 (lv_at hl 4 rfl) ?_
        exact kret _ _ _ _ _ _ _ _ (⟨by rw [← hpp, show st - S 12 q = 0 by omega]; rfl, hcxl, hfl⟩) hW hS (Nat.le_of_ble_eq_true rfl) (Nat.le_of_ble_eq_true rfl) dX7_lineWhenMade_60
      · refine lv_iload hx hb dX7_lineWhenMade_15 (lv_at hl 4 rfl) ?_
        refine lv_iconst (v := zI (-1)) hx hb dX7_lineWhenMade_17 rfl ?_
        refine z_icmp_eq (tgt := 58) hx hb dX7_lineWhenMade_18 (by decide) (⟨by omega, by cases po with | none => decide | some x => have h9 := hpl x rfl; have h8 : (rdt T (S 11 q) st).length ≤ 12 := hwf.tx _; simp only [enc]; omega⟩) (⟨by omega, by omega⟩) (fun h_18 => ?_) (fun h_18 => ?_)
        · refine lv_iload hx hb dX7_lineWhenMade_58 (lv_at hl 4 rfl) ?_
          exact kret _ _ _ _ _ _ _ _ (⟨by rw [← hpp, enc_n h_18, plb_none], hcxl, hfl⟩) hW hS (Nat.le_of_ble_eq_true rfl) (Nat.le_of_ble_eq_true rfl) dX7_lineWhenMade_60
        · obtain ⟨x, rfl⟩ := enc_s h_18
          have hxl := hpl x rfl
          obtain ⟨s1, rfl⟩ : ∃ s1, st = s1 + 1 := ⟨st - 1, by omega⟩
          have hl : lv_has ls 6 [(0, .ref (B 0 0)), (1, .ref (B 60 q)), (2, .int (zI (rd : Int))), (3, .int (zI (li : Int))), (4, .int (zI (x : Int))), (5, .int (zI ((s1 + 1 : Nat) : Int)))] := hl
          refine lv_aload_n hx hb dX7_lineWhenMade_21 rfl (lv_at hl 0 rfl) ?_
          refine g_get (ci := 7) X in_X7_lineWhenMade_7 rfl hW (id hcsl).1 11 (by decide) (hts _ (List.mem_of_getElem? (i := 1) rfl)) rfl dX7_lineWhenMade_22 ?_
          refine lv_aload_n hx hb dX7_lineWhenMade_25 rfl (lv_at hl 1 rfl) ?_
          refine g_getN (ci := 3) X in_X7_lineWhenMade_3 rfl hW (hcsl.2.2.2.2.2.2.2.1 q hq) 0 (by decide) _ nf_5 rfl rfl dX7_lineWhenMade_26 ?_
          refine lv_iload hx hb dX7_lineWhenMade_29 (lv_at hl 5 rfl) ?_
          refine lv_iconst (v := zI (1)) hx hb dX7_lineWhenMade_31 rfl ?_
          refine z_isub hx hb dX7_lineWhenMade_32 ?_
          refine g_cr (g_runV X (k_X1_textOf (a := (((s1 + 1 : Nat) : Int) - 1)) (r := s1) hcsl hwf hio (by omega) (by omega)) (cwV 1 hts gX7_lineWhenMade_X1_textOf rfl rfl rfl ⟨rfl, ds_X1_textOf⟩ ⟨Nat.le_of_ble_eq_true rfl, Nat.le_of_ble_eq_true rfl⟩) hW hS hc0l rfl rfl hl.1 rfl (Nat.le_of_ble_eq_true rfl) dX7_lineWhenMade_33 ⟨Nat.le_of_ble_eq_true rfl, Nat.le_of_ble_eq_true rfl⟩) hS (fun r3 C1 H locs hp2 hW hS => ?_)
          obtain ⟨rfl, ehp2⟩ := hp2
          rw [ehp2] at hW
          refine lv_aload_n hx hb dX7_lineWhenMade_36 rfl (lv_at hl 1 rfl) ?_
          refine g_getN (ci := 3) X in_X7_lineWhenMade_3 rfl hW (hcsl.2.2.2.2.2.2.2.1 q hq) 0 (by decide) _ nf_5 rfl rfl dX7_lineWhenMade_37 ?_
          refine lv_iload hx hb dX7_lineWhenMade_40 (lv_at hl 5 rfl) ?_
          refine g_cr (g_runV X (k_X1_textOf (a := ((s1 + 1 : Nat) : Int)) (r := (s1 + 1)) hcsl hwf hio (by omega) (by omega)) (cwV 1 hts gX7_lineWhenMade_X1_textOf rfl rfl rfl ⟨rfl, ds_X1_textOf⟩ ⟨Nat.le_of_ble_eq_true rfl, Nat.le_of_ble_eq_true rfl⟩) hW hS hc0l rfl rfl hl.1 rfl (Nat.le_of_ble_eq_true rfl) dX7_lineWhenMade_42 ⟨Nat.le_of_ble_eq_true rfl, Nat.le_of_ble_eq_true rfl⟩) hS (fun r6 C4 H locs hp5 hW hS => ?_)
          obtain ⟨rfl, ehp5⟩ := hp5
          rw [ehp5] at hW
          refine lv_iload hx hb dX7_lineWhenMade_45 (lv_at hl 4 rfl) ?_
          refine g_ci (g_runV X (k_X0_lineBefore (x := x) hs2l (hc4l s1 (by omega)) (hc4l (s1 + 1) (by omega)) (hwf.tx _) (hwf.tx _) (by omega) (by omega) (hxl)) (cwV 3 hts gX7_lineWhenMade_X0_lineBefore rfl rfl rfl ⟨rfl, ds_X0_lineBefore⟩ ⟨Nat.le_of_ble_eq_true rfl, Nat.le_of_ble_eq_true rfl⟩) hW hS hs2l.ob rfl rfl hl.1 rfl (Nat.le_of_ble_eq_true rfl) dX7_lineWhenMade_47 ⟨Nat.le_of_ble_eq_true rfl, Nat.le_of_ble_eq_true rfl⟩) hS (fun r9 C7 H locs hp8 hW hS => ?_)
          obtain ⟨e10, hx11, hf12⟩ := hp8
          rw [e10]
          refine lv_istore (lv' := [(4, .int (zI (enc (kf (T (9 + 4 * (S 11 q) + s1)) (T (9 + 4 * (S 11 q) + (s1 + 1))) x)))), (0, .ref (B 0 0)), (1, .ref (B 60 q)), (2, .int (zI (rd : Int))), (3, .int (zI (li : Int))), (5, .int (zI ((s1 + 1 : Nat) : Int)))]) hx hb dX7_lineWhenMade_50 hl (by decide) rfl (fun ls hl => ?_)
          refine z_iinc (lv' := [(5, .int (zI (((s1 + 1 : Nat) : Int) + (-1)))), (4, .int (zI (enc (kf (T (9 + 4 * (S 11 q) + s1)) (T (9 + 4 * (S 11 q) + (s1 + 1))) x)))), (0, .ref (B 0 0)), (1, .ref (B 60 q)), (2, .int (zI (rd : Int))), (3, .int (zI (li : Int)))]) hx hb dX7_lineWhenMade_52 hl (q := 5) rfl (by decide) rfl (fun ls hl => ?_)
          refine lv_goto (tgt := 6) hx hb dX7_lineWhenMade_55 (by decide) ?_
          rw [show (((s1 + 1 : Nat) : Int) + -1) = (s1 : Int) by omega] at hl
          exact ih6 s1 (kf (rdt T (S 11 q) s1) (rdt T (S 11 q) (s1 + 1)) x) _ _ _ (by omega) ⟨by omega, by omega⟩ (plb_s ((show s1 + 1 - S 12 q = (s1 - S 12 q) + 1 by omega) ▸ hpp)) (fun y hy => (kf_lt _ _ _ _ hy).1) (cs.kept hcsl (fun k' i' h' => hf12 (k') (i') (by omega))) (cx.kind hcxl (fun k9 i9 z9 => hf12 k9 i9 (by omega)) (hs1l.fr (fun q9 _ => hf12 _ _ (by omega))) (ao.set hs2l hf12 hx11)) (fws.trans hfl (fun k' i' h => (hf12 k' i' (by omega)))) hW hS _ (lv_sub hl [2, 3, 4, 5, 1, 0] rfl)
  exact lp6 (rd + 1) rd (some li) _ _ _ (by omega) ⟨by omega, by omega⟩ rfl (fun y hy => by cases hy; exact hli) hcs hcx fws.rfl' hW hS _ (lv_sub hl [2, 3, 4, 5, 1, 0] rfl)

theorem ds_X7_placeBackwards : yX7_placeBackwards.cls ≠ "java/lang/invoke/MethodHandle" ∧ yX7_placeBackwards.cls ≠ "java/lang/invoke/VarHandle" ∧ (parseMethodDescriptor yX7_placeBackwards.desc).map (fun d => d.parameters.length) = some 2 := by decide +kernel
theorem in_X7_placeBackwards_3 : ∀ w ∈ wsX30, w ∈ wsX7_placeBackwards := by decide +kernel
def rX7_placeBackwards : Room := { frames := 4, cells := 0, slots := 0, locals := 98 }
set_option maxHeartbeats 4000000 in
set_option maxRecDepth 100000 in
theorem k_X7_placeBackwards {l : Launch} {Z : gZ} {B : gB} {C0 : gC} {S : gS} {T : gTx} {q rd : Nat} {a : Int} (hcs : cs Z B C0 S T) (hcx : cx Z B C0) (hwf : wf S T) (hq : q < S 0 2) (ha : a = (rd : Int)) (hrd : S 12 q ≤ rd ∧ rd < S 2 (S 11 q)) : Met l yX7_placeBackwards wsX7_placeBackwards rX7_placeBackwards (gPc Z B C0 [.ref (B 0 0), .ref (B 60 q), .int (zI a)]) (gQi Z B (fun r C1 => r = zI (enc (plc T (S 11 q) (rd - S 12 q) (S 12 q) (some (S 13 q)))) ∧ cx Z B C1 ∧ fws C0 C1)) 0 0 (gA Z) := by
  refine g_ofI (cc := cX7_placeBackwards) (maxL := 5) (by decide) rfl (Nat.le_of_ble_eq_true rfl) ?_
  intro p e s m args below meth c Q X kret hW hS ls hl
  have hx := X.1.1
  have hb := X.1.2.1
  have hts := X.1.2.2.2.2
  have hl : lv_has ls 5 [(0, .ref (B 0 0)), (1, .ref (B 60 q)), (2, .int (zI a))] := hl
  have hr0 := hcs.2.2.2.2.2.2.2.1 q hq
  have hwq := hwf.rm hq
  have hio := hwq.1
  have hwo := hwf.ch hio
  obtain ⟨hc0, hc1, hc2, ⟨f45, hc3, hc3a, hc3b⟩, hc4, hc4n, hc5, F50, hc6, hc6a⟩ := id (cs.ch hcs hio)
  subst ha
  refine lv_aload_n hx hb dX7_placeBackwards_0 rfl (lv_at hl 1 rfl) ?_
  refine g_getN (ci := 3) X in_X7_placeBackwards_3 rfl hW hr0 0 (by decide) _ nf_5 rfl rfl dX7_placeBackwards_1 ?_
  refine lv_iload_n hx hb dX7_placeBackwards_4 rfl (lv_at hl 2 rfl) ?_
  refine g_cr (g_runV X (k_X1_textOf (a := (rd : Int)) (r := rd) hcs hwf hio (by omega) (by omega)) (cwV 1 hts gX7_placeBackwards_X1_textOf rfl rfl rfl ⟨rfl, ds_X1_textOf⟩ ⟨Nat.le_of_ble_eq_true rfl, Nat.le_of_ble_eq_true rfl⟩) hW hS hc0 rfl rfl hl.1 rfl (Nat.le_of_ble_eq_true rfl) dX7_placeBackwards_5 ⟨Nat.le_of_ble_eq_true rfl, Nat.le_of_ble_eq_true rfl⟩) hS (fun r3 C1 H locs hp2 hW hS => ?_)
  obtain ⟨rfl, ehp2⟩ := hp2
  rw [ehp2] at hW
  refine g_ci (g_runV X (k_X5_size (t := T (9 + 4 * (S 11 q) + rd)) (hc4 rd (by omega)) ) (cwV 0 hts gX7_placeBackwards_X5_size rfl rfl rfl ⟨rfl, ds_X5_size⟩ ⟨Nat.le_of_ble_eq_true rfl, Nat.le_of_ble_eq_true rfl⟩) hW hS (hc4 rd (by omega)).2.2.1 rfl rfl hl.1 rfl (Nat.le_of_ble_eq_true rfl) dX7_placeBackwards_8 ⟨Nat.le_of_ble_eq_true rfl, Nat.le_of_ble_eq_true rfl⟩) hS (fun r6 C4 H locs hp5 hW hS => ?_)
  obtain ⟨rfl, ehp5⟩ := hp5
  rw [ehp5] at hW
  refine lv_istore_n (lv' := [(3, .int (zI ((rdt T (S 11 q) rd).length : Int))), (0, .ref (B 0 0)), (1, .ref (B 60 q)), (2, .int (zI (rd : Int)))]) hx hb dX7_placeBackwards_11 rfl hl (by decide) rfl (fun ls hl => ?_)
  refine lv_iconst (v := zI (0)) hx hb dX7_placeBackwards_12 rfl ?_
  refine lv_istore (lv' := [(4, .int (zI 0)), (3, .int (zI ((rdt T (S 11 q) rd).length : Int))), (0, .ref (B 0 0)), (1, .ref (B 60 q)), (2, .int (zI (rd : Int)))]) hx hb dX7_placeBackwards_13 hl (by decide) rfl (fun ls hl => ?_)
  have lp15 : ∀ (n : Nat) (li : Nat) (Cl : gC) (H : Heap) (locs : List Loc), ((rdt T (S 11 q) rd).length - li < n) → (li ≤ (rdt T (S 11 q) rd).length) → (∀ l1, l1 < li → ¬ plb T (S 11 q) (rd - S 12 q) rd (some l1) = some (S 13 q)) → (cs Z B Cl S T) → (cx Z B Cl) → (fws C0 Cl) → gw Z B Cl H → va_S (gA Z) s.heap H locs → ∀ ls : Array Slot, lv_has ls 5 [(0, .ref (B 0 0)), (1, .ref (B 60 q)), (2, .int (zI (rd : Int))), (3, .int (zI ((rdt T (S 11 q) rd).length : Int))), (4, .int (zI (li : Int)))] → W p l e rX7_placeBackwards s m args below meth c H locs 0 0 Q (F0 m 15 ls []) := by
    intro n
    induction n with
    | zero =>
      intro li Cl H locs hm hlr hno hcsl hcxl hfl hW hS ls hl
      exact absurd hm (by omega)
    | succ n ih15 =>
      intro li Cl H locs hm hlr hno hcsl hcxl hfl hW hS ls hl
      have hrl : (rdt T (S 11 q) rd).length ≤ 12 := hwf.tx _
      refine lv_iload hx hb dX7_placeBackwards_15 (lv_at hl 4 rfl) ?_
      refine lv_iload_n hx hb dX7_placeBackwards_17 rfl (lv_at hl 3 rfl) ?_
      refine z_icmp_ge (tgt := 45) hx hb dX7_placeBackwards_18 (by decide) (⟨by omega, by omega⟩) (⟨by omega, by omega⟩) (fun h_18 => ?_) (fun h_18 => ?_)
      · refine lv_iconst (v := zI (-1)) hx hb dX7_placeBackwards_45 rfl ?_
        have hnn : plc T (S 11 q) (rd - S 12 q) (S 12 q) (some (S 13 q)) = none := by
          cases hy : plc T (S 11 q) (rd - S 12 q) (S 12 q) (some (S 13 q)) with
          | none => rfl
          | some y =>
            have h8 := plc_lt _ _ _ _ hy hwq.2.2.1
            have h9 := (plc_plb T (S 11 q) (rd - S 12 q) (S 12 q) (S 13 q) y).mp hy
            rw [show S 12 q + (rd - S 12 q) = rd by omega] at h8 h9
            exact absurd h9 (hno y (by omega))
        exact kret _ _ _ _ _ _ _ _ (⟨by rw [hnn]; rfl, hcxl, hfl⟩) hW hS (Nat.le_of_ble_eq_true rfl) (Nat.le_of_ble_eq_true rfl) dX7_placeBackwards_46
      · refine lv_aload_n hx hb dX7_placeBackwards_21 rfl (lv_at hl 0 rfl) ?_
        refine lv_aload_n hx hb dX7_placeBackwards_22 rfl (lv_at hl 1 rfl) ?_
        refine lv_iload_n hx hb dX7_placeBackwards_23 rfl (lv_at hl 2 rfl) ?_
        refine lv_iload hx hb dX7_placeBackwards_24 (lv_at hl 4 rfl) ?_
        refine g_ci (g_runV X (k_X7_lineWhenMade (q := q) (rd := rd) (li := li) (a := (rd : Int)) hcsl hcxl hwf hq (by omega) (⟨by omega, by omega⟩) (by omega)) (cwV 3 hts gX7_placeBackwards_X7_lineWhenMade rfl rfl rfl ⟨rfl, ds_X7_lineWhenMade⟩ ⟨Nat.le_of_ble_eq_true rfl, Nat.le_of_ble_eq_true rfl⟩) hW hS (id hcsl).1 rfl rfl hl.1 rfl (Nat.le_of_ble_eq_true rfl) dX7_placeBackwards_26 ⟨Nat.le_of_ble_eq_true rfl, Nat.le_of_ble_eq_true rfl⟩) hS (fun r9 C7 H locs hp8 hW hS => ?_)
        obtain ⟨e10, hx11, hf12⟩ := hp8
        rw [e10]
        refine lv_aload_n hx hb dX7_placeBackwards_29 rfl (lv_at hl 1 rfl) ?_
        have f13 : C7 60 q = some (.inr (3, [.ref (B 40 (S 11 q)), .int (zI (S 12 q : Int)), .int (zI (S 13 q : Int)), .int (zI (S 14 q : Int))])) := ((hf12 60 q (by omega)).trans (hcsl.2.2.2.2.2.2.2.1 q hq))
        refine g_getN (ci := 3) X in_X7_placeBackwards_3 rfl hW f13 2 (by decide) _ nf_14 rfl rfl dX7_placeBackwards_30 ?_
        refine z_icmp_ne (tgt := 39) hx hb dX7_placeBackwards_33 (by decide) (⟨by have := enc_rng (plb T (S 11 q) (rd - S 12 q) rd (some li)); omega, by cases hz : plb T (S 11 q) (rd - S 12 q) rd (some li) with | none => decide | some x => have h9 := plb_rng hwf hz (by omega); simp only [enc]; omega⟩) (⟨by omega, by have := hwf.tx (9 + 4 * S 11 q + S 12 q); omega⟩) (fun h_33 => ?_) (fun h_33 => ?_)
        · refine z_iinc (lv' := [(4, .int (zI ((li : Int) + 1))), (0, .ref (B 0 0)), (1, .ref (B 60 q)), (2, .int (zI (rd : Int))), (3, .int (zI ((rdt T (S 11 q) rd).length : Int)))]) hx hb dX7_placeBackwards_39 hl (q := 4) rfl (by decide) rfl (fun ls hl => ?_)
          refine lv_goto (tgt := 15) hx hb dX7_placeBackwards_42 (by decide) ?_
          exact ih15 (li + 1) _ _ _ (by omega) (by omega) (fun l1 h1 => by by_cases e9 : l1 = li; (subst e9; intro z; exact h_33 (by rw [z]; rfl)); exact hno l1 (by omega)) (cs.kept hcsl (fun k' i' h' => hf12 (k') (i') (by omega))) hx11 (fws.trans hfl (fun k' i' h => (hf12 k' i' (by omega)))) hW hS _ (lv_sub hl [1, 2, 3, 4, 0] rfl)
        · refine lv_iload hx hb dX7_placeBackwards_36 (lv_at hl 4 rfl) ?_
          have hpl := (plc_plb T (S 11 q) (rd - S 12 q) (S 12 q) (S 13 q) li).mpr (by rw [show S 12 q + (rd - S 12 q) = rd by omega]; exact enc_inj' h_33)
          exact kret _ _ _ _ _ _ _ _ (⟨by rw [hpl]; rfl, hx11, (fws.trans hfl (fun k' i' h => (hf12 k' i' (by omega))))⟩) hW hS (Nat.le_of_ble_eq_true rfl) (Nat.le_of_ble_eq_true rfl) dX7_placeBackwards_38
  exact lp15 ((rdt T (S 11 q) rd).length + 1) 0 _ _ _ (by omega) (by omega) (fun l1 h1 => by omega) hcs hcx fws.rfl' hW hS _ (lv_sub hl [2, 3, 4, 1, 0] rfl)
