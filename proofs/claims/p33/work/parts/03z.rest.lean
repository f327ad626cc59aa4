theorem ds_X7_comment : yX7_comment.cls ≠ "java/lang/invoke/MethodHandle" ∧ yX7_comment.cls ≠ "java/lang/invoke/VarHandle" ∧ (parseMethodDescriptor yX7_comment.desc).map (fun d => d.parameters.length) = some 2 := by decide +kernel
theorem in_X7_comment_1 : ∀ w ∈ wsX10, w ∈ wsX7_comment := by decide +kernel
theorem in_X7_comment_3 : ∀ w ∈ wsX30, w ∈ wsX7_comment := by decide +kernel
theorem in_X7_comment_7 : ∀ w ∈ wsX70, w ∈ wsX7_comment := by decide +kernel
def rX7_comment : Room := { frames := 7, cells := 3, slots := 18, locals := 104 }
set_option maxHeartbeats 4000000 in
set_option maxRecDepth 100000 in
theorem k_X7_comment {l : Launch} (hfl : l.stackTraces = false) {Z : gZ} {B : gB} {C0 : gC} {S : gS} {T : gTx} {cc a : Int} (hcs : cs Z B C0 S T) (hcx : cx Z B C0) (hwf : wf S T) (rcc : zr cc) (ra : zr a) (hz : wz S T) : vx_Met l yX7_comment wsX7_comment rX7_comment (gPc Z B C0 [.ref (B 0 0), .int (zI cc), .int (zI a)]) (gQiB Z (fun r B1 C1 => (cd_comment S T cc a = 0 ∧ r = zI (S 0 2 : Int)) ∧ cs Z B1 C1 (nS_comment S cc a) T ∧ cx Z B1 C1 ∧ gfo C0 C1 ∧ gfB B B1)) (gXC Z B (fun E C1 => (E = "java/lang/IndexOutOfBoundsException" ∧ cd_comment S T cc a = 1 ∨ E = "java/util/NoSuchElementException" ∧ cd_comment S T cc a = 2 ∨ E = "java/lang/IllegalStateException" ∧ cd_comment S T cc a = 3) ∧ cs Z B C1 S T ∧ cx Z B C1 ∧ gfo C0 C1)) 3 18 (gA Z) := by
  refine g_ofIBx (cc := cX7_comment) (maxL := 5) hfl (by decide) rfl rfl (Nat.le_of_ble_eq_true rfl) (Nat.le_of_ble_eq_true rfl) (Nat.le_of_ble_eq_true rfl) (Nat.le_of_ble_eq_true rfl) (Nat.le_of_ble_eq_true rfl) ?_
  intro p e s m args below meth c Q X kret ko kt hW hS ls hl
  have hx := X.1.1
  have hb := X.1.2.1
  have hts := X.1.2.2.2.2
  have hl : lv_has ls 5 [(0, .ref (B 0 0)), (1, .int (zI cc)), (2, .int (zI a))] := hl
  obtain ⟨hb0, hb1, ⟨F3, hb3, hb3a⟩, ⟨f4, hb4, hb4a, hb4b⟩, ⟨f5, hb5, hb5a, hb5b⟩, ⟨F6, hb6, hb6a⟩, hb7, hb8, hb9, hb10, hb11⟩ := id hcs
  have hwn := hwf.n
  refine lv_aload_n hx hb dX7_comment_0 rfl (lv_at hl 0 rfl) ?_
  refine lv_iload_n hx hb dX7_comment_1 rfl (lv_at hl 1 rfl) ?_
  refine g_crx (g_runVx X (k_X7_changeOf hfl (a := cc) hcs hwf (rcc)) (cwV 1 hts gX7_comment_X7_changeOf rfl rfl rfl ⟨rfl, ds_X7_changeOf⟩ ⟨Nat.le_of_ble_eq_true rfl, Nat.le_of_ble_eq_true rfl⟩) hW hS hb0 rfl rfl hl.1 rfl (Nat.le_of_ble_eq_true rfl) dX7_comment_2 ⟨Nat.le_of_ble_eq_true rfl, Nat.le_of_ble_eq_true rfl⟩) hS (fun E9 ce9 q9 C9 H9 locs9 hp9 hW9 hS9 e1 e2 e3 => ko E9 ce9 q9 C9 H9 locs9 _ _ _ _ _ (pubx (Or.inl (⟨hp9.1, by unfold cd_comment; rw [if_pos (hp9.2.1)]⟩)) hcs hcx gfo.rfl' hp9.2.2) hW9 hS9 e1 e2 e3 (Nat.le_of_ble_eq_true rfl) (Nat.le_of_ble_eq_true rfl)) (fun r3 C1 H locs hp2 hW hS => ?_)
  obtain ⟨⟨hkc, rfl⟩, ehp2⟩ := hp2
  rw [ehp2] at hW
  have hicc : cc.toNat < S 0 0 := by omega
  obtain ⟨hc0, hc1, hc2, ⟨f45, hc3, hc3a, hc3b⟩, hc4, hc4n, hc5, F50, hc6, hc6a⟩ := id (cs.ch hcs hicc)
  have hwicc := hwf.ch hicc
  refine lv_astore_n (lv' := [(3, .ref (B 40 (cc.toNat))), (0, .ref (B 0 0)), (1, .int (zI cc)), (2, .int (zI a))]) hx hb dX7_comment_5 rfl hl (by decide) rfl (fun ls hl => ?_)
  refine lv_aload_n hx hb dX7_comment_6 rfl (lv_at hl 0 rfl) ?_
  refine g_getN (ci := 1) X in_X7_comment_1 rfl hW hc0 6 (by decide) _ nf_1 rfl rfl dX7_comment_7 ?_
  refine z_if_eq (tgt := 24) hx hb dX7_comment_10 (by decide) (⟨by omega, by omega⟩) (fun h_10 => ?_) (fun h_10 => ?_)
  · exact kt "java/util/NoSuchElementException" "no such line in the present round" 171 173 175 _ _ _ _ _ _ _ _ (pubx (Or.inr (Or.inl (⟨rfl, by unfold cd_comment; rw [if_neg (fun z => z hkc), if_pos (Or.inl (by omega))]⟩))) hcs hcx gfo.rfl' rfl) hW hS hl ex_4 st_7 (by decide +kernel) (List.mem_of_getElem? (i := 1) rfl) (List.mem_of_getElem? (i := 2) rfl) (fun w hw => List.mem_cons_of_mem _ (List.mem_append_left _ (List.mem_append_left _ (List.mem_append_right _ hw)))) vxo_4_175 vxn_4_175 (Nat.le_of_ble_eq_true rfl) (Nat.le_of_ble_eq_true rfl) dX7_comment_24 dX7_comment_27 (Or.inl ⟨dX7_comment_28, dX7_comment_30, dX7_comment_33⟩)
  · refine lv_aload_n hx hb dX7_comment_13 rfl (lv_at hl 0 rfl) ?_
    refine g_cr (g_runV X (k_X1_presentText hcs hwf hicc (by omega)) (cwV 0 hts gX7_comment_X1_presentText rfl rfl rfl ⟨rfl, ds_X1_presentText⟩ ⟨Nat.le_of_ble_eq_true rfl, Nat.le_of_ble_eq_true rfl⟩) hW hS hc0 rfl rfl hl.1 rfl (Nat.le_of_ble_eq_true rfl) dX7_comment_14 ⟨Nat.le_of_ble_eq_true rfl, Nat.le_of_ble_eq_true rfl⟩) hS (fun r7 C5 H locs hp6 hW hS => ?_)
    obtain ⟨rfl, ehp6⟩ := hp6
    rw [ehp6] at hW
    refine lv_iload_n hx hb dX7_comment_17 rfl (lv_at hl 3 rfl) ?_
    refine g_ci (g_runV X (k_X5_has (t := T (9 + 4 * (cc.toNat) + (S 2 (cc.toNat) - 1))) (hc4 (S 2 (cc.toNat) - 1) (by omega)) (a := a) (ra)) (cwV 1 hts gX7_comment_X5_has rfl rfl rfl ⟨rfl, ds_X5_has⟩ ⟨Nat.le_of_ble_eq_true rfl, Nat.le_of_ble_eq_true rfl⟩) hW hS (hc4 (S 2 (cc.toNat) - 1) (by omega)).2.2.1 rfl rfl hl.1 rfl (Nat.le_of_ble_eq_true rfl) dX7_comment_18 ⟨Nat.le_of_ble_eq_true rfl, Nat.le_of_ble_eq_true rfl⟩) hS (fun r10 C8 H locs hp9 hW hS => ?_)
    obtain ⟨rfl, ehp9⟩ := hp9
    rw [ehp9] at hW
    refine z_ifb_ne (tgt := 34) hx hb dX7_comment_21 (by decide) (fun h_21 => ?_) (fun h_21 => ?_)
    · refine lv_aload_n hx hb dX7_comment_34 rfl (lv_at hl 0 rfl) ?_
      refine g_cvx (g_runSx X (k_X7_checkNotLanded hfl hcs hwf hicc) (va_cwS 1 hts gX7_comment_X7_checkNotLanded rfl rfl rfl ds_X7_checkNotLanded ⟨Nat.le_of_ble_eq_true rfl, Nat.le_of_ble_eq_true rfl⟩) hW hS rfl hl.1 rfl (Nat.le_of_ble_eq_true rfl) dX7_comment_35 ⟨Nat.le_of_ble_eq_true rfl, Nat.le_of_ble_eq_true rfl⟩) hS (fun E9 ce9 q9 C9 H9 locs9 hp9 hW9 hS9 e1 e2 e3 => ko E9 ce9 q9 C9 H9 locs9 _ _ _ _ _ (pubx (Or.inr (Or.inr (⟨hp9.1, by unfold cd_comment; rw [if_neg (fun z => z hkc), if_neg (fun z => z.elim (by omega) (fun z2 => z2 h_21)), if_pos (Or.inl (by have := hp9.2.1; omega))]⟩))) hcs hcx gfo.rfl' hp9.2.2) hW9 hS9 e1 e2 e3 (Nat.le_of_ble_eq_true rfl) (Nat.le_of_ble_eq_true rfl)) (fun C11 H locs hp12 hW hS => ?_)
      obtain ⟨hkl, ehp12⟩ := hp12
      rw [ehp12] at hW
      refine lv_aload_n hx hb dX7_comment_38 rfl (lv_at hl 1 rfl) ?_
      refine g_get (ci := 7) X in_X7_comment_7 rfl hW hb0 6 (by decide) (hts _ (List.mem_of_getElem? (i := 5) rfl)) rfl dX7_comment_39 ?_
      refine lv_aload_n hx hb dX7_comment_42 rfl (lv_at hl 1 rfl) ?_
      refine g_get (ci := 7) X in_X7_comment_7 rfl hW hb0 5 (by decide) (hts _ (List.mem_of_getElem? (i := 6) rfl)) rfl dX7_comment_43 ?_
      refine z_alen (t := 2) X hW hb5 rfl dX7_comment_46 ?_
      refine z_icmp_lt (tgt := 60) hx hb dX7_comment_47 (by decide) (⟨by omega, by omega⟩) (⟨by omega, by omega⟩) (fun h_47 => ?_) (fun h_47 => ?_)
      · refine lv_aload_n hx hb dX7_comment_60 rfl (lv_at hl 1 rfl) ?_
        refine g_get (ci := 7) X in_X7_comment_7 rfl hW hb0 6 (by decide) (hts _ (List.mem_of_getElem? (i := 5) rfl)) rfl dX7_comment_61 ?_
        refine lv_istore (lv' := [(4, .int (zI (S 0 2 : Int))), (3, .ref (B 40 (cc.toNat))), (0, .ref (B 0 0)), (1, .int (zI cc)), (2, .int (zI a))]) hx hb dX7_comment_64 hl (by decide) rfl (fun ls hl => ?_)
        refine lv_aload_n hx hb dX7_comment_66 rfl (lv_at hl 2 rfl) ?_
        refine g_get (ci := 7) X in_X7_comment_7 rfl hW hb0 5 (by decide) (hts _ (List.mem_of_getElem? (i := 6) rfl)) rfl dX7_comment_67 ?_
        refine lv_iload hx hb dX7_comment_70 (lv_at hl 0 rfl) ?_
        refine g_new (ci := 3) (fs := [.null, .int (zI 0), .int (zI 0), .int (zI 0)]) 60 (S 0 2) X in_X7_comment_3 tyX3 tyX3_ok (hts _ (List.mem_of_getElem? (i := 7) rfl)) (hts _ (List.mem_of_getElem? (i := 8) rfl)) (hts _ (List.mem_of_getElem? (i := 9) rfl)) rfl hW hS (hb11 (S 0 2) (Nat.le_refl _)) (fun j hj => by rcases j with _ | _ | _ | _ | j; rfl; rfl; rfl; rfl; omega) (Nat.le_of_ble_eq_true rfl) (Nat.le_of_ble_eq_true rfl) dX7_comment_72 (fun a14 B15 C16 H hB17 hBn18 hs19 hn20 hW hS => ?_)
        subst hB17
        have hl : lv_has ls 5 [(4, .int (zI (S 0 2 : Int))), (3, .ref (B15 40 (cc.toNat))), (0, .ref (B15 0 0)), (1, .int (zI cc)), (2, .int (zI a))] := by rw [hBn18 0 0 (gk (by decide)), hBn18 40 cc.toNat (gk (by decide))]; exact hl
        rw [← hBn18 5 0 (gk (by decide))]
        have f21 : C16 0 0 = some (.inr (7, [.ref (B 1 0), .ref (B 3 0), .int (zI (S 0 1 : Int)), .ref (B 4 0), .int (zI (S 0 0 : Int)), .ref (B 5 0), .int (zI (S 0 2 : Int)), .ref (B 6 0), .int (zI (S 0 3 : Int)), .ref (B 10 0), .ref (B 14 0), .ref (B 16 0), .ref (B 18 0)])) := ((hn20 0 0 (gk (by decide))).trans hb0)
        have f22 : C16 0 0 = some (.inr (7, [.ref (B15 1 0), .ref (B15 3 0), .int (zI (S 0 1 : Int)), .ref (B15 4 0), .int (zI (S 0 0 : Int)), .ref (B15 5 0), .int (zI (S 0 2 : Int)), .ref (B15 6 0), .int (zI (S 0 3 : Int)), .ref (B15 10 0), .ref (B15 14 0), .ref (B15 16 0), .ref (B15 18 0)])) := by rw [hBn18 1 0 (gk (by decide)), hBn18 10 0 (gk (by decide)), hBn18 14 0 (gk (by decide)), hBn18 16 0 (gk (by decide)), hBn18 18 0 (gk (by decide)), hBn18 3 0 (gk (by decide)), hBn18 4 0 (gk (by decide)), hBn18 5 0 (gk (by decide)), hBn18 6 0 (gk (by decide))]; exact f21
        have ht23 : tx Z B C16 1 0 (T 0) := (tx.kept hb1 (hn20 1 0 (gk (by decide))) (hn20 2 0 (gk (by decide))))
        have f25 : C16 3 0 = some (gJ Z 100 F3) := ((hn20 3 0 (gk (by decide))).trans hb3)
        have f26 : C16 4 0 = some (gR Z 1 4 f4) := ((hn20 4 0 (gk (by decide))).trans hb4)
        have f27 : C16 5 0 = some (gR Z 2 12 f5) := ((hn20 5 0 (gk (by decide))).trans hb5)
        have f28 : C16 6 0 = some (gJ Z 4 F6) := ((hn20 6 0 (gk (by decide))).trans hb6)
        have f29 : C16 40 (cc.toNat) = some (.inr (1, [.int (zI ((cc.toNat) : Int)), .int (zI (S 1 (cc.toNat) : Int)), .ref (B 41 (cc.toNat)), .ref (B 43 (cc.toNat)), .ref (B 45 (cc.toNat)), .ref (B 48 (cc.toNat)), .int (zI (S 2 (cc.toNat) : Int)), .int (zI (S 4 (cc.toNat) : Int)), .int (zI (S 5 (cc.toNat) : Int)), .int (zI (S 3 (cc.toNat) : Int)), .ref (B 50 (cc.toNat))])) := ((hn20 40 (cc.toNat) (gk (by decide))).trans hc0)
        have f30 : C16 40 (cc.toNat) = some (.inr (1, [.int (zI ((cc.toNat) : Int)), .int (zI (S 1 (cc.toNat) : Int)), .ref (B15 41 (cc.toNat)), .ref (B15 43 (cc.toNat)), .ref (B15 45 (cc.toNat)), .ref (B15 48 (cc.toNat)), .int (zI (S 2 (cc.toNat) : Int)), .int (zI (S 4 (cc.toNat) : Int)), .int (zI (S 5 (cc.toNat) : Int)), .int (zI (S 3 (cc.toNat) : Int)), .ref (B15 50 (cc.toNat))])) := by rw [hBn18 41 cc.toNat (gk (by decide)), hBn18 43 cc.toNat (gk (by decide)), hBn18 45 cc.toNat (gk (by decide)), hBn18 48 cc.toNat (gk (by decide)), hBn18 50 cc.toNat (gk (by decide))]; exact f29
        have ht31 : tx Z B C16 41 (cc.toNat) (T (1 + (cc.toNat))) := (tx.kept hc1 (hn20 41 (cc.toNat) (gk (by decide))) (hn20 42 (cc.toNat) (gk (by decide))))
        have ht33 : tx Z B C16 43 (cc.toNat) (T (5 + (cc.toNat))) := (tx.kept hc2 (hn20 43 (cc.toNat) (gk (by decide))) (hn20 44 (cc.toNat) (gk (by decide))))
        have f35 : C16 45 (cc.toNat) = some (gR Z 3 4 f45) := ((hn20 45 (cc.toNat) (gk (by decide))).trans hc3)
        have ht36 : tx Z B C16 48 (cc.toNat) ([]) := (tx.kept hc5 (hn20 48 (cc.toNat) (gk (by decide))) (hn20 49 (cc.toNat) (gk (by decide))))
        have f38 : C16 50 (cc.toNat) = some (gJ Z 5 F50) := ((hn20 50 (cc.toNat) (gk (by decide))).trans hc6)
        refine lv_dup hx hb dX7_comment_75 rfl ?_
        refine lv_aload_n hx hb dX7_comment_76 rfl (lv_at hl 1 rfl) ?_
        refine lv_aload_n hx hb dX7_comment_77 rfl (lv_at hl 1 rfl) ?_
        refine g_getN (ci := 1) X in_X7_comment_1 rfl hW f30 6 (by decide) _ nf_1 rfl rfl dX7_comment_78 ?_
        refine lv_iconst (v := zI (1)) hx hb dX7_comment_81 rfl ?_
        refine z_isub hx hb dX7_comment_82 ?_
        refine lv_iload_n hx hb dX7_comment_83 rfl (lv_at hl 4 rfl) ?_
        refine g_cvB (g_runI X (k_X3_init (ch := (cc.toNat)) (rd := ((S 2 (cc.toNat) : Int) - 1)) (li := a) hs19) (cwI 3 hts gX7_comment_X3_init rfl rfl rfl (hts _ (List.mem_of_getElem? (i := 9) rfl)) (hts _ (List.mem_of_getElem? (i := 39) rfl)) (hts _ (List.mem_of_getElem? (i := 40) rfl)) rfl ds_X3_init ⟨Nat.le_of_ble_eq_true rfl, Nat.le_of_ble_eq_true rfl⟩) hW hS rfl hl.1 rfl (Nat.le_of_ble_eq_true rfl) dX7_comment_84 ⟨Nat.le_of_ble_eq_true rfl, Nat.le_of_ble_eq_true rfl⟩) hS (fun B41 C39 H locs hp40 hW hS => ?_)
        obtain ⟨e42, ht43, hf44⟩ := hp40
        rw [e42] at hW
        have f45 : C39 5 0 = some (gR Z 2 12 f5) := ((hf44 5 0 (gk (by decide))).trans f27)
        refine z_aast (t := 2) (ci := 3) X hW hS f45 rfl ht43 rfl (by omega) (by omega) (by omega) dX7_comment_87 (fun C46 H locs hs47 hn48 hW hS => ?_)
        refine lv_aload_n hx hb dX7_comment_88 rfl (lv_at hl 2 rfl) ?_
        refine lv_dup hx hb dX7_comment_89 rfl ?_
        have f49 : C46 0 0 = some (.inr (7, [.ref (B15 1 0), .ref (B15 3 0), .int (zI (S 0 1 : Int)), .ref (B15 4 0), .int (zI (S 0 0 : Int)), .ref (B15 5 0), .int (zI (S 0 2 : Int)), .ref (B15 6 0), .int (zI (S 0 3 : Int)), .ref (B15 10 0), .ref (B15 14 0), .ref (B15 16 0), .ref (B15 18 0)])) := ((hn48 0 0 (gk (by decide))).trans ((hf44 0 0 (gk (by decide))).trans f22))
        refine g_get (ci := 7) X in_X7_comment_7 rfl hW f49 6 (by decide) (hts _ (List.mem_of_getElem? (i := 5) rfl)) rfl dX7_comment_90 ?_
        refine lv_iconst (v := zI (1)) hx hb dX7_comment_93 rfl ?_
        refine z_iadd hx hb dX7_comment_94 ?_
        refine g_put (ci := 7) (ty := .int) X in_X7_comment_7 tyX7 tyX7_ok nmX7 rfl hW hS f49 6 (by decide) (hts _ (List.mem_of_getElem? (i := 5) rfl)) rfl (by decide +kernel) (rfl) (rfl) (Nat.le_of_ble_eq_true rfl) dX7_comment_95 (fun C50 H locs hs51 hn52 hW hS => ?_)
        refine lv_iload hx hb dX7_comment_98 (lv_at hl 0 rfl) ?_
        have f53 : C50 5 0 = some (gR Z 2 12 (va_up f5 (S 0 2 : Int).toNat (some (B15 60 (S 0 2))))) := ((hn52 5 0 (gk (by decide))).trans hs47)
        have e5 := f53
        have f54 : C50 60 (S 0 2) = some (.inr (3, [.ref (B15 40 (cc.toNat)), .int (zI ((S 2 (cc.toNat) : Int) - 1)), .int (zI a), .int (zI 0)])) := ((hn52 60 (S 0 2) (gk (by decide))).trans ((hn48 60 (S 0 2) (gk (by decide))).trans ht43))
        exact kret _ _ _ _ _ _ _ _ _ (⟨⟨by unfold cd_comment; rw [if_neg (fun z => z hkc), if_neg (fun z => z.elim (by omega) (fun z2 => z2 h_21)), if_neg (by omega)], rfl⟩, (cs.comm hcs hwf hz hkc (by omega) (by omega) hs51 f54 hb5a hb5b e5 (fun k' i' h => (hBn18 k' i' (by omega))) (fun k' i' z1 z2 z3 => ((hn52 k' i' (by omega)).trans ((hn48 k' i' (by omega)).trans ((hf44 k' i' (by omega)).trans ((hn20 k' i' (by omega)).trans rfl)))))), (cx.kept (cx.kept (cx.kept (cx.B (cx.kept hcx (fun k' i' h1' h2' => hn20 (k') (i') (by omega))) (fun k' h1' h2' => hBn18 (k') 0 (by omega))) (fun k' i' h1' h2' => hf44 (k') (i') (by omega))) (fun k' i' h1' h2' => hn48 (k') (i') (by omega))) (fun k' i' h1' h2' => hn52 (k') (i') (by omega))), (fun k' i' h => (hn52 k' i' (by omega)).trans ((hn48 k' i' (by omega)).trans ((hf44 k' i' (by omega)).trans ((hn20 k' i' (by omega)))))), fun k' i' h => (hBn18 k' i' (by omega))⟩) hW hS (Nat.le_of_ble_eq_true rfl) (Nat.le_of_ble_eq_true rfl) dX7_comment_100
      · exact kt "java/lang/IllegalStateException" "all comments are made" 87 179 91 _ _ _ _ _ _ _ _ (pubx (Or.inr (Or.inr (⟨rfl, by unfold cd_comment; rw [if_neg (fun z => z hkc), if_neg (fun z => z.elim (by omega) (fun z2 => z2 h_21)), if_pos (Or.inr (by omega))]⟩))) hcs hcx gfo.rfl' rfl) hW hS hl ex_1 st_8 (by decide +kernel) (List.mem_of_getElem? (i := 3) rfl) (List.mem_of_getElem? (i := 4) rfl) (fun w hw => List.mem_cons_of_mem _ (List.mem_append_left _ (List.mem_append_right _ hw))) vxo_1_91 vxn_1_91 (Nat.le_of_ble_eq_true rfl) (Nat.le_of_ble_eq_true rfl) dX7_comment_50 dX7_comment_53 (Or.inl ⟨dX7_comment_54, dX7_comment_56, dX7_comment_59⟩)
    · exact kt "java/util/NoSuchElementException" "no such line in the present round" 171 173 175 _ _ _ _ _ _ _ _ (pubx (Or.inr (Or.inl (⟨rfl, by unfold cd_comment; rw [if_neg (fun z => z hkc), if_pos (Or.inr h_21)]⟩))) hcs hcx gfo.rfl' rfl) hW hS hl ex_4 st_7 (by decide +kernel) (List.mem_of_getElem? (i := 1) rfl) (List.mem_of_getElem? (i := 2) rfl) (fun w hw => List.mem_cons_of_mem _ (List.mem_append_left _ (List.mem_append_left _ (List.mem_append_right _ hw)))) vxo_4_175 vxn_4_175 (Nat.le_of_ble_eq_true rfl) (Nat.le_of_ble_eq_true rfl) dX7_comment_24 dX7_comment_27 (Or.inl ⟨dX7_comment_28, dX7_comment_30, dX7_comment_33⟩)

theorem ds_X7_giveRange : yX7_giveRange.cls ≠ "java/lang/invoke/MethodHandle" ∧ yX7_giveRange.cls ≠ "java/lang/invoke/VarHandle" ∧ (parseMethodDescriptor yX7_giveRange.desc).map (fun d => d.parameters.length) = some 3 := by decide +kernel
theorem in_X7_giveRange_7 : ∀ w ∈ wsX70, w ∈ wsX7_giveRange := by decide +kernel
def rX7_giveRange : Room := { frames := 7, cells := 4, slots := 24, locals := 102 }
set_option maxHeartbeats 4000000 in
set_option maxRecDepth 100000 in
theorem k_X7_giveRange {l : Launch} (hfl : l.stackTraces = false) {Z : gZ} {B : gB} {C0 : gC} {S : gS} {T : gTx} {a b u : Int} (hcs : cs Z B C0 S T) (hcx : cx Z B C0) (hwf : wf S T) (ra : zr a) (rb : zr b) (ru : zr u) : vx_Met l yX7_giveRange wsX7_giveRange rX7_giveRange (gPc Z B C0 [.ref (B 0 0), .int (zI a), .int (zI b), .int (zI u)]) (gQi Z B (fun r C1 => (cd_giveRange S a b u = 0 ∧ r = zI ((S 0 1 : Int) + 1)) ∧ cs Z B C1 (nS_giveRange S a b u) T ∧ cx Z B C1 ∧ gfo C0 C1)) (gXC Z B (fun E C1 => (E = "java/lang/IndexOutOfBoundsException" ∧ cd_giveRange S a b u = 1 ∨ E = "java/lang/IllegalArgumentException" ∧ cd_giveRange S a b u = 2 ∨ E = "java/lang/IllegalStateException" ∧ cd_giveRange S a b u = 3) ∧ cs Z B C1 S T ∧ cx Z B C1 ∧ gfo C0 C1)) 4 24 (gA Z) := by
  refine g_ofIx (cc := cX7_giveRange) (maxL := 5) hfl (by decide) rfl rfl (Nat.le_of_ble_eq_true rfl) (Nat.le_of_ble_eq_true rfl) (Nat.le_of_ble_eq_true rfl) (Nat.le_of_ble_eq_true rfl) (Nat.le_of_ble_eq_true rfl) ?_
  intro p e s m args below meth c Q X kret ko kt hW hS ls hl
  have hx := X.1.1
  have hb := X.1.2.1
  have hts := X.1.2.2.2.2
  have hl : lv_has ls 5 [(0, .ref (B 0 0)), (1, .int (zI a)), (2, .int (zI b)), (3, .int (zI u))] := hl
  obtain ⟨hb0, hb1, ⟨F3, hb3, hb3a⟩, ⟨f4, hb4, hb4a, hb4b⟩, ⟨f5, hb5, hb5a, hb5b⟩, ⟨F6, hb6, hb6a⟩, hb7, hb8, hb9, hb10, hb11⟩ := id hcs
  have hwn := hwf.n
  refine lv_iload_n hx hb dX7_giveRange_0 rfl (lv_at hl 3 rfl) ?_
  refine g_cvx (g_runSx X (k_X7_checkUser hfl (B := B) (C0 := C0) (a := u) (ru)) (va_cwS 1 hts gX7_giveRange_X7_checkUser rfl rfl rfl ds_X7_checkUser ⟨Nat.le_of_ble_eq_true rfl, Nat.le_of_ble_eq_true rfl⟩) hW hS rfl hl.1 rfl (Nat.le_of_ble_eq_true rfl) dX7_giveRange_1 ⟨Nat.le_of_ble_eq_true rfl, Nat.le_of_ble_eq_true rfl⟩) hS (fun E9 ce9 q9 C9 H9 locs9 hp9 hW9 hS9 e1 e2 e3 => ko E9 ce9 q9 C9 H9 locs9 _ _ _ _ _ (pubx (Or.inl (⟨hp9.1, by unfold cd_giveRange; rw [if_pos (hp9.2.1)]⟩)) hcs hcx gfo.rfl' hp9.2.2) hW9 hS9 e1 e2 e3 (Nat.le_of_ble_eq_true rfl) (Nat.le_of_ble_eq_true rfl)) (fun C1 H locs hp2 hW hS => ?_)
  obtain ⟨hku, ehp2⟩ := hp2
  rw [ehp2] at hW
  refine lv_iload_n hx hb dX7_giveRange_4 rfl (lv_at hl 1 rfl) ?_
  refine g_cvx (g_runSx X (k_X7_checkContent hfl (B := B) (C0 := C0) (a := a) (ra)) (va_cwS 1 hts gX7_giveRange_X7_checkContent rfl rfl rfl ds_X7_checkContent ⟨Nat.le_of_ble_eq_true rfl, Nat.le_of_ble_eq_true rfl⟩) hW hS rfl hl.1 rfl (Nat.le_of_ble_eq_true rfl) dX7_giveRange_5 ⟨Nat.le_of_ble_eq_true rfl, Nat.le_of_ble_eq_true rfl⟩) hS (fun E9 ce9 q9 C9 H9 locs9 hp9 hW9 hS9 e1 e2 e3 => ko E9 ce9 q9 C9 H9 locs9 _ _ _ _ _ (pubx (Or.inr (Or.inl (⟨hp9.1, by unfold cd_giveRange; rw [if_neg (fun z => z hku), if_pos (fun z => hp9.2.1 z.1)]⟩))) hcs hcx gfo.rfl' hp9.2.2) hW9 hS9 e1 e2 e3 (Nat.le_of_ble_eq_true rfl) (Nat.le_of_ble_eq_true rfl)) (fun C4 H locs hp5 hW hS => ?_)
  obtain ⟨hkt, ehp5⟩ := hp5
  rw [ehp5] at hW
  refine lv_iload_n hx hb dX7_giveRange_8 rfl (lv_at hl 2 rfl) ?_
  refine g_cvx (g_runSx X (k_X7_checkContent hfl (B := B) (C0 := C0) (a := b) (rb)) (va_cwS 1 hts gX7_giveRange_X7_checkContent rfl rfl rfl ds_X7_checkContent ⟨Nat.le_of_ble_eq_true rfl, Nat.le_of_ble_eq_true rfl⟩) hW hS rfl hl.1 rfl (Nat.le_of_ble_eq_true rfl) dX7_giveRange_9 ⟨Nat.le_of_ble_eq_true rfl, Nat.le_of_ble_eq_true rfl⟩) hS (fun E9 ce9 q9 C9 H9 locs9 hp9 hW9 hS9 e1 e2 e3 => ko E9 ce9 q9 C9 H9 locs9 _ _ _ _ _ (pubx (Or.inr (Or.inl (⟨hp9.1, by unfold cd_giveRange; rw [if_neg (fun z => z hku), if_pos (fun z => hp9.2.1 z.2.1)]⟩))) hcs hcx gfo.rfl' hp9.2.2) hW9 hS9 e1 e2 e3 (Nat.le_of_ble_eq_true rfl) (Nat.le_of_ble_eq_true rfl)) (fun C7 H locs hp8 hW hS => ?_)
  obtain ⟨hks, ehp8⟩ := hp8
  rw [ehp8] at hW
  refine lv_iload_n hx hb dX7_giveRange_12 rfl (lv_at hl 1 rfl) ?_
  refine lv_iload_n hx hb dX7_giveRange_13 rfl (lv_at hl 2 rfl) ?_
  refine z_icmp_le (tgt := 27) hx hb dX7_giveRange_14 (by decide) (ra) (rb) (fun h_14 => ?_) (fun h_14 => ?_)
  · refine lv_aload_n hx hb dX7_giveRange_27 rfl (lv_at hl 0 rfl) ?_
    refine g_get (ci := 7) X in_X7_giveRange_7 rfl hW hb0 2 (by decide) (hts _ (List.mem_of_getElem? (i := 5) rfl)) rfl dX7_giveRange_28 ?_
    refine lv_bipush (v := zI (6)) hx hb dX7_giveRange_31 (by decide) ?_
    refine z_icmp_lt (tgt := 46) hx hb dX7_giveRange_33 (by decide) (⟨by omega, by omega⟩) (⟨by omega, by omega⟩) (fun h_33 => ?_) (fun h_33 => ?_)
    · refine lv_iload_n hx hb dX7_giveRange_46 rfl (lv_at hl 1 rfl) ?_
      refine lv_istore (lv' := [(4, .int (zI a)), (0, .ref (B 0 0)), (1, .int (zI a)), (2, .int (zI b)), (3, .int (zI u))]) hx hb dX7_giveRange_47 hl (by decide) rfl (fun ls hl => ?_)
      have hl : lv_has ls 5 [(4, .int (zI (a.toNat : Int))), (0, .ref (B 0 0)), (1, .int (zI a)), (2, .int (zI b)), (3, .int (zI u))] := by rw [show ((a.toNat : Nat) : Int) = a by omega]; exact hl
      have lp49 : ∀ (n : Nat) (x : Nat) (F : Nat → Int) (Cl : gC) (H : Heap) (locs : List Loc), (b.toNat + 1 - x < n) → (a.toNat ≤ x ∧ x ≤ b.toNat + 1) → (∀ y : Nat, y < 100 → F y = if a ≤ (y : Int) ∧ (y : Int) < (x : Int) then u else F3 y) → (Cl 3 0 = some (gJ Z 100 F)) → (∀ k' i', ¬ (k' = 3 ∧ i' = 0) → Cl k' i' = C0 k' i') → gw Z B Cl H → va_S (gA Z) s.heap H locs → ∀ ls : Array Slot, lv_has ls 5 [(0, .ref (B 0 0)), (1, .int (zI a)), (2, .int (zI b)), (3, .int (zI u)), (4, .int (zI (x : Int)))] → W p l e rX7_giveRange s m args below meth c H locs 3 18 Q (F0 m 49 ls []) := by
        intro n
        induction n with
        | zero =>
          intro x F Cl H locs hm hxr hFx hel hfl hW hS ls hl
          exact absurd hm (by omega)
        | succ n ih49 =>
          intro x F Cl H locs hm hxr hFx hel hfl hW hS ls hl
          refine lv_iload hx hb dX7_giveRange_49 (lv_at hl 4 rfl) ?_
          refine lv_iload_n hx hb dX7_giveRange_51 rfl (lv_at hl 2 rfl) ?_
          refine z_icmp_gt (tgt := 71) hx hb dX7_giveRange_52 (by decide) (⟨by omega, by omega⟩) (rb) (fun h_52 => ?_) (fun h_52 => ?_)
          · refine lv_aload_n hx hb dX7_giveRange_71 rfl (lv_at hl 0 rfl) ?_
            refine lv_dup hx hb dX7_giveRange_72 rfl ?_
            refine g_get (ci := 7) X in_X7_giveRange_7 rfl hW ((hfl 0 0 (by omega)).trans hb0) 2 (by decide) (hts _ (List.mem_of_getElem? (i := 5) rfl)) rfl dX7_giveRange_73 ?_
            refine lv_iconst (v := zI (1)) hx hb dX7_giveRange_76 rfl ?_
            refine z_iadd hx hb dX7_giveRange_77 ?_
            refine g_put (ci := 7) (ty := .int) X in_X7_giveRange_7 tyX7 tyX7_ok nmX7 rfl hW hS ((hfl 0 0 (by omega)).trans hb0) 2 (by decide) (hts _ (List.mem_of_getElem? (i := 5) rfl)) rfl (by decide +kernel) (rfl) (rfl) (Nat.le_of_ble_eq_true rfl) dX7_giveRange_78 (fun C10 H locs hs11 hn12 hW hS => ?_)
            refine lv_aload_n hx hb dX7_giveRange_81 rfl (lv_at hl 0 rfl) ?_
            refine g_get (ci := 7) X in_X7_giveRange_7 rfl hW hs11 2 (by decide) (hts _ (List.mem_of_getElem? (i := 5) rfl)) rfl dX7_giveRange_82 ?_
            have f13 : C10 3 0 = some (gJ Z 100 F) := ((hn12 3 0 (gk (by decide))).trans hel)
            exact kret _ _ _ _ _ _ _ _ (⟨⟨by unfold cd_giveRange; rw [if_neg (fun z => z hku), if_neg (fun z => z ⟨hkt, hks, by omega⟩), if_neg (by omega)], rfl⟩, (cs.range hcs hkt hks hku hs11 f13 (fun y hy => by rw [hFx y hy, hb3a y hy]; by_cases q9 : a ≤ (y : Int) ∧ (y : Int) ≤ b; (rw [if_pos q9, if_pos (by omega)]); rw [if_neg q9, if_neg (by omega)]) (fun k' i' z1 z2 => ((hn12 k' i' (by omega)).trans (hfl k' i' (by omega))))), (cx.kept (cx.kept hcx (fun k' i' h1' h2' => hfl k' i' (by omega))) (fun k' i' h1' h2' => hn12 (k') (i') (by omega))), (fun k' i' h => ((hn12 k' i' (by omega)).trans (hfl k' i' (by omega))))⟩) hW hS (Nat.le_of_ble_eq_true rfl) (Nat.le_of_ble_eq_true rfl) dX7_giveRange_85
          · refine lv_aload_n hx hb dX7_giveRange_55 rfl (lv_at hl 0 rfl) ?_
            refine g_get (ci := 7) X in_X7_giveRange_7 rfl hW ((hfl 0 0 (by omega)).trans hb0) 1 (by decide) (hts _ (List.mem_of_getElem? (i := 6) rfl)) rfl dX7_giveRange_56 ?_
            refine lv_iload hx hb dX7_giveRange_59 (lv_at hl 4 rfl) ?_
            refine lv_iload_n hx hb dX7_giveRange_61 rfl (lv_at hl 3 rfl) ?_
            refine g_cv (g_runS X (k_X7_put (a := (x : Int)) (v := u) hel (by decide) (⟨by omega, by omega⟩)) (va_cwS 3 hts gX7_giveRange_X7_put rfl rfl rfl ds_X7_put ⟨Nat.le_of_ble_eq_true rfl, Nat.le_of_ble_eq_true rfl⟩) hW hS rfl hl.1 rfl (Nat.le_of_ble_eq_true rfl) dX7_giveRange_62 ⟨Nat.le_of_ble_eq_true rfl, Nat.le_of_ble_eq_true rfl⟩) hS (fun C14 H locs hp15 hW hS => ?_)
            obtain ⟨hs16, hn17⟩ := hp15
            rw [if_pos (show (0 : Int) ≤ (x : Int) ∧ (x : Int) < ((100 : Nat) : Int) from ⟨by omega, by omega⟩)] at hs16
            refine z_iinc (lv' := [(4, .int (zI ((x : Int) + 1))), (0, .ref (B 0 0)), (1, .int (zI a)), (2, .int (zI b)), (3, .int (zI u))]) hx hb dX7_giveRange_65 hl (q := 4) rfl (by decide) rfl (fun ls hl => ?_)
            refine lv_goto (tgt := 49) hx hb dX7_giveRange_68 (by decide) ?_
            exact ih49 (x + 1) _ _ _ _ (by omega) (by omega) (fun y hy => by by_cases e9 : y = x; (subst e9; rw [show ((y : Int)).toNat = y by omega, ju_s, if_pos (by omega)]); (rw [show ((x : Int)).toNat = x by omega, ju_n e9, hFx y hy]; by_cases q9 : a ≤ (y : Int) ∧ (y : Int) < (x : Int); (rw [if_pos q9, if_pos (by omega)]); rw [if_neg q9, if_neg (by omega)])) hs16 (fun k' i' h => (hn17 k' i' (by omega)).trans (hfl k' i' h)) hW hS _ (lv_sub hl [1, 2, 3, 4, 0] rfl)
      exact lp49 (b.toNat + 2) a.toNat F3 _ _ _ (by omega) (by omega) (fun y hy => by rw [if_neg (by omega)]) hb3 (fun _ _ _ => rfl) hW hS _ (lv_sub hl [1, 2, 3, 4, 0] rfl)
    · exact kt "java/lang/IllegalStateException" "all ranges are given" 87 89 91 _ _ _ _ _ _ _ _ (pubx (Or.inr (Or.inr (⟨rfl, by unfold cd_giveRange; rw [if_neg (fun z => z hku), if_neg (fun z => z ⟨hkt, hks, by omega⟩), if_pos (by omega)]⟩))) hcs hcx gfo.rfl' rfl) hW hS hl ex_1 st_1 (by decide +kernel) (List.mem_of_getElem? (i := 3) rfl) (List.mem_of_getElem? (i := 4) rfl) (fun w hw => List.mem_cons_of_mem _ (List.mem_append_left _ (List.mem_append_right _ hw))) vxo_1_91 vxn_1_91 (Nat.le_of_ble_eq_true rfl) (Nat.le_of_ble_eq_true rfl) dX7_giveRange_36 dX7_giveRange_39 (Or.inl ⟨dX7_giveRange_40, dX7_giveRange_42, dX7_giveRange_45⟩)
  · exact kt "java/lang/IllegalArgumentException" "the low content is greater than the high one" 76 78 80 _ _ _ _ _ _ _ _ (pubx (Or.inr (Or.inl (⟨rfl, by unfold cd_giveRange; rw [if_neg (fun z => z hku), if_pos (by omega)]⟩))) hcs hcx gfo.rfl' rfl) hW hS hl ex_0 st_0 (by decide +kernel) (List.mem_of_getElem? (i := 1) rfl) (List.mem_of_getElem? (i := 2) rfl) (fun w hw => List.mem_cons_of_mem _ (List.mem_append_left _ (List.mem_append_left _ (List.mem_append_right _ hw)))) vxo_0_80 vxn_0_80 (Nat.le_of_ble_eq_true rfl) (Nat.le_of_ble_eq_true rfl) dX7_giveRange_17 dX7_giveRange_20 (Or.inl ⟨dX7_giveRange_21, dX7_giveRange_23, dX7_giveRange_26⟩)

theorem ds_X7_landAll : yX7_landAll.cls ≠ "java/lang/invoke/MethodHandle" ∧ yX7_landAll.cls ≠ "java/lang/invoke/VarHandle" ∧ (parseMethodDescriptor yX7_landAll.desc).map (fun d => d.parameters.length) = some 0 := by decide +kernel
theorem in_X7_landAll_1 : ∀ w ∈ wsX10, w ∈ wsX7_landAll := by decide +kernel
theorem in_X7_landAll_7 : ∀ w ∈ wsX70, w ∈ wsX7_landAll := by decide +kernel
def rX7_landAll : Room := { frames := 6, cells := 0, slots := 0, locals := 141 }
set_option maxHeartbeats 4000000 in
set_option maxRecDepth 100000 in
theorem k_X7_landAll {l : Launch} {Z : gZ} {B : gB} {C0 : gC} {S : gS} {T : gTx} (hcs : cs Z B C0 S T) (hcx : cx Z B C0) (hwf : wf S T) : Met l yX7_landAll wsX7_landAll rX7_landAll (gPc Z B C0 [.ref (B 0 0)]) (gQi Z B (fun r C1 => r = zI (((lnd 4 (S, T)).1 0 3 : Int) - (S 0 3 : Int)) ∧ cs Z B C1 (lnd 4 (S, T)).1 (lnd 4 (S, T)).2 ∧ cx Z B C1 ∧ gfo C0 C1)) 0 0 (gA Z) := by
  refine g_ofI (cc := cX7_landAll) (maxL := 6) (by decide) rfl (Nat.le_of_ble_eq_true rfl) ?_
  intro p e s m args below meth c Q X kret hW hS ls hl
  have hx := X.1.1
  have hb := X.1.2.1
  have hts := X.1.2.2.2.2
  have hl : lv_has ls 6 [(0, .ref (B 0 0))] := hl
  obtain ⟨hb0, hb1, ⟨F3, hb3, hb3a⟩, ⟨f4, hb4, hb4a, hb4b⟩, ⟨f5, hb5, hb5a, hb5b⟩, ⟨F6, hb6, hb6a⟩, hb7, hb8, hb9, hb10, hb11⟩ := id hcs
  have hwn := hwf.n
  refine lv_aload_n hx hb dX7_landAll_0 rfl (lv_at hl 0 rfl) ?_
  refine g_get (ci := 7) X in_X7_landAll_7 rfl hW hb0 8 (by decide) (hts _ (List.mem_of_getElem? (i := 1) rfl)) rfl dX7_landAll_1 ?_
  refine lv_istore_n (lv' := [(1, .int (zI (S 0 3 : Int))), (0, .ref (B 0 0))]) hx hb dX7_landAll_4 rfl hl (by decide) rfl (fun ls hl => ?_)
  refine lv_iconst (v := zI (0)) hx hb dX7_landAll_5 rfl ?_
  refine lv_istore_n (lv' := [(2, .int (zI 0)), (1, .int (zI (S 0 3 : Int))), (0, .ref (B 0 0))]) hx hb dX7_landAll_6 rfl hl (by decide) rfl (fun ls hl => ?_)
  have lp7 : ∀ (n : Nat) (t : Nat) (S1 : gS) (T1 : gTx) (Cl : gC) (H : Heap) (locs : List Loc), (4 - t < n) → (t ≤ 4) → (lnd (4 - t) (S1, T1) = lnd 4 (S, T)) → (wf S1 T1) → (cs Z B Cl S1 T1) → (cx Z B Cl) → (gfo C0 Cl) → gw Z B Cl H → va_S (gA Z) s.heap H locs → ∀ ls : Array Slot, lv_has ls 6 [(0, .ref (B 0 0)), (1, .int (zI (S 0 3 : Int))), (2, .int (zI (t : Int)))] → W p l e rX7_landAll s m args below meth c H locs 0 0 Q (F0 m 7 ls []) := by
    intro n
    induction n with
    | zero =>
      intro t S1 T1 Cl H locs hm ht4 hln hwf1 hcs1 hcx1 hfo hW hS ls hl
      exact absurd hm (by omega)
    | succ n ih7 =>
      intro t S1 T1 Cl H locs hm ht4 hln hwf1 hcs1 hcx1 hfo hW hS ls hl
      refine lv_iload_n hx hb dX7_landAll_7 rfl (lv_at hl 2 rfl) ?_
      refine lv_iconst (v := zI (4)) hx hb dX7_landAll_8 rfl ?_
      refine z_icmp_ge (tgt := 95) hx hb dX7_landAll_9 (by decide) (⟨by omega, by omega⟩) (⟨by omega, by omega⟩) (fun h_9 => ?_) (fun h_9 => ?_)
      · refine lv_aload_n hx hb dX7_landAll_95 rfl (lv_at hl 0 rfl) ?_
        refine g_get (ci := 7) X in_X7_landAll_7 rfl hW (id hcs1).1 8 (by decide) (hts _ (List.mem_of_getElem? (i := 1) rfl)) rfl dX7_landAll_96 ?_
        refine lv_iload_n hx hb dX7_landAll_99 rfl (lv_at hl 1 rfl) ?_
        refine z_isub hx hb dX7_landAll_100 ?_
        have hend : lnd 4 (S, T) = (S1, T1) := by rw [← hln, show 4 - t = 0 by omega]; rfl
        exact kret _ _ _ _ _ _ _ _ (⟨by rw [hend], by rw [hend]; exact hcs1, hcx1, hfo⟩) hW hS (Nat.le_of_ble_eq_true rfl) (Nat.le_of_ble_eq_true rfl) dX7_landAll_101
      · refine lv_null hx hb dX7_landAll_12 ?_
        refine lv_astore_nN (lv' := [(3, .null), (0, .ref (B 0 0)), (1, .int (zI (S 0 3 : Int))), (2, .int (zI (t : Int)))]) hx hb dX7_landAll_13 rfl hl (by decide) rfl (fun ls hl => ?_)
        refine lv_iconst (v := zI (0)) hx hb dX7_landAll_14 rfl ?_
        refine lv_istore (lv' := [(4, .int (zI 0)), (3, .null), (0, .ref (B 0 0)), (1, .int (zI (S 0 3 : Int))), (2, .int (zI (t : Int)))]) hx hb dX7_landAll_15 hl (by decide) rfl (fun ls hl => ?_)
        have hl : lv_has ls 6 [(4, .int (zI 0)), (3, va_rf ((bst S1 T1 (min 0 (S1 0 0))).map (B 40))), (0, .ref (B 0 0)), (1, .int (zI (S 0 3 : Int))), (2, .int (zI (t : Int)))] := by rw [show min 0 (S1 0 0) = 0 by omega]; exact hl
        have lp17 : ∀ (n : Nat) (k : Nat) (Cl : gC) (H : Heap) (locs : List Loc), (4 - k < n) → (k ≤ 4) → (cs Z B Cl S1 T1) → (cx Z B Cl) → (gfo C0 Cl) → gw Z B Cl H → va_S (gA Z) s.heap H locs → ∀ ls : Array Slot, lv_has ls 6 [(0, .ref (B 0 0)), (1, .int (zI (S 0 3 : Int))), (2, .int (zI (t : Int))), (3, va_rf ((bst S1 T1 (min k (S1 0 0))).map (B 40))), (4, .int (zI (k : Int)))] → W p l e rX7_landAll s m args below meth c H locs 0 0 Q (F0 m 17 ls []) := by
          intro n
          induction n with
          | zero =>
            intro k Cl H locs hm hk4 hcsl hcxl hfl hW hS ls hl
            exact absurd hm (by omega)
          | succ n ih17 =>
            intro k Cl H locs hm hk4 hcsl hcxl hfl hW hS ls hl
            obtain ⟨hb0l, -, -, ⟨f4l, hb4l, hb4al, hb4bl⟩, -⟩ := id hcsl
            have hn1 := hwf1.n
            refine lv_iload hx hb dX7_landAll_17 (lv_at hl 4 rfl) ?_
            refine lv_aload_n hx hb dX7_landAll_19 rfl (lv_at hl 0 rfl) ?_
            refine g_get (ci := 7) X in_X7_landAll_7 rfl hW hb0l 3 (by decide) (hts _ (List.mem_of_getElem? (i := 2) rfl)) rfl dX7_landAll_20 ?_
            refine z_alen (t := 1) X hW hb4l rfl dX7_landAll_23 ?_
            refine z_icmp_ge (tgt := 77) hx hb dX7_landAll_24 (by decide) (⟨by omega, by omega⟩) (⟨by omega, by omega⟩) (fun h_24 => ?_) (fun h_24 => ?_)
            · rw [show min k (S1 0 0) = S1 0 0 by omega] at hl
              rcases hbo : bst S1 T1 (S1 0 0) with _ | bb
              · rw [hbo] at hl
                have hl : lv_has ls 6 [(0, .ref (B 0 0)), (1, .int (zI (S 0 3 : Int))), (2, .int (zI (t : Int))), (3, .null), (4, .int (zI (k : Int)))] := hl
                refine lv_aload_nN hx hb dX7_landAll_77 rfl (lv_at hl 3 rfl) ?_
                refine lv_ifnonnullN hx hb dX7_landAll_78 ?_
                refine lv_goto (tgt := 95) hx hb dX7_landAll_81 (by decide) ?_
                refine lv_aload_n hx hb dX7_landAll_95 rfl (lv_at hl 0 rfl) ?_
                refine g_get (ci := 7) X in_X7_landAll_7 rfl hW hb0l 8 (by decide) (hts _ (List.mem_of_getElem? (i := 1) rfl)) rfl dX7_landAll_96 ?_
                refine lv_iload_n hx hb dX7_landAll_99 rfl (lv_at hl 1 rfl) ?_
                refine z_isub hx hb dX7_landAll_100 ?_
                have hend : lnd 4 (S, T) = (S1, T1) := by rw [← hln, lnd_n hbo]
                exact kret _ _ _ _ _ _ _ _ (⟨by rw [hend], by rw [hend]; exact hcsl, hcxl, hfl⟩) hW hS (Nat.le_of_ble_eq_true rfl) (Nat.le_of_ble_eq_true rfl) dX7_landAll_101
              · rw [hbo] at hl
                have hl : lv_has ls 6 [(0, .ref (B 0 0)), (1, .int (zI (S 0 3 : Int))), (2, .int (zI (t : Int))), (3, .ref (B 40 bb)), (4, .int (zI (k : Int)))] := hl
                have hbl := bst_lt hbo
                refine lv_aload_n hx hb dX7_landAll_77 rfl (lv_at hl 3 rfl) ?_
                refine lv_ifnonnull (tgt := 84) hx hb dX7_landAll_78 (by decide) ?_
                refine lv_aload_n hx hb dX7_landAll_84 rfl (lv_at hl 0 rfl) ?_
                refine lv_aload_n hx hb dX7_landAll_85 rfl (lv_at hl 3 rfl) ?_
                refine g_cv (g_runV X (k_X7_bringIn (i := bb) hcsl hcxl hwf1 hbl.1 hbl.2) (cwV 1 hts gX7_landAll_X7_bringIn rfl rfl rfl ⟨rfl, ds_X7_bringIn⟩ ⟨Nat.le_of_ble_eq_true rfl, Nat.le_of_ble_eq_true rfl⟩) hW hS hb0l rfl rfl hl.1 rfl (Nat.le_of_ble_eq_true rfl) dX7_landAll_86 ⟨Nat.le_of_ble_eq_true rfl, Nat.le_of_ble_eq_true rfl⟩) hS (fun C1 H locs hp2 hW hS => ?_)
                obtain ⟨hcs3, hcx4, hf5⟩ := hp2
                refine z_iinc (lv' := [(2, .int (zI ((t : Int) + 1))), (0, .ref (B 0 0)), (1, .int (zI (S 0 3 : Int))), (3, .ref (B 40 bb)), (4, .int (zI (k : Int)))]) hx hb dX7_landAll_89 hl (q := 2) rfl (by decide) rfl (fun ls hl => ?_)
                refine lv_goto (tgt := 7) hx hb dX7_landAll_92 (by decide) ?_
                exact ih7 (t + 1) (ldS S1 bb) (ldT S1 T1 bb) _ _ _ (by omega) (by omega) (by rw [← hln, show 4 - t = (4 - (t + 1)) + 1 by omega, lnd_s hbo]) (hwf1.land hbl.1 hbl.2) hcs3 hcx4 (gfo.trans hfl (fun k' i' h => (hf5 k' i' (by omega)))) hW hS _ (lv_sub hl [1, 2, 0] rfl)
            · rcases hbo : bst S1 T1 (min k (S1 0 0)) with _ | bb
              · rw [hbo] at hl
                have hl : lv_has ls 6 [(0, .ref (B 0 0)), (1, .int (zI (S 0 3 : Int))), (2, .int (zI (t : Int))), (3, .null), (4, .int (zI (k : Int)))] := hl
                refine lv_aload_n hx hb dX7_landAll_27 rfl (lv_at hl 0 rfl) ?_
                refine g_get (ci := 7) X in_X7_landAll_7 rfl hW hb0l 3 (by decide) (hts _ (List.mem_of_getElem? (i := 2) rfl)) rfl dX7_landAll_28 ?_
                refine lv_iload hx hb dX7_landAll_31 (lv_at hl 4 rfl) ?_
                refine z_aald (t := 1) X hW hb4l rfl (by omega) (by omega) (by omega) dX7_landAll_33 ?_
                by_cases hin : k < S1 0 0
                · rw [show va_rf (f4l (k : Int).toNat) = .ref (B 40 k) from by rw [show f4l (k : Int).toNat = some (B 40 k) from by rw [show ((k : Int)).toNat = k by omega]; exact hb4al k hin]; rfl]
                  have hwk := hwf1.ch hin
                  rw [show min k (S1 0 0) = k by omega] at hbo
                  refine lv_astore (lv' := [(5, .ref (B 40 k)), (0, .ref (B 0 0)), (1, .int (zI (S 0 3 : Int))), (2, .int (zI (t : Int))), (3, .null), (4, .int (zI (k : Int)))]) hx hb dX7_landAll_34 hl (by decide) rfl (fun ls hl => ?_)
                  refine lv_aload hx hb dX7_landAll_36 (lv_at hl 0 rfl) ?_
                  refine lv_ifnull hx hb dX7_landAll_38 ?_
                  refine lv_aload_nN hx hb dX7_landAll_41 rfl (lv_at hl 4 rfl) ?_
                  refine lv_ifnullN (tgt := 57) hx hb dX7_landAll_42 (by decide) ?_
                  refine lv_aload_n hx hb dX7_landAll_57 rfl (lv_at hl 1 rfl) ?_
                  refine lv_aload hx hb dX7_landAll_58 (lv_at hl 0 rfl) ?_
                  refine g_ci (g_runV X (k_X7_reasonFor (i := k) hcsl hcxl hwf1 hin) (cwV 1 hts gX7_landAll_X7_reasonFor rfl rfl rfl ⟨rfl, ds_X7_reasonFor⟩ ⟨Nat.le_of_ble_eq_true rfl, Nat.le_of_ble_eq_true rfl⟩) hW hS hb0l rfl rfl hl.1 rfl (Nat.le_of_ble_eq_true rfl) dX7_landAll_60 ⟨Nat.le_of_ble_eq_true rfl, Nat.le_of_ble_eq_true rfl⟩) hS (fun r8 C6 H locs hp7 hW hS => ?_)
                  obtain ⟨e9, hx10, hf11⟩ := hp7
                  rw [e9]
                  have hrc := rsn_cases S1 T1 k
                  refine lv_bipush (v := zI (32)) hx hb dX7_landAll_63 (by decide) ?_
                  refine z_icmp_ne (tgt := 71) hx hb dX7_landAll_65 (by decide) (⟨by omega, by omega⟩) (⟨by omega, by omega⟩) (fun h_65 => ?_) (fun h_65 => ?_)
                  · refine z_iinc (lv' := [(4, .int (zI ((k : Int) + 1))), (5, .ref (B 40 k)), (0, .ref (B 0 0)), (1, .int (zI (S 0 3 : Int))), (2, .int (zI (t : Int))), (3, .null)]) hx hb dX7_landAll_71 hl (q := 5) rfl (by decide) rfl (fun ls hl => ?_)
                    have hq : bst S1 T1 (min (k + 1) (S1 0 0)) = none := by rw [min_s hin, show min k (S1 0 0) = k by omega, bst_n (fun z9 => by have := z9.2; omega)]; exact hbo
                    have hl : lv_has ls 6 [(4, .int (zI ((k : Int) + 1))), (5, .ref (B 40 k)), (0, .ref (B 0 0)), (1, .int (zI (S 0 3 : Int))), (2, .int (zI (t : Int))), (3, va_rf ((bst S1 T1 (min (k + 1) (S1 0 0))).map (B 40)))] := by rw [hq]; exact hl
                    refine lv_goto (tgt := 17) hx hb dX7_landAll_74 (by decide) ?_
                    exact ih17 (k + 1) _ _ _ (by omega) (by omega) (cs.kept hcsl (fun k' i' h' => hf11 (k') (i') (by omega))) hx10 (gfo.trans hfl (fun k' i' h => (hf11 k' i' (by omega)))) hW hS _ (lv_sub hl [2, 3, 4, 5, 0] rfl)
                  · refine lv_aload hx hb dX7_landAll_68 (lv_at hl 0 rfl) ?_
                    refine lv_astore_n (lv' := [(3, .ref (B 40 k)), (5, .ref (B 40 k)), (0, .ref (B 0 0)), (1, .int (zI (S 0 3 : Int))), (2, .int (zI (t : Int))), (4, .int (zI (k : Int)))]) hx hb dX7_landAll_70 rfl hl (by decide) rfl (fun ls hl => ?_)
                    refine z_iinc (lv' := [(4, .int (zI ((k : Int) + 1))), (3, .ref (B 40 k)), (5, .ref (B 40 k)), (0, .ref (B 0 0)), (1, .int (zI (S 0 3 : Int))), (2, .int (zI (t : Int)))]) hx hb dX7_landAll_71 hl (q := 5) rfl (by decide) rfl (fun ls hl => ?_)
                    have hq : bst S1 T1 (min (k + 1) (S1 0 0)) = some k := by rw [min_s hin, show min k (S1 0 0) = k by omega]; exact bst_y ⟨(fun b9 hb9 => by rw [hbo] at hb9; cases hb9), by omega⟩
                    have hl : lv_has ls 6 [(4, .int (zI ((k : Int) + 1))), (3, va_rf ((bst S1 T1 (min (k + 1) (S1 0 0))).map (B 40))), (5, .ref (B 40 k)), (0, .ref (B 0 0)), (1, .int (zI (S 0 3 : Int))), (2, .int (zI (t : Int)))] := by rw [hq]; exact hl
                    refine lv_goto (tgt := 17) hx hb dX7_landAll_74 (by decide) ?_
                    exact ih17 (k + 1) _ _ _ (by omega) (by omega) (cs.kept hcsl (fun k' i' h' => hf11 (k') (i') (by omega))) hx10 (gfo.trans hfl (fun k' i' h => (hf11 k' i' (by omega)))) hW hS _ (lv_sub hl [3, 4, 5, 1, 0] rfl)
                · rw [show va_rf (f4l (k : Int).toNat) = .null from by rw [show f4l (k : Int).toNat = none from by rw [show ((k : Int)).toNat = k by omega]; exact hb4bl k (by omega)]; rfl]
                  refine lv_astoreN (lv' := [(5, .null), (0, .ref (B 0 0)), (1, .int (zI (S 0 3 : Int))), (2, .int (zI (t : Int))), (3, .null), (4, .int (zI (k : Int)))]) hx hb dX7_landAll_34 hl (by decide) rfl (fun ls hl => ?_)
                  refine lv_aloadN hx hb dX7_landAll_36 (lv_at hl 0 rfl) ?_
                  refine lv_ifnullN (tgt := 71) hx hb dX7_landAll_38 (by decide) ?_
                  refine z_iinc (lv' := [(4, .int (zI ((k : Int) + 1))), (5, .null), (0, .ref (B 0 0)), (1, .int (zI (S 0 3 : Int))), (2, .int (zI (t : Int))), (3, .null)]) hx hb dX7_landAll_71 hl (q := 5) rfl (by decide) rfl (fun ls hl => ?_)
                  have hq : bst S1 T1 (min (k + 1) (S1 0 0)) = none := by rw [min_e (by omega)]; exact hbo
                  have hl : lv_has ls 6 [(4, .int (zI ((k : Int) + 1))), (5, .null), (0, .ref (B 0 0)), (1, .int (zI (S 0 3 : Int))), (2, .int (zI (t : Int))), (3, va_rf ((bst S1 T1 (min (k + 1) (S1 0 0))).map (B 40)))] := by rw [hq]; exact hl
                  refine lv_goto (tgt := 17) hx hb dX7_landAll_74 (by decide) ?_
                  exact ih17 (k + 1) _ _ _ (by omega) (by omega) hcsl hcxl (hfl) hW hS _ (lv_sub hl [2, 3, 4, 5, 0] rfl)
              · rw [hbo] at hl
                have hl : lv_has ls 6 [(0, .ref (B 0 0)), (1, .int (zI (S 0 3 : Int))), (2, .int (zI (t : Int))), (3, .ref (B 40 bb)), (4, .int (zI (k : Int)))] := hl
                have hbl := bst_lt hbo
                have hbw := hwf1.ch (show bb < S1 0 0 by omega)
                refine lv_aload_n hx hb dX7_landAll_27 rfl (lv_at hl 0 rfl) ?_
                refine g_get (ci := 7) X in_X7_landAll_7 rfl hW hb0l 3 (by decide) (hts _ (List.mem_of_getElem? (i := 2) rfl)) rfl dX7_landAll_28 ?_
                refine lv_iload hx hb dX7_landAll_31 (lv_at hl 4 rfl) ?_
                refine z_aald (t := 1) X hW hb4l rfl (by omega) (by omega) (by omega) dX7_landAll_33 ?_
                by_cases hin : k < S1 0 0
                · rw [show va_rf (f4l (k : Int).toNat) = .ref (B 40 k) from by rw [show f4l (k : Int).toNat = some (B 40 k) from by rw [show ((k : Int)).toNat = k by omega]; exact hb4al k hin]; rfl]
                  have hwk := hwf1.ch hin
                  rw [show min k (S1 0 0) = k by omega] at hbo
                  refine lv_astore (lv' := [(5, .ref (B 40 k)), (0, .ref (B 0 0)), (1, .int (zI (S 0 3 : Int))), (2, .int (zI (t : Int))), (3, .ref (B 40 bb)), (4, .int (zI (k : Int)))]) hx hb dX7_landAll_34 hl (by decide) rfl (fun ls hl => ?_)
                  refine lv_aload hx hb dX7_landAll_36 (lv_at hl 0 rfl) ?_
                  refine lv_ifnull hx hb dX7_landAll_38 ?_
                  refine lv_aload_n hx hb dX7_landAll_41 rfl (lv_at hl 4 rfl) ?_
                  refine lv_ifnull hx hb dX7_landAll_42 ?_
                  refine lv_aload hx hb dX7_landAll_45 (lv_at hl 0 rfl) ?_
                  refine g_getN (ci := 1) X in_X7_landAll_1 rfl hW (cs.ch hcsl hin).1 7 (by decide) _ nf_3 rfl rfl dX7_landAll_47 ?_
                  refine lv_aload_n hx hb dX7_landAll_50 rfl (lv_at hl 4 rfl) ?_
                  refine g_getN (ci := 1) X in_X7_landAll_1 rfl hW (cs.ch hcsl (show bb < S1 0 0 by omega)).1 7 (by decide) _ nf_3 rfl rfl dX7_landAll_51 ?_
                  refine z_icmp_le (tgt := 71) hx hb dX7_landAll_54 (by decide) (⟨by omega, by omega⟩) (⟨by omega, by omega⟩) (fun h_54 => ?_) (fun h_54 => ?_)
                  · refine z_iinc (lv' := [(4, .int (zI ((k : Int) + 1))), (5, .ref (B 40 k)), (0, .ref (B 0 0)), (1, .int (zI (S 0 3 : Int))), (2, .int (zI (t : Int))), (3, .ref (B 40 bb))]) hx hb dX7_landAll_71 hl (q := 5) rfl (by decide) rfl (fun ls hl => ?_)
                    have hq : bst S1 T1 (min (k + 1) (S1 0 0)) = some bb := by rw [min_s hin, show min k (S1 0 0) = k by omega, bst_n (fun z9 => by have := z9.1 bb hbo; omega)]; exact hbo
                    have hl : lv_has ls 6 [(4, .int (zI ((k : Int) + 1))), (5, .ref (B 40 k)), (0, .ref (B 0 0)), (1, .int (zI (S 0 3 : Int))), (2, .int (zI (t : Int))), (3, va_rf ((bst S1 T1 (min (k + 1) (S1 0 0))).map (B 40)))] := by rw [hq]; exact hl
                    refine lv_goto (tgt := 17) hx hb dX7_landAll_74 (by decide) ?_
                    exact ih17 (k + 1) _ _ _ (by omega) (by omega) hcsl hcxl (hfl) hW hS _ (lv_sub hl [2, 3, 4, 5, 0] rfl)
                  · refine lv_aload_n hx hb dX7_landAll_57 rfl (lv_at hl 1 rfl) ?_
                    refine lv_aload hx hb dX7_landAll_58 (lv_at hl 0 rfl) ?_
                    refine g_ci (g_runV X (k_X7_reasonFor (i := k) hcsl hcxl hwf1 hin) (cwV 1 hts gX7_landAll_X7_reasonFor rfl rfl rfl ⟨rfl, ds_X7_reasonFor⟩ ⟨Nat.le_of_ble_eq_true rfl, Nat.le_of_ble_eq_true rfl⟩) hW hS hb0l rfl rfl hl.1 rfl (Nat.le_of_ble_eq_true rfl) dX7_landAll_60 ⟨Nat.le_of_ble_eq_true rfl, Nat.le_of_ble_eq_true rfl⟩) hS (fun r14 C12 H locs hp13 hW hS => ?_)
                    obtain ⟨e15, hx16, hf17⟩ := hp13
                    rw [e15]
                    have hrc := rsn_cases S1 T1 k
                    refine lv_bipush (v := zI (32)) hx hb dX7_landAll_63 (by decide) ?_
                    refine z_icmp_ne (tgt := 71) hx hb dX7_landAll_65 (by decide) (⟨by omega, by omega⟩) (⟨by omega, by omega⟩) (fun h_65 => ?_) (fun h_65 => ?_)
                    · refine z_iinc (lv' := [(4, .int (zI ((k : Int) + 1))), (5, .ref (B 40 k)), (0, .ref (B 0 0)), (1, .int (zI (S 0 3 : Int))), (2, .int (zI (t : Int))), (3, .ref (B 40 bb))]) hx hb dX7_landAll_71 hl (q := 5) rfl (by decide) rfl (fun ls hl => ?_)
                      have hq : bst S1 T1 (min (k + 1) (S1 0 0)) = some bb := by rw [min_s hin, show min k (S1 0 0) = k by omega, bst_n (fun z9 => by have := z9.2; omega)]; exact hbo
                      have hl : lv_has ls 6 [(4, .int (zI ((k : Int) + 1))), (5, .ref (B 40 k)), (0, .ref (B 0 0)), (1, .int (zI (S 0 3 : Int))), (2, .int (zI (t : Int))), (3, va_rf ((bst S1 T1 (min (k + 1) (S1 0 0))).map (B 40)))] := by rw [hq]; exact hl
                      refine lv_goto (tgt := 17) hx hb dX7_landAll_74 (by decide) ?_
                      exact ih17 (k + 1) _ _ _ (by omega) (by omega) (cs.kept hcsl (fun k' i' h' => hf17 (k') (i') (by omega))) hx16 (gfo.trans hfl (fun k' i' h => (hf17 k' i' (by omega)))) hW hS _ (lv_sub hl [2, 3, 4, 5, 0] rfl)
                    · refine lv_aload hx hb dX7_landAll_68 (lv_at hl 0 rfl) ?_
                      refine lv_astore_n (lv' := [(3, .ref (B 40 k)), (5, .ref (B 40 k)), (0, .ref (B 0 0)), (1, .int (zI (S 0 3 : Int))), (2, .int (zI (t : Int))), (4, .int (zI (k : Int)))]) hx hb dX7_landAll_70 rfl hl (by decide) rfl (fun ls hl => ?_)
                      refine z_iinc (lv' := [(4, .int (zI ((k : Int) + 1))), (3, .ref (B 40 k)), (5, .ref (B 40 k)), (0, .ref (B 0 0)), (1, .int (zI (S 0 3 : Int))), (2, .int (zI (t : Int)))]) hx hb dX7_landAll_71 hl (q := 5) rfl (by decide) rfl (fun ls hl => ?_)
                      have hq : bst S1 T1 (min (k + 1) (S1 0 0)) = some k := by rw [min_s hin, show min k (S1 0 0) = k by omega]; exact bst_y ⟨(fun b9 hb9 => by rw [hbo] at hb9; cases hb9; omega), by omega⟩
                      have hl : lv_has ls 6 [(4, .int (zI ((k : Int) + 1))), (3, va_rf ((bst S1 T1 (min (k + 1) (S1 0 0))).map (B 40))), (5, .ref (B 40 k)), (0, .ref (B 0 0)), (1, .int (zI (S 0 3 : Int))), (2, .int (zI (t : Int)))] := by rw [hq]; exact hl
                      refine lv_goto (tgt := 17) hx hb dX7_landAll_74 (by decide) ?_
                      exact ih17 (k + 1) _ _ _ (by omega) (by omega) (cs.kept hcsl (fun k' i' h' => hf17 (k') (i') (by omega))) hx16 (gfo.trans hfl (fun k' i' h => (hf17 k' i' (by omega)))) hW hS _ (lv_sub hl [3, 4, 5, 1, 0] rfl)
                · rw [show va_rf (f4l (k : Int).toNat) = .null from by rw [show f4l (k : Int).toNat = none from by rw [show ((k : Int)).toNat = k by omega]; exact hb4bl k (by omega)]; rfl]
                  refine lv_astoreN (lv' := [(5, .null), (0, .ref (B 0 0)), (1, .int (zI (S 0 3 : Int))), (2, .int (zI (t : Int))), (3, .ref (B 40 bb)), (4, .int (zI (k : Int)))]) hx hb dX7_landAll_34 hl (by decide) rfl (fun ls hl => ?_)
                  refine lv_aloadN hx hb dX7_landAll_36 (lv_at hl 0 rfl) ?_
                  refine lv_ifnullN (tgt := 71) hx hb dX7_landAll_38 (by decide) ?_
                  refine z_iinc (lv' := [(4, .int (zI ((k : Int) + 1))), (5, .null), (0, .ref (B 0 0)), (1, .int (zI (S 0 3 : Int))), (2, .int (zI (t : Int))), (3, .ref (B 40 bb))]) hx hb dX7_landAll_71 hl (q := 5) rfl (by decide) rfl (fun ls hl => ?_)
                  have hq : bst S1 T1 (min (k + 1) (S1 0 0)) = some bb := by rw [min_e (by omega)]; exact hbo
                  have hl : lv_has ls 6 [(4, .int (zI ((k : Int) + 1))), (5, .null), (0, .ref (B 0 0)), (1, .int (zI (S 0 3 : Int))), (2, .int (zI (t : Int))), (3, va_rf ((bst S1 T1 (min (k + 1) (S1 0 0))).map (B 40)))] := by rw [hq]; exact hl
                  refine lv_goto (tgt := 17) hx hb dX7_landAll_74 (by decide) ?_
                  exact ih17 (k + 1) _ _ _ (by omega) (by omega) hcsl hcxl (hfl) hW hS _ (lv_sub hl [2, 3, 4, 5, 0] rfl)
        exact lp17 5 0 _ _ _ (by omega) (by omega) hcs1 hcx1 hfo hW hS _ (lv_sub hl [2, 3, 4, 1, 0] rfl)
  exact lp7 5 0 S T _ _ _ (by omega) (by omega) rfl hwf hcs hcx gfo.rfl' hW hS _ (lv_sub hl [2, 1, 0] rfl)
