theorem ds_X7_reasonFor : yX7_reasonFor.cls ≠ "java/lang/invoke/MethodHandle" ∧ yX7_reasonFor.cls ≠ "java/lang/invoke/VarHandle" ∧ (parseMethodDescriptor yX7_reasonFor.desc).map (fun d => d.parameters.length) = some 1 := by decide +kernel
theorem in_X7_reasonFor_1 : ∀ w ∈ wsX10, w ∈ wsX7_reasonFor := by decide +kernel
theorem in_X7_reasonFor_2 : ∀ w ∈ wsX20, w ∈ wsX7_reasonFor := by decide +kernel
theorem in_X7_reasonFor_7 : ∀ w ∈ wsX70, w ∈ wsX7_reasonFor := by decide +kernel
def rX7_reasonFor : Room := { frames := 5, cells := 0, slots := 0, locals := 120 }
set_option maxHeartbeats 4000000 in
set_option maxRecDepth 100000 in
theorem k_X7_reasonFor {l : Launch} {Z : gZ} {B : gB} {C0 : gC} {S : gS} {T : gTx} {i : Nat} (hcs : cs Z B C0 S T) (hcx : cx Z B C0) (hwf : wf S T) (hi : i < S 0 0) : Met l yX7_reasonFor wsX7_reasonFor rX7_reasonFor (gPc Z B C0 [.ref (B 0 0), .ref (B 40 i)]) (gQi Z B (fun r C1 => r = zI (rsn S T i : Int) ∧ cx Z B C1 ∧ fws C0 C1)) 0 0 (gA Z) := by
  refine g_ofZ (cc := cX7_reasonFor) (maxL := 2) (by decide) rfl (Nat.le_of_ble_eq_true rfl) (fun r C1 h => by obtain ⟨h, -⟩ := h; rw [h]; exact rsn_nar S T i) ?_
  intro p e s m args below meth c Q X kret hW hS ls hl
  have hx := X.1.1
  have hb := X.1.2.1
  have hts := X.1.2.2.2.2
  have hl : lv_has ls 2 [(0, .ref (B 0 0)), (1, .ref (B 40 i))] := hl
  obtain ⟨hb0, hb1, ⟨F3, hb3, hb3a⟩, ⟨f4, hb4, hb4a, hb4b⟩, ⟨f5, hb5, hb5a, hb5b⟩, ⟨F6, hb6, hb6a⟩, hb7, hb8, hb9, hb10, hb11⟩ := id hcs
  have hwn := hwf.n
  obtain ⟨hc0, hc1, hc2, ⟨f45, hc3, hc3a, hc3b⟩, hc4, hc4n, hc5, F50, hc6, hc6a⟩ := id (cs.ch hcs hi)
  have hwi := hwf.ch hi
  refine lv_aload_n hx hb dX7_reasonFor_0 rfl (lv_at hl 1 rfl) ?_
  refine g_getN (ci := 1) X in_X7_reasonFor_1 rfl hW hc0 8 (by decide) _ nf_8 rfl rfl dX7_reasonFor_1 ?_
  refine z_if_eq (tgt := 10) hx hb dX7_reasonFor_4 (by decide) (⟨by omega, by omega⟩) (fun h_4 => ?_) (fun h_4 => ?_)
  · refine lv_aload_n hx hb dX7_reasonFor_10 rfl (lv_at hl 1 rfl) ?_
    refine g_getN (ci := 1) X in_X7_reasonFor_1 rfl hW hc0 6 (by decide) _ nf_1 rfl rfl dX7_reasonFor_11 ?_
    refine z_if_ne (tgt := 20) hx hb dX7_reasonFor_14 (by decide) (⟨by omega, by omega⟩) (fun h_14 => ?_) (fun h_14 => ?_)
    · refine lv_aload_n hx hb dX7_reasonFor_20 rfl (lv_at hl 0 rfl) ?_
      refine lv_aload_n hx hb dX7_reasonFor_21 rfl (lv_at hl 1 rfl) ?_
      refine g_ci (g_runV X (k_X7_waitsForAnother (i := i) hcs hwf hi) (cwV 1 hts gX7_reasonFor_X7_waitsForAnother rfl rfl rfl ⟨rfl, ds_X7_waitsForAnother⟩ ⟨Nat.le_of_ble_eq_true rfl, Nat.le_of_ble_eq_true rfl⟩) hW hS hb0 rfl rfl hl.1 rfl (Nat.le_of_ble_eq_true rfl) dX7_reasonFor_22 ⟨Nat.le_of_ble_eq_true rfl, Nat.le_of_ble_eq_true rfl⟩) hS (fun r3 C1 H locs hp2 hW hS => ?_)
      obtain ⟨rfl, ehp2⟩ := hp2
      rw [ehp2] at hW
      refine z_ifb_eq (tgt := 31) hx hb dX7_reasonFor_25 (by decide) (fun h_25 => ?_) (fun h_25 => ?_)
      · refine lv_aload_n hx hb dX7_reasonFor_31 rfl (lv_at hl 0 rfl) ?_
        refine lv_aload_n hx hb dX7_reasonFor_32 rfl (lv_at hl 1 rfl) ?_
        refine g_ci (g_runV X (k_X7_countOpen (i := i) hcs hwf hi) (cwV 1 hts gX7_reasonFor_X7_countOpen rfl rfl rfl ⟨rfl, ds_X7_countOpen⟩ ⟨Nat.le_of_ble_eq_true rfl, Nat.le_of_ble_eq_true rfl⟩) hW hS hb0 rfl rfl hl.1 rfl (Nat.le_of_ble_eq_true rfl) dX7_reasonFor_33 ⟨Nat.le_of_ble_eq_true rfl, Nat.le_of_ble_eq_true rfl⟩) hS (fun r6 C4 H locs hp5 hW hS => ?_)
        obtain ⟨rfl, ehp5⟩ := hp5
        rw [ehp5] at hW
        have hol : opn S i ≤ S 0 2 := opnr_le S i (S 0 2)
        refine z_if_le (tgt := 42) hx hb dX7_reasonFor_36 (by decide) (⟨by omega, by omega⟩) (fun h_36 => ?_) (fun h_36 => ?_)
        · refine lv_aload_n hx hb dX7_reasonFor_42 rfl (lv_at hl 0 rfl) ?_
          refine lv_aload_n hx hb dX7_reasonFor_43 rfl (lv_at hl 1 rfl) ?_
          refine g_ci (g_runV X (k_X7_neededUsers (i := i) hcs hcx hwf hi) (cwV 1 hts gX7_reasonFor_X7_neededUsers rfl rfl rfl ⟨rfl, ds_X7_neededUsers⟩ ⟨Nat.le_of_ble_eq_true rfl, Nat.le_of_ble_eq_true rfl⟩) hW hS hb0 rfl rfl hl.1 rfl (Nat.le_of_ble_eq_true rfl) dX7_reasonFor_44 ⟨Nat.le_of_ble_eq_true rfl, Nat.le_of_ble_eq_true rfl⟩) hS (fun r9 C7 H locs hp8 hW hS => ?_)
          obtain ⟨e10, hx11, hf12⟩ := hp8
          rw [e10]
          refine lv_aload_n hx hb dX7_reasonFor_47 rfl (lv_at hl 0 rfl) ?_
          refine lv_aload_n hx hb dX7_reasonFor_48 rfl (lv_at hl 1 rfl) ?_
          have f13 : C7 0 0 = some (.inr (7, [.ref (B 1 0), .ref (B 3 0), .int (zI (S 0 1 : Int)), .ref (B 4 0), .int (zI (S 0 0 : Int)), .ref (B 5 0), .int (zI (S 0 2 : Int)), .ref (B 6 0), .int (zI (S 0 3 : Int)), .ref (B 10 0), .ref (B 14 0), .ref (B 16 0), .ref (B 18 0)])) := ((hf12 0 0 (by omega)).trans hb0)
          refine g_ci (g_runV X (k_X7_freshUsers (i := i) (cs.kept hcs (fun k' i' h' => hf12 (k') (i') (by omega))) hx11 hwf hi) (cwV 1 hts gX7_reasonFor_X7_freshUsers rfl rfl rfl ⟨rfl, ds_X7_freshUsers⟩ ⟨Nat.le_of_ble_eq_true rfl, Nat.le_of_ble_eq_true rfl⟩) hW hS f13 rfl rfl hl.1 rfl (Nat.le_of_ble_eq_true rfl) dX7_reasonFor_49 ⟨Nat.le_of_ble_eq_true rfl, Nat.le_of_ble_eq_true rfl⟩) hS (fun r16 C14 H locs hp15 hW hS => ?_)
          obtain ⟨e17, hx18, hf19⟩ := hp15
          rw [e17]
          refine lv_iconst (v := zI (-1)) hx hb dX7_reasonFor_52 rfl ?_
          refine lv_ixor hx hb dX7_reasonFor_53 ?_
          refine lv_iand hx hb dX7_reasonFor_54 ?_
          rw [show ((zI (nee S T i : Int)) &&& ((zI (fre S T i : Int)) ^^^ (zI (-1)))) = zI (bdif (nee S T i) (fre S T i) : Int) from bdif_i (nee_lt hwf.rg hwi.1) fre_lt]
          have hbd := bdif_lt (nee_lt (T := T) hwf.rg hwi.1) (fre_lt (S := S) (T := T) (i := i))
          refine z_if_eq (tgt := 61) hx hb dX7_reasonFor_55 (by decide) (⟨by omega, by omega⟩) (fun h_55 => ?_) (fun h_55 => ?_)
          · obtain ⟨-, -, -, cf8, mt8, hmo8⟩ := id hx18
            refine lv_aload_n hx hb dX7_reasonFor_61 rfl (lv_at hl 0 rfl) ?_
            have f20 : C14 0 0 = some (.inr (7, [.ref (B 1 0), .ref (B 3 0), .int (zI (S 0 1 : Int)), .ref (B 4 0), .int (zI (S 0 0 : Int)), .ref (B 5 0), .int (zI (S 0 2 : Int)), .ref (B 6 0), .int (zI (S 0 3 : Int)), .ref (B 10 0), .ref (B 14 0), .ref (B 16 0), .ref (B 18 0)])) := ((hf19 0 0 (by omega)).trans f13)
            refine g_get (ci := 7) X in_X7_reasonFor_7 rfl hW f20 12 (by decide) (hts _ (List.mem_of_getElem? (i := 1) rfl)) rfl dX7_reasonFor_62 ?_
            refine lv_aload_n hx hb dX7_reasonFor_65 rfl (lv_at hl 1 rfl) ?_
            have f21 : C14 40 i = some (.inr (1, [.int (zI (i : Int)), .int (zI (S 1 i : Int)), .ref (B 41 i), .ref (B 43 i), .ref (B 45 i), .ref (B 48 i), .int (zI (S 2 i : Int)), .int (zI (S 4 i : Int)), .int (zI (S 5 i : Int)), .int (zI (S 3 i : Int)), .ref (B 50 i)])) := ((hf19 40 i (by omega)).trans ((hf12 40 i (by omega)).trans hc0))
            refine g_getN (ci := 1) X in_X7_reasonFor_1 rfl hW f21 2 (by decide) _ nf_10 rfl rfl dX7_reasonFor_66 ?_
            refine lv_aload_n hx hb dX7_reasonFor_69 rfl (lv_at hl 0 rfl) ?_
            refine g_get (ci := 7) X in_X7_reasonFor_7 rfl hW f20 0 (by decide) (hts _ (List.mem_of_getElem? (i := 2) rfl)) rfl dX7_reasonFor_70 ?_
            refine lv_aload_n hx hb dX7_reasonFor_73 rfl (lv_at hl 1 rfl) ?_
            refine g_cr (g_runV X (k_X1_presentText (cs.kept (cs.kept hcs (fun k' i' h' => hf12 (k') (i') (by omega))) (fun k' i' h' => hf19 (k') (i') (by omega))) hwf hi (by omega)) (cwV 0 hts gX7_reasonFor_X1_presentText rfl rfl rfl ⟨rfl, ds_X1_presentText⟩ ⟨Nat.le_of_ble_eq_true rfl, Nat.le_of_ble_eq_true rfl⟩) hW hS f21 rfl rfl hl.1 rfl (Nat.le_of_ble_eq_true rfl) dX7_reasonFor_74 ⟨Nat.le_of_ble_eq_true rfl, Nat.le_of_ble_eq_true rfl⟩) hS (fun r24 C22 H locs hp23 hW hS => ?_)
            obtain ⟨rfl, ehp23⟩ := hp23
            rw [ehp23] at hW
            have ht25 : tx Z B C14 41 i (T (1 + i)) := (tx.kept (tx.kept hc1 (hf12 41 i (by omega)) (hf12 42 i (by omega))) (hf19 41 i (by omega)) (hf19 42 i (by omega)))
            have ht26 : tx Z B C14 1 0 (T 0) := (tx.kept (tx.kept hb1 (hf12 1 0 (by omega)) (hf12 2 0 (by omega))) (hf19 1 0 (by omega)) (hf19 2 0 (by omega)))
            have ht27 : tx Z B C14 46 (4 * i + (S 2 i - 1)) (T (9 + 4 * i + (S 2 i - 1))) := (tx.kept (tx.kept (hc4 (S 2 i - 1) (by omega)) (hf12 46 (4 * i + (S 2 i - 1)) (by omega)) (hf12 47 (4 * i + (S 2 i - 1)) (by omega))) (hf19 46 (4 * i + (S 2 i - 1)) (by omega)) (hf19 47 (4 * i + (S 2 i - 1)) (by omega)))
            refine g_cv (g_runV X (k_X2_merge hmo8 ht25 ht26 ht27 (hwf.tx _) (hwf.tx _) (hwf.tx _) (by omega) (by omega) (by omega)) (cwV 3 hts gX7_reasonFor_X2_merge rfl rfl rfl ⟨rfl, ds_X2_merge⟩ ⟨Nat.le_of_ble_eq_true rfl, Nat.le_of_ble_eq_true rfl⟩) hW hS hmo8.1 rfl rfl hl.1 rfl (Nat.le_of_ble_eq_true rfl) dX7_reasonFor_77 ⟨Nat.le_of_ble_eq_true rfl, Nat.le_of_ble_eq_true rfl⟩) hS (fun C28 H locs hp29 hW hS => ?_)
            obtain ⟨⟨cf30, mt31, hmq32, hmr33⟩, hf34⟩ := hp29
            have hcf : 0 ≤ cf30 ∧ cf30 ≤ 1 := by rcases hmr33 with ⟨_, _, z9, _⟩ | ⟨_, z9⟩ <;> omega
            refine lv_aload_n hx hb dX7_reasonFor_80 rfl (lv_at hl 0 rfl) ?_
            have f35 : C28 0 0 = some (.inr (7, [.ref (B 1 0), .ref (B 3 0), .int (zI (S 0 1 : Int)), .ref (B 4 0), .int (zI (S 0 0 : Int)), .ref (B 5 0), .int (zI (S 0 2 : Int)), .ref (B 6 0), .int (zI (S 0 3 : Int)), .ref (B 10 0), .ref (B 14 0), .ref (B 16 0), .ref (B 18 0)])) := ((hf34 0 0 (by omega)).trans f20)
            refine g_get (ci := 7) X in_X7_reasonFor_7 rfl hW f35 12 (by decide) (hts _ (List.mem_of_getElem? (i := 1) rfl)) rfl dX7_reasonFor_81 ?_
            refine g_getN (ci := 2) X in_X7_reasonFor_2 rfl hW hmq32.1 6 (by decide) _ nf_11 rfl rfl dX7_reasonFor_84 ?_
            refine z_if_eq (tgt := 93) hx hb dX7_reasonFor_87 (by decide) (⟨by omega, by omega⟩) (fun h_87 => ?_) (fun h_87 => ?_)
            · refine lv_aload_n hx hb dX7_reasonFor_93 rfl (lv_at hl 0 rfl) ?_
              refine g_get (ci := 7) X in_X7_reasonFor_7 rfl hW f35 12 (by decide) (hts _ (List.mem_of_getElem? (i := 1) rfl)) rfl dX7_reasonFor_94 ?_
              refine g_getN (ci := 2) X in_X7_reasonFor_2 rfl hW hmq32.1 5 (by decide) _ nf_12 rfl rfl dX7_reasonFor_97 ?_
              refine g_ci (g_runV X (k_X5_size (t := mt31) hmq32.2.2.2.2.2.2 ) (cwV 0 hts gX7_reasonFor_X5_size rfl rfl rfl ⟨rfl, ds_X5_size⟩ ⟨Nat.le_of_ble_eq_true rfl, Nat.le_of_ble_eq_true rfl⟩) hW hS hmq32.2.2.2.2.2.2.2.2.1 rfl rfl hl.1 rfl (Nat.le_of_ble_eq_true rfl) dX7_reasonFor_100 ⟨Nat.le_of_ble_eq_true rfl, Nat.le_of_ble_eq_true rfl⟩) hS (fun r38 C36 H locs hp37 hW hS => ?_)
              obtain ⟨rfl, ehp37⟩ := hp37
              rw [ehp37] at hW
              have hm24 := hmq32.2.2.2.2.2.2.1
              refine lv_bipush (v := zI (12)) hx hb dX7_reasonFor_103 (by decide) ?_
              refine z_icmp_le (tgt := 113) hx hb dX7_reasonFor_105 (by decide) (⟨by omega, by omega⟩) (⟨by omega, by omega⟩) (fun h_105 => ?_) (fun h_105 => ?_)
              · refine lv_bipush (v := zI (32)) hx hb dX7_reasonFor_113 (by decide) ?_
                obtain ⟨x, hx1, -, hx3⟩ := hmr33.resolve_right (fun z9 => by have := z9.2; omega)
                have hlx : mt31.length = min 24 x.length := by rw [hx3, List.length_take]
                exact kret _ _ _ _ _ _ _ _ (⟨by rw [rsn_k (by omega) (by omega) h_25 (by omega) (by omega) hx1 (by omega)]; rfl, (cx.merger hx18 hmq32 hf34), fun k' i' h => (hf34 k' i' (by omega)).trans ((hf19 k' i' (by omega)).trans ((hf12 k' i' (by omega))))⟩) hW hS (Nat.le_of_ble_eq_true rfl) (Nat.le_of_ble_eq_true rfl) dX7_reasonFor_115
              · refine lv_bipush (v := zI (115)) hx hb dX7_reasonFor_108 (by decide) ?_
                refine lv_goto (tgt := 115) hx hb dX7_reasonFor_110 (by decide) ?_
                obtain ⟨x, hx1, -, hx3⟩ := hmr33.resolve_right (fun z9 => by have := z9.2; omega)
                have hlx : mt31.length = min 24 x.length := by rw [hx3, List.length_take]
                exact kret _ _ _ _ _ _ _ _ (⟨by rw [rsn_s (by omega) (by omega) h_25 (by omega) (by omega) hx1 (by omega)]; rfl, (cx.merger hx18 hmq32 hf34), fun k' i' h => (hf34 k' i' (by omega)).trans ((hf19 k' i' (by omega)).trans ((hf12 k' i' (by omega))))⟩) hW hS (Nat.le_of_ble_eq_true rfl) (Nat.le_of_ble_eq_true rfl) dX7_reasonFor_115
            · refine lv_bipush (v := zI (109)) hx hb dX7_reasonFor_90 (by decide) ?_
              exact kret _ _ _ _ _ _ _ _ (⟨by rw [rsn_m (by omega) (by omega) h_25 (by omega) (by omega) (hmr33.resolve_left (fun ⟨_, _, z9, _⟩ => h_87 z9)).1]; rfl, (cx.merger hx18 hmq32 hf34), fun k' i' h => (hf34 k' i' (by omega)).trans ((hf19 k' i' (by omega)).trans ((hf12 k' i' (by omega))))⟩) hW hS (Nat.le_of_ble_eq_true rfl) (Nat.le_of_ble_eq_true rfl) dX7_reasonFor_92
          · refine lv_bipush (v := zI (97)) hx hb dX7_reasonFor_58 (by decide) ?_
            exact kret _ _ _ _ _ _ _ _ (⟨by rw [rsn_a (by omega) (by omega) h_25 (by omega) (by omega)]; rfl, hx18, fun k' i' h => (hf19 k' i' (by omega)).trans ((hf12 k' i' (by omega)))⟩) hW hS (Nat.le_of_ble_eq_true rfl) (Nat.le_of_ble_eq_true rfl) dX7_reasonFor_60
        · refine lv_bipush (v := zI (99)) hx hb dX7_reasonFor_39 (by decide) ?_
          exact kret _ _ _ _ _ _ _ _ (⟨by rw [rsn_c (by omega) (by omega) h_25 (by omega)]; rfl, hcx, fws.rfl'⟩) hW hS (Nat.le_of_ble_eq_true rfl) (Nat.le_of_ble_eq_true rfl) dX7_reasonFor_41
      · refine lv_bipush (v := zI (100)) hx hb dX7_reasonFor_28 (by decide) ?_
        exact kret _ _ _ _ _ _ _ _ (⟨by rw [rsn_d (by omega) (by omega) h_25]; rfl, hcx, fws.rfl'⟩) hW hS (Nat.le_of_ble_eq_true rfl) (Nat.le_of_ble_eq_true rfl) dX7_reasonFor_30
    · refine lv_bipush (v := zI (114)) hx hb dX7_reasonFor_17 (by decide) ?_
      exact kret _ _ _ _ _ _ _ _ (⟨by rw [rsn_r (by omega) (by omega)]; rfl, hcx, fws.rfl'⟩) hW hS (Nat.le_of_ble_eq_true rfl) (Nat.le_of_ble_eq_true rfl) dX7_reasonFor_19
  · refine lv_bipush (v := zI (108)) hx hb dX7_reasonFor_7 (by decide) ?_
    exact kret _ _ _ _ _ _ _ _ (⟨by rw [rsn_l (by omega)]; rfl, hcx, fws.rfl'⟩) hW hS (Nat.le_of_ble_eq_true rfl) (Nat.le_of_ble_eq_true rfl) dX7_reasonFor_9

theorem ds_X7_bringIn : yX7_bringIn.cls ≠ "java/lang/invoke/MethodHandle" ∧ yX7_bringIn.cls ≠ "java/lang/invoke/VarHandle" ∧ (parseMethodDescriptor yX7_bringIn.desc).map (fun d => d.parameters.length) = some 1 := by decide +kernel
theorem in_X7_bringIn_1 : ∀ w ∈ wsX10, w ∈ wsX7_bringIn := by decide +kernel
theorem in_X7_bringIn_2 : ∀ w ∈ wsX20, w ∈ wsX7_bringIn := by decide +kernel
theorem in_X7_bringIn_7 : ∀ w ∈ wsX70, w ∈ wsX7_bringIn := by decide +kernel
def rX7_bringIn : Room := { frames := 5, cells := 0, slots := 0, locals := 119 }
set_option maxHeartbeats 4000000 in
set_option maxRecDepth 100000 in
theorem k_X7_bringIn {l : Launch} {Z : gZ} {B : gB} {C0 : gC} {S : gS} {T : gTx} {i : Nat} (hcs : cs Z B C0 S T) (hcx : cx Z B C0) (hwf : wf S T) (hi : i < S 0 0) (hrs : rsn S T i = 32) : Met l yX7_bringIn wsX7_bringIn rX7_bringIn (gPc Z B C0 [.ref (B 0 0), .ref (B 40 i)]) (gQv Z B (fun C1 => cs Z B C1 (ldS S i) (ldT S T i) ∧ cx Z B C1 ∧ ∀ k' i', 60 ≤ k' → C1 k' i' = C0 k' i')) 0 0 (gA Z) := by
  refine g_ofV (cc := cX7_bringIn) (maxL := 2) (by decide) rfl (Nat.le_of_ble_eq_true rfl) ?_
  intro p e s m args below meth c Q X kret hW hS ls hl
  have hx := X.1.1
  have hb := X.1.2.1
  have hts := X.1.2.2.2.2
  have hl : lv_has ls 2 [(0, .ref (B 0 0)), (1, .ref (B 40 i))] := hl
  obtain ⟨hb0, hb1, ⟨F3, hb3, hb3a⟩, ⟨f4, hb4, hb4a, hb4b⟩, ⟨f5, hb5, hb5a, hb5b⟩, ⟨F6, hb6, hb6a⟩, hb7, hb8, hb9, hb10, hb11⟩ := id hcs
  have hwn := hwf.n
  obtain ⟨hc0, hc1, hc2, ⟨f45, hc3, hc3a, hc3b⟩, hc4, hc4n, hc5, F50, hc6, hc6a⟩ := id (cs.ch hcs hi)
  have hwi := hwf.ch hi
  obtain ⟨h50, h20, x, hgx, hgx12⟩ := rsn_ok hrs
  have hld := hwf.ld' hi h50
  obtain ⟨-, -, -, cf8, mt8, hmo8⟩ := id hcx
  refine lv_aload_n hx hb dX7_bringIn_0 rfl (lv_at hl 0 rfl) ?_
  refine g_get (ci := 7) X in_X7_bringIn_7 rfl hW hb0 12 (by decide) (hts _ (List.mem_of_getElem? (i := 1) rfl)) rfl dX7_bringIn_1 ?_
  refine lv_aload_n hx hb dX7_bringIn_4 rfl (lv_at hl 1 rfl) ?_
  refine g_getN (ci := 1) X in_X7_bringIn_1 rfl hW hc0 2 (by decide) _ nf_10 rfl rfl dX7_bringIn_5 ?_
  refine lv_aload_n hx hb dX7_bringIn_8 rfl (lv_at hl 0 rfl) ?_
  refine g_get (ci := 7) X in_X7_bringIn_7 rfl hW hb0 0 (by decide) (hts _ (List.mem_of_getElem? (i := 2) rfl)) rfl dX7_bringIn_9 ?_
  refine lv_aload_n hx hb dX7_bringIn_12 rfl (lv_at hl 1 rfl) ?_
  refine g_cr (g_runV X (k_X1_presentText hcs hwf hi (by omega)) (cwV 0 hts gX7_bringIn_X1_presentText rfl rfl rfl ⟨rfl, ds_X1_presentText⟩ ⟨Nat.le_of_ble_eq_true rfl, Nat.le_of_ble_eq_true rfl⟩) hW hS hc0 rfl rfl hl.1 rfl (Nat.le_of_ble_eq_true rfl) dX7_bringIn_13 ⟨Nat.le_of_ble_eq_true rfl, Nat.le_of_ble_eq_true rfl⟩) hS (fun r3 C1 H locs hp2 hW hS => ?_)
  obtain ⟨rfl, ehp2⟩ := hp2
  rw [ehp2] at hW
  refine g_cv (g_runV X (k_X2_merge hmo8 hc1 hb1 (hc4 (S 2 i - 1) (by omega)) (hwf.tx _) (hwf.tx _) (hwf.tx _) (by omega) (by omega) (by omega)) (cwV 3 hts gX7_bringIn_X2_merge rfl rfl rfl ⟨rfl, ds_X2_merge⟩ ⟨Nat.le_of_ble_eq_true rfl, Nat.le_of_ble_eq_true rfl⟩) hW hS hmo8.1 rfl rfl hl.1 rfl (Nat.le_of_ble_eq_true rfl) dX7_bringIn_16 ⟨Nat.le_of_ble_eq_true rfl, Nat.le_of_ble_eq_true rfl⟩) hS (fun C4 H locs hp5 hW hS => ?_)
  obtain ⟨⟨cf6, mt7, hmq8, hmr9⟩, hf10⟩ := hp5
  have hcf : 0 ≤ cf6 ∧ cf6 ≤ 1 := by rcases hmr9 with ⟨_, _, z9, _⟩ | ⟨_, z9⟩ <;> omega
  obtain ⟨x9, hx1, -, hx3⟩ := hmr9.resolve_right (fun z9 => by rw [hgx] at z9; cases z9.1)
  have hmx : mt7 = x := by rw [hx3, ← Option.some.inj (hgx.symm.trans hx1), List.take_of_length_le (by omega)]
  subst hmx
  refine lv_aload_n hx hb dX7_bringIn_19 rfl (lv_at hl 0 rfl) ?_
  have f11 : C4 0 0 = some (.inr (7, [.ref (B 1 0), .ref (B 3 0), .int (zI (S 0 1 : Int)), .ref (B 4 0), .int (zI (S 0 0 : Int)), .ref (B 5 0), .int (zI (S 0 2 : Int)), .ref (B 6 0), .int (zI (S 0 3 : Int)), .ref (B 10 0), .ref (B 14 0), .ref (B 16 0), .ref (B 18 0)])) := ((hf10 0 0 (by omega)).trans hb0)
  refine g_get (ci := 7) X in_X7_bringIn_7 rfl hW f11 0 (by decide) (hts _ (List.mem_of_getElem? (i := 2) rfl)) rfl dX7_bringIn_20 ?_
  refine lv_aload_n hx hb dX7_bringIn_23 rfl (lv_at hl 0 rfl) ?_
  refine g_get (ci := 7) X in_X7_bringIn_7 rfl hW f11 12 (by decide) (hts _ (List.mem_of_getElem? (i := 1) rfl)) rfl dX7_bringIn_24 ?_
  refine g_getN (ci := 2) X in_X7_bringIn_2 rfl hW hmq8.1 5 (by decide) _ nf_12 rfl rfl dX7_bringIn_27 ?_
  have ht12 : tx Z B C4 1 0 (T 0) := (tx.kept hb1 (hf10 1 0 (by omega)) (hf10 2 0 (by omega)))
  refine g_cv (g_runV X (k_X5_copy (t := T 0) (t2 := mt7) ht12 hmq8.2.2.2.2.2.2 (by omega) ) (cwV 1 hts gX7_bringIn_X5_copy rfl rfl rfl ⟨rfl, ds_X5_copy⟩ ⟨Nat.le_of_ble_eq_true rfl, Nat.le_of_ble_eq_true rfl⟩) hW hS ht12.2.2.1 rfl rfl hl.1 rfl (Nat.le_of_ble_eq_true rfl) dX7_bringIn_30 ⟨Nat.le_of_ble_eq_true rfl, Nat.le_of_ble_eq_true rfl⟩) hS (fun C13 H locs hp14 hW hS => ?_)
  obtain ⟨ht15, hf16⟩ := hp14
  refine lv_aload_n hx hb dX7_bringIn_33 rfl (lv_at hl 1 rfl) ?_
  refine lv_iconst (v := zI (1)) hx hb dX7_bringIn_34 rfl ?_
  have f17 : C13 40 i = some (.inr (1, [.int (zI (i : Int)), .int (zI (S 1 i : Int)), .ref (B 41 i), .ref (B 43 i), .ref (B 45 i), .ref (B 48 i), .int (zI (S 2 i : Int)), .int (zI (S 4 i : Int)), .int (zI (S 5 i : Int)), .int (zI (S 3 i : Int)), .ref (B 50 i)])) := ((hf16 40 i (by omega)).trans ((hf10 40 i (by omega)).trans hc0))
  refine g_putN (ci := 1) (ty := .boolean) X in_X7_bringIn_1 tyX1 tyX1_ok nmX1 rfl hW hS f17 8 (by decide) _ nf_8 rfl rfl (by decide +kernel) (rfl) (rfl) (Nat.le_of_ble_eq_true rfl) dX7_bringIn_35 (fun C18 H locs hs19 hn20 hW hS => ?_)
  refine lv_aload_n hx hb dX7_bringIn_38 rfl (lv_at hl 0 rfl) ?_
  have f21 : C18 0 0 = some (.inr (7, [.ref (B 1 0), .ref (B 3 0), .int (zI (S 0 1 : Int)), .ref (B 4 0), .int (zI (S 0 0 : Int)), .ref (B 5 0), .int (zI (S 0 2 : Int)), .ref (B 6 0), .int (zI (S 0 3 : Int)), .ref (B 10 0), .ref (B 14 0), .ref (B 16 0), .ref (B 18 0)])) := ((hn20 0 0 (gk (by decide))).trans ((hf16 0 0 (by omega)).trans f11))
  refine g_get (ci := 7) X in_X7_bringIn_7 rfl hW f21 7 (by decide) (hts _ (List.mem_of_getElem? (i := 3) rfl)) rfl dX7_bringIn_39 ?_
  refine lv_aload_n hx hb dX7_bringIn_42 rfl (lv_at hl 0 rfl) ?_
  refine g_get (ci := 7) X in_X7_bringIn_7 rfl hW f21 8 (by decide) (hts _ (List.mem_of_getElem? (i := 4) rfl)) rfl dX7_bringIn_43 ?_
  refine lv_aload_n hx hb dX7_bringIn_46 rfl (lv_at hl 1 rfl) ?_
  refine g_getN (ci := 1) X in_X7_bringIn_1 rfl hW hs19 0 (by decide) _ nf_13 rfl rfl dX7_bringIn_47 ?_
  have f22 : C18 6 0 = some (gJ Z 4 F6) := ((hn20 6 0 (gk (by decide))).trans ((hf16 6 0 (by omega)).trans ((hf10 6 0 (by omega)).trans hb6)))
  refine g_cv (g_runS X (k_X7_put (a := (S 0 3 : Int)) (v := (i : Int)) f22 (by decide) (⟨by omega, by omega⟩)) (va_cwS 3 hts gX7_bringIn_X7_put rfl rfl rfl ds_X7_put ⟨Nat.le_of_ble_eq_true rfl, Nat.le_of_ble_eq_true rfl⟩) hW hS rfl hl.1 rfl (Nat.le_of_ble_eq_true rfl) dX7_bringIn_50 ⟨Nat.le_of_ble_eq_true rfl, Nat.le_of_ble_eq_true rfl⟩) hS (fun C23 H locs hp24 hW hS => ?_)
  obtain ⟨hs25, hn26⟩ := hp24
  rw [if_pos (show (0 : Int) ≤ (S 0 3 : Int) ∧ (S 0 3 : Int) < ((4 : Nat) : Int) from ⟨by omega, by omega⟩)] at hs25
  refine lv_aload_n hx hb dX7_bringIn_53 rfl (lv_at hl 0 rfl) ?_
  refine lv_dup hx hb dX7_bringIn_54 rfl ?_
  have f27 : C23 0 0 = some (.inr (7, [.ref (B 1 0), .ref (B 3 0), .int (zI (S 0 1 : Int)), .ref (B 4 0), .int (zI (S 0 0 : Int)), .ref (B 5 0), .int (zI (S 0 2 : Int)), .ref (B 6 0), .int (zI (S 0 3 : Int)), .ref (B 10 0), .ref (B 14 0), .ref (B 16 0), .ref (B 18 0)])) := ((hn26 0 0 (gk (by decide))).trans f21)
  refine g_get (ci := 7) X in_X7_bringIn_7 rfl hW f27 8 (by decide) (hts _ (List.mem_of_getElem? (i := 4) rfl)) rfl dX7_bringIn_55 ?_
  refine lv_iconst (v := zI (1)) hx hb dX7_bringIn_58 rfl ?_
  refine z_iadd hx hb dX7_bringIn_59 ?_
  refine g_put (ci := 7) (ty := .int) X in_X7_bringIn_7 tyX7 tyX7_ok nmX7 rfl hW hS f27 8 (by decide) (hts _ (List.mem_of_getElem? (i := 4) rfl)) rfl (by decide +kernel) (rfl) (rfl) (Nat.le_of_ble_eq_true rfl) dX7_bringIn_60 (fun C28 H locs hs29 hn30 hW hS => ?_)
  have f31 : C28 6 0 = some (gJ Z 4 (ju F6 (S 0 3 : Int).toNat (i : Int))) := ((hn30 6 0 (gk (by decide))).trans hs25)
  have e6 : C28 6 0 = some (gJ Z 4 (ju F6 (S 0 3) (i : Int))) := f31
  have ht32 : tx Z B C28 1 0 mt7 := (tx.kept (tx.kept (tx.kept ht15 (hn20 1 0 (gk (by decide))) (hn20 2 0 (gk (by decide)))) (hn26 1 0 (gk (by decide))) (hn26 2 0 (gk (by decide)))) (hn30 1 0 (gk (by decide))) (hn30 2 0 (gk (by decide))))
  have f33 : C28 40 i = some (.inr (1, [.int (zI (i : Int)), .int (zI (S 1 i : Int)), .ref (B 41 i), .ref (B 43 i), .ref (B 45 i), .ref (B 48 i), .int (zI (S 2 i : Int)), .int (zI (S 4 i : Int)), .int (zI 1), .int (zI (S 3 i : Int)), .ref (B 50 i)])) := ((hn30 40 i (gk (by decide))).trans ((hn26 40 i (gk (by decide))).trans hs19))
  exact kret _ _ _ _ _ _ _ (⟨cs.land hcs hwf hi hgx hb6a hs29 ht32 e6 f33 (fun k' i' z1 z2 z3 z4 z5 => ((hn30 k' i' (by omega)).trans ((hn26 k' i' (by omega)).trans ((hn20 k' i' (by omega)).trans ((hf16 k' i' (by omega)).trans ((hf10 k' i' (by omega)).trans rfl)))))), (cx.kept (cx.kept (cx.kept (cx.kept (cx.merger hcx hmq8 hf10) (fun k' i' h1' h2' => hf16 (k') (i') (by omega))) (fun k' i' h1' h2' => hn20 (k') (i') (by omega))) (fun k' i' h1' h2' => hn26 (k') (i') (by omega))) (fun k' i' h1' h2' => hn30 (k') (i') (by omega))), fun k' i' z1 => ((hn30 k' i' (by omega)).trans ((hn26 k' i' (by omega)).trans ((hn20 k' i' (by omega)).trans ((hf16 k' i' (by omega)).trans ((hf10 k' i' (by omega)).trans rfl)))))⟩) hW hS (Nat.le_of_ble_eq_true rfl) (Nat.le_of_ble_eq_true rfl) dX7_bringIn_63
