theorem ds_X8_merges : yX8_merges.cls ≠ "java/lang/invoke/MethodHandle" ∧ yX8_merges.cls ≠ "java/lang/invoke/VarHandle" ∧ (parseMethodDescriptor yX8_merges.desc).map (fun d => d.parameters.length) = some 1 := by decide +kernel
theorem in_X8_merges_8 : ∀ w ∈ wsX80, w ∈ wsX8_merges := by decide +kernel
def rX8_merges : Room := { frames := 2, cells := 0, slots := 0, locals := 49 }
set_option maxHeartbeats 4000000 in
set_option maxRecDepth 100000 in
theorem k_X8_merges {l : Launch} {Z : gZ} {B : gB} {C0 : gC} {S : gS} {T : gTx} {th : Int} {i : Nat} (hmd : md Z B C0 S T th) (hwf : wf S T) (hi : i < S 0 0) (hr : 0 < S 2 i) : Met l yX8_merges wsX8_merges rX8_merges (gPc Z B C0 [.ref (B 70 0), .int (zI (i : Int))]) (gQi Z B (fun r C1 => ((∃ x, mg3 (T (1 + i)) (T 0) (prs S T i) = some x ∧ r = zI 1 ∧ C1 70 0 = mdO B th (S 0 0 : Int) (S 0 1 : Int) (S 0 2 : Int) (S 0 3 : Int) ((x.length : Nat) : Int) ∧ ∃ F Fs : Nat → Int, C1 71 0 = some (gJ Z 312 F) ∧ mac F x ∧ C1 72 0 = some (gJ Z 26 Fs) ∧ mtx F Fs T) ∨ (mg3 (T (1 + i)) (T 0) (prs S T i) = none ∧ r = zI 0)) ∧ md Z B C1 S T th ∧ fmd C0 C1)) 0 0 (gA Z) := by
  refine g_ofZ (cc := cX8_merges) (maxL := 14) (by decide) rfl (Nat.le_of_ble_eq_true rfl) (fun r C1 h => by rcases h.1 with ⟨x, -, h, -⟩ | ⟨-, h⟩ <;> rw [h] <;> rfl) ?_
  intro p e s m args below meth c Q X kret hW hS ls hl
  have hx := X.1.1
  have hb := X.1.2.1
  have hts := X.1.2.2.2.2
  have hl : lv_has ls 14 [(0, .ref (B 70 0)), (1, .int (zI (i : Int)))] := hl
  obtain ⟨⟨mg, hm70⟩, ⟨F71, F72, hm71, hm72, hmt⟩, ⟨F73, hm73, ha73⟩, ⟨F74, hm74, ha74⟩, ⟨F75, hm75, ha75⟩, ⟨F76, hm76, ha76⟩, ⟨F77, hm77, ha77⟩, ⟨F78, hm78, ha78⟩, ⟨F79, hm79, ha79⟩, ⟨F80, hm80, ha80⟩, ⟨F81, hm81, ha81⟩, ⟨F82, hm82, ha82⟩, ⟨F83, hm83, ha83⟩, ⟨F84, hm84, ha84⟩, ⟨F85, hm85, ha85⟩, ⟨F86, hm86, ha86⟩, ⟨F87, hm87⟩, ⟨F88, hm88⟩, ⟨F89, hm89⟩, ⟨F90, hm90⟩⟩ := id hmd
  have hwn := hwf.n
  have hwi := hwf.ch hi
  refine lv_iconst (v := zI (1)) hx hb dX8_merges_0 rfl ?_
  refine lv_iload_n hx hb dX8_merges_1 rfl (lv_at hl 1 rfl) ?_
  refine z_iadd hx hb dX8_merges_2 ?_
  refine lv_istore_n (lv' := [(2, .int (zI (1 + (i : Int)))), (0, .ref (B 70 0)), (1, .int (zI (i : Int)))]) hx hb dX8_merges_3 rfl hl (by decide) rfl (fun ls hl => ?_)
  rw [show (1 + (i : Int)) = ((1 + i : Nat) : Int) by omega] at hl
  refine lv_aload_n hx hb dX8_merges_4 rfl (lv_at hl 1 rfl) ?_
  refine lv_iload_n hx hb dX8_merges_5 rfl (lv_at hl 2 rfl) ?_
  refine g_ci (g_runV X (k_X8_present (i := i) hmd hwf hi (by omega)) (cwV 1 hts gX8_merges_X8_present rfl rfl rfl ⟨rfl, ds_X8_present⟩ ⟨Nat.le_of_ble_eq_true rfl, Nat.le_of_ble_eq_true rfl⟩) hW hS hm70 rfl rfl hl.1 rfl (Nat.le_of_ble_eq_true rfl) dX8_merges_6 ⟨Nat.le_of_ble_eq_true rfl, Nat.le_of_ble_eq_true rfl⟩) hS (fun r3 C1 H locs hp2 hW hS => ?_)
  obtain ⟨rfl, ehp2⟩ := hp2
  rw [ehp2] at hW
  refine lv_istore_n (lv' := [(3, .int (zI ((9 + 4 * i + (S 2 i - 1) : Nat) : Int))), (2, .int (zI ((1 + i : Nat) : Int))), (0, .ref (B 70 0)), (1, .int (zI (i : Int)))]) hx hb dX8_merges_9 rfl hl (by decide) rfl (fun ls hl => ?_)
  refine lv_iconst (v := zI (0)) hx hb dX8_merges_10 rfl ?_
  refine lv_istore (lv' := [(4, .int (zI 0)), (3, .int (zI ((9 + 4 * i + (S 2 i - 1) : Nat) : Int))), (2, .int (zI ((1 + i : Nat) : Int))), (0, .ref (B 70 0)), (1, .int (zI (i : Int)))]) hx hb dX8_merges_11 hl (by decide) rfl (fun ls hl => ?_)
  refine lv_iconst (v := zI (0)) hx hb dX8_merges_13 rfl ?_
  refine lv_istore (lv' := [(5, .int (zI 0)), (4, .int (zI 0)), (3, .int (zI ((9 + 4 * i + (S 2 i - 1) : Nat) : Int))), (2, .int (zI ((1 + i : Nat) : Int))), (0, .ref (B 70 0)), (1, .int (zI (i : Int)))]) hx hb dX8_merges_14 hl (by decide) rfl (fun ls hl => ?_)
  refine lv_iconst (v := zI (0)) hx hb dX8_merges_16 rfl ?_
  refine lv_istore (lv' := [(6, .int (zI 0)), (5, .int (zI 0)), (4, .int (zI 0)), (3, .int (zI ((9 + 4 * i + (S 2 i - 1) : Nat) : Int))), (2, .int (zI ((1 + i : Nat) : Int))), (0, .ref (B 70 0)), (1, .int (zI (i : Int)))]) hx hb dX8_merges_17 hl (by decide) rfl (fun ls hl => ?_)
  refine lv_aload_n hx hb dX8_merges_19 rfl (lv_at hl 5 rfl) ?_
  refine lv_iload_n hx hb dX8_merges_20 rfl (lv_at hl 4 rfl) ?_
  refine lv_iconst (v := zI (0)) hx hb dX8_merges_21 rfl ?_
  refine g_ci (g_runV X (k_X8_scripts (sa := (1 + i)) (sb := 0) (A := T (1 + i)) (D := T 0) hm70 hm71 hm72 hm87 hm88 hm89 (hmt.1 _ (by omega)) (hmt.1 _ (by omega)) (hmt.2 _ (by omega)) (hmt.2 _ (by omega)) (hwf.tx _) (hwf.tx _) (hwf.tc _) (hwf.tc _) (by omega) (by omega)) (cwV 2 hts gX8_merges_X8_scripts rfl rfl rfl ⟨rfl, ds_X8_scripts⟩ ⟨Nat.le_of_ble_eq_true rfl, Nat.le_of_ble_eq_true rfl⟩) hW hS hm70 rfl rfl hl.1 rfl (Nat.le_of_ble_eq_true rfl) dX8_merges_22 ⟨Nat.le_of_ble_eq_true rfl, Nat.le_of_ble_eq_true rfl⟩) hS (fun r6 C4 H locs hp5 hW hS => ?_)
  obtain ⟨e7, ⟨⟨K8, hk9, hkv10⟩, ⟨M11, hm12, hmv13⟩⟩, ⟨R14, hr15⟩, hf16⟩ := hp5
  rw [e7]
  have hK1 := hkv10
  refine lv_istore (lv' := [(7, .int (zI (ed (T (1 + i)) (T 0) : Int))), (6, .int (zI 0)), (5, .int (zI 0)), (4, .int (zI 0)), (3, .int (zI ((9 + 4 * i + (S 2 i - 1) : Nat) : Int))), (2, .int (zI ((1 + i : Nat) : Int))), (0, .ref (B 70 0)), (1, .int (zI (i : Int)))]) hx hb dX8_merges_25 hl (by decide) rfl (fun ls hl => ?_)
  refine lv_iconst (v := zI (0)) hx hb dX8_merges_27 rfl ?_
  refine lv_istore (lv' := [(8, .int (zI 0)), (7, .int (zI (ed (T (1 + i)) (T 0) : Int))), (6, .int (zI 0)), (5, .int (zI 0)), (4, .int (zI 0)), (3, .int (zI ((9 + 4 * i + (S 2 i - 1) : Nat) : Int))), (2, .int (zI ((1 + i : Nat) : Int))), (0, .ref (B 70 0)), (1, .int (zI (i : Int)))]) hx hb dX8_merges_28 hl (by decide) rfl (fun ls hl => ?_)
  have lp30 : ∀ (n : Nat) (k : Nat) (G : Nat → Int) (Cl : gC) (H : Heap) (locs : List Loc), (12 - k < n) → (k ≤ 12) → (∀ q, q < k → G q = enc (kt (T (1 + i)) (T 0) q)) → (Cl 88 0 = some (gJ Z 12 K8)) → (Cl 90 0 = some (gJ Z 12 G)) → (Cl 87 0 = some (gJ Z 169 R14)) → (Cl 89 0 = some (gJ Z 12 M11)) → (∀ k' i', ¬ (87 ≤ k' ∧ k' ≤ 90 ∧ i' = 0) → Cl k' i' = C0 k' i') → gw Z B Cl H → va_S (gA Z) s.heap H locs → ∀ ls : Array Slot, lv_has ls 14 [(0, .ref (B 70 0)), (1, .int (zI (i : Int))), (2, .int (zI ((1 + i : Nat) : Int))), (3, .int (zI ((9 + 4 * i + (S 2 i - 1) : Nat) : Int))), (4, .int (zI 0)), (5, .int (zI 0)), (6, .int (zI 0)), (7, .int (zI (ed (T (1 + i)) (T 0) : Int))), (8, .int (zI (k : Int)))] → W p l e rX8_merges s m args below meth c H locs 0 0 Q (F0 m 30 ls []) := by
    intro n
    induction n with
    | zero =>
      intro k G Cl H locs hm hk12 hG h88l h90l h87l h89l hfl hW hS ls hl
      exact absurd hm (by omega)
    | succ n ih30 =>
      intro k G Cl H locs hm hk12 hG h88l h90l h87l h89l hfl hW hS ls hl
      refine lv_iload hx hb dX8_merges_30 (lv_at hl 8 rfl) ?_
      refine lv_bipush (v := zI (12)) hx hb dX8_merges_32 (by decide) ?_
      refine z_icmp_ge (tgt := 57) hx hb dX8_merges_34 (by decide) (⟨by omega, by omega⟩) (⟨by omega, by omega⟩) (fun h_34 => ?_) (fun h_34 => ?_)
      · refine lv_iload hx hb dX8_merges_57 (lv_at hl 7 rfl) ?_
        refine lv_aload_n hx hb dX8_merges_59 rfl (lv_at hl 0 rfl) ?_
        refine lv_iload_n hx hb dX8_merges_60 rfl (lv_at hl 2 rfl) ?_
        refine lv_iload_n hx hb dX8_merges_61 rfl (lv_at hl 3 rfl) ?_
        refine g_ci (g_runV X (k_X8_scripts (sa := (1 + i)) (sb := (9 + 4 * i + (S 2 i - 1))) (A := T (1 + i)) (D := T (9 + 4 * i + (S 2 i - 1))) ((hfl 70 0 (by omega)).trans hm70) ((hfl 71 0 (by omega)).trans hm71) ((hfl 72 0 (by omega)).trans hm72) h87l h88l h89l (hmt.1 _ (by omega)) (hmt.1 _ (by omega)) (hmt.2 _ (by omega)) (hmt.2 _ (by omega)) (hwf.tx _) (hwf.tx _) (hwf.tc _) (hwf.tc _) (by omega) (by omega)) (cwV 2 hts gX8_merges_X8_scripts rfl rfl rfl ⟨rfl, ds_X8_scripts⟩ ⟨Nat.le_of_ble_eq_true rfl, Nat.le_of_ble_eq_true rfl⟩) hW hS ((hfl 70 0 (by omega)).trans hm70) rfl rfl hl.1 rfl (Nat.le_of_ble_eq_true rfl) dX8_merges_62 ⟨Nat.le_of_ble_eq_true rfl, Nat.le_of_ble_eq_true rfl⟩) hS (fun r19 C17 H locs hp18 hW hS => ?_)
        obtain ⟨e20, ⟨⟨K21, hk22, hkv23⟩, ⟨M24, hm25, hmv26⟩⟩, ⟨R27, hr28⟩, hf29⟩ := hp18
        rw [e20]
        have hK2 := hkv23
        refine z_iadd hx hb dX8_merges_65 ?_
        refine lv_istore (lv' := [(7, .int (zI ((ed (T (1 + i)) (T 0) : Int) + (ed (T (1 + i)) (T (9 + 4 * i + (S 2 i - 1))) : Int)))), (0, .ref (B 70 0)), (1, .int (zI (i : Int))), (2, .int (zI ((1 + i : Nat) : Int))), (3, .int (zI ((9 + 4 * i + (S 2 i - 1) : Nat) : Int))), (4, .int (zI 0)), (5, .int (zI 0)), (6, .int (zI 0)), (8, .int (zI (k : Int)))]) hx hb dX8_merges_66 hl (by decide) rfl (fun ls hl => ?_)
        refine lv_aload_n hx hb dX8_merges_68 rfl (lv_at hl 1 rfl) ?_
        refine lv_iconst (v := zI (0)) hx hb dX8_merges_69 rfl ?_
        have f30 : C17 70 0 = some (.inr (8, [.int (zI th), .int (zI (S 0 0 : Int)), .int (zI (S 0 1 : Int)), .int (zI (S 0 2 : Int)), .int (zI (S 0 3 : Int)), .ref (B 71 0), .ref (B 72 0), .ref (B 73 0), .ref (B 74 0), .ref (B 75 0), .ref (B 76 0), .ref (B 77 0), .ref (B 78 0), .ref (B 79 0), .ref (B 80 0), .ref (B 81 0), .ref (B 82 0), .ref (B 83 0), .ref (B 84 0), .ref (B 85 0), .ref (B 86 0), .ref (B 87 0), .ref (B 88 0), .ref (B 89 0), .ref (B 90 0), .int (zI mg)])) := ((hf29 70 0 (by omega)).trans ((hfl 70 0 (by omega)).trans hm70))
        refine g_put (ci := 8) (ty := .int) X in_X8_merges_8 tyX8 tyX8_ok nmX8 rfl hW hS f30 25 (by decide) (hts _ (List.mem_of_getElem? (i := 3) rfl)) rfl (by decide +kernel) (rfl) (rfl) (Nat.le_of_ble_eq_true rfl) dX8_merges_70 (fun C31 H locs hs32 hn33 hW hS => ?_)
        refine lv_iconst (v := zI (0)) hx hb dX8_merges_73 rfl ?_
        refine lv_istore (lv' := [(8, .int (zI 0)), (7, .int (zI ((ed (T (1 + i)) (T 0) : Int) + (ed (T (1 + i)) (T (9 + 4 * i + (S 2 i - 1))) : Int)))), (0, .ref (B 70 0)), (1, .int (zI (i : Int))), (2, .int (zI ((1 + i : Nat) : Int))), (3, .int (zI ((9 + 4 * i + (S 2 i - 1) : Nat) : Int))), (4, .int (zI 0)), (5, .int (zI 0)), (6, .int (zI 0))]) hx hb dX8_merges_74 hl (by decide) rfl (fun ls hl => ?_)
        have lp76 : ∀ (n : Nat) (k f im ir : Nat) (acc : List Int) (F : Nat → Int) (Cl : gC) (H : Heap) (locs : List Loc), ((T (1 + i)).length + 1 - k < n) → (mgw (T (1 + i)) (T 0) (T (9 + 4 * i + (S 2 i - 1))) k f im ir acc) → (f ≤ k ∧ (k ≤ (T (1 + i)).length → im ≤ (T 0).length ∧ ir ≤ (T (9 + 4 * i + (S 2 i - 1))).length) ∧ acc.length ≤ 40 * k) → (∀ k1 p1, k ≤ k1 → kt (T (1 + i)) (T 0) k1 = some p1 → im ≤ p1) → (∀ k1 p1, k ≤ k1 → kt (T (1 + i)) (T (9 + 4 * i + (S 2 i - 1))) k1 = some p1 → ir ≤ p1) → (mac F acc) → (∀ y, y < 300 → F y = F71 y) → (Cl 71 0 = some (gJ Z 312 F)) → (Cl 70 0 = mdO B th (S 0 0 : Int) (S 0 1 : Int) (S 0 2 : Int) (S 0 3 : Int) ((acc.length : Nat) : Int)) → (Cl 88 0 = some (gJ Z 12 K21)) → (Cl 90 0 = some (gJ Z 12 G)) → (scr Z Cl 87 169) → (scr Z Cl 89 12) → (∀ k' i', ¬ ((k' = 70 ∨ k' = 71 ∨ (87 ≤ k' ∧ k' ≤ 90)) ∧ i' = 0) → Cl k' i' = C0 k' i') → gw Z B Cl H → va_S (gA Z) s.heap H locs → ∀ ls : Array Slot, lv_has ls 14 [(0, .ref (B 70 0)), (1, .int (zI (i : Int))), (2, .int (zI ((1 + i : Nat) : Int))), (3, .int (zI ((9 + 4 * i + (S 2 i - 1) : Nat) : Int))), (4, .int (zI (f : Int))), (5, .int (zI (im : Int))), (6, .int (zI (ir : Int))), (7, .int (zI ((ed (T (1 + i)) (T 0) : Int) + (ed (T (1 + i)) (T (9 + 4 * i + (S 2 i - 1))) : Int)))), (8, .int (zI (k : Int)))] → W p l e rX8_merges s m args below meth c H locs 0 0 Q (F0 m 76 ls []) := by
          intro n
          induction n with
          | zero =>
            intro k f im ir acc F Cl H locs hm hw hfk hI1 hI2 hmac hFo h71l h70l h88l h90l hs7 hs9 hfl hW hS ls hl
            exact absurd hm (by omega)
          | succ n ih76 =>
            intro k f im ir acc F Cl H locs hm hw hfk hI1 hI2 hmac hFo h71l h70l h88l h90l hs7 hs9 hfl hW hS ls hl
            have hmtl := mtx.low hwf hmt hFo
            have hlA := hwf.tx (1 + i)
            have hlM := hwf.tx 0
            have hlR := hwf.tx (9 + 4 * i + (S 2 i - 1))
            have hkle := mgw_le hw
            have hed1 := ed_le (T (1 + i)) (T 0)
            have hed2 := ed_le (T (1 + i)) (T (9 + 4 * i + (S 2 i - 1)))
            refine lv_iload hx hb dX8_merges_76 (lv_at hl 8 rfl) ?_
            refine lv_aload_n hx hb dX8_merges_78 rfl (lv_at hl 0 rfl) ?_
            refine g_get (ci := 8) X in_X8_merges_8 rfl hW h70l 6 (by decide) (hts _ (List.mem_of_getElem? (i := 4) rfl)) rfl dX8_merges_79 ?_
            refine lv_iload_n hx hb dX8_merges_82 rfl (lv_at hl 2 rfl) ?_
            refine z_iald X hW ((hfl 72 0 (by omega)).trans hm72) (by omega) (by omega) (by omega) dX8_merges_83 ?_
            rw [show F72 ((((1 + i) : Nat) : Int)).toNat = ((T (1 + i)).length : Int) from hmt.1 _ (by omega)]
            refine z_icmp_gt (tgt := 314) hx hb dX8_merges_84 (by decide) (⟨by omega, by omega⟩) (⟨by omega, by omega⟩) (fun h_84 => ?_) (fun h_84 => ?_)
            · refine lv_iload hx hb dX8_merges_314 (lv_at hl 7 rfl) ?_
              refine z_if_lt (tgt := 323) hx hb dX8_merges_316 (by decide) (⟨by omega, by omega⟩) (fun h_316 => absurd h_316 (by omega)) (fun h_316 => ?_)
              refine lv_iconst (v := zI (1)) hx hb dX8_merges_319 rfl ?_
              refine lv_goto (tgt := 324) hx hb dX8_merges_320 (by decide) ?_
              exact kret _ _ _ _ _ _ _ _ (⟨Or.inl ⟨acc, mgw_end hw (by omega), rfl, h70l, F, F72, h71l, hmac, ((hfl 72 0 (by omega)).trans hm72), hmtl⟩, md.text hmd h70l h71l ((hfl 72 0 (by omega)).trans hm72) hmtl hs7 ⟨_, h88l⟩ hs9 ⟨_, h90l⟩ (fun k' z1 z2 => hfl k' 0 (by omega)), fun k' i' h => hfl k' i' (by omega)⟩) hW hS (Nat.le_of_ble_eq_true rfl) (Nat.le_of_ble_eq_true rfl) dX8_merges_324
            · refine lv_iload hx hb dX8_merges_87 (lv_at hl 8 rfl) ?_
              refine lv_aload_n hx hb dX8_merges_89 rfl (lv_at hl 0 rfl) ?_
              refine g_get (ci := 8) X in_X8_merges_8 rfl hW h70l 6 (by decide) (hts _ (List.mem_of_getElem? (i := 4) rfl)) rfl dX8_merges_90 ?_
              refine lv_iload_n hx hb dX8_merges_93 rfl (lv_at hl 2 rfl) ?_
              refine z_iald X hW ((hfl 72 0 (by omega)).trans hm72) (by omega) (by omega) (by omega) dX8_merges_94 ?_
              rw [show F72 ((((1 + i) : Nat) : Int)).toNat = ((T (1 + i)).length : Int) from hmt.1 _ (by omega)]
              refine z_icmp_ne (tgt := 102) hx hb dX8_merges_95 (by decide) (⟨by omega, by omega⟩) (⟨by omega, by omega⟩) (fun h_95 => ?_) (fun h_95 => ?_)
              · refine lv_iconst (v := zI (0)) hx hb dX8_merges_102 rfl ?_
                refine lv_istore (lv' := [(9, .int (zI 0)), (0, .ref (B 70 0)), (1, .int (zI (i : Int))), (2, .int (zI ((1 + i : Nat) : Int))), (3, .int (zI ((9 + 4 * i + (S 2 i - 1) : Nat) : Int))), (4, .int (zI (f : Int))), (5, .int (zI (im : Int))), (6, .int (zI (ir : Int))), (7, .int (zI ((ed (T (1 + i)) (T 0) : Int) + (ed (T (1 + i)) (T (9 + 4 * i + (S 2 i - 1))) : Int)))), (8, .int (zI (k : Int)))]) hx hb dX8_merges_103 hl (by decide) rfl (fun ls hl => ?_)
                refine lv_iload hx hb dX8_merges_105 (lv_at hl 0 rfl) ?_
                refine z_if_ne (tgt := 133) hx hb dX8_merges_107 (by decide) (⟨by omega, by omega⟩) (fun h_107 => absurd h_107 (by omega)) (fun h_107 => ?_)
                refine lv_aload_n hx hb dX8_merges_110 rfl (lv_at hl 1 rfl) ?_
                refine g_get (ci := 8) X in_X8_merges_8 rfl hW h70l 24 (by decide) (hts _ (List.mem_of_getElem? (i := 1) rfl)) rfl dX8_merges_111 ?_
                refine lv_iload hx hb dX8_merges_114 (lv_at hl 9 rfl) ?_
                refine z_iald X hW h90l (by omega) (by omega) (by omega) dX8_merges_116 ?_
                rw [show G (k : Int).toNat = enc (kt (T (1 + i)) (T 0) k) from by rw [show ((k : Int)).toNat = k by omega]; exact hG k (by omega)]
                refine z_if_lt (tgt := 308) hx hb dX8_merges_117 (by decide) (enc_ktr _ _ _ (hwf.tx _)) (fun h_117 => ?_) (fun h_117 => ?_)
                · refine z_iinc (lv' := [(8, .int (zI ((k : Int) + 1))), (9, .int (zI 0)), (0, .ref (B 70 0)), (1, .int (zI (i : Int))), (2, .int (zI ((1 + i : Nat) : Int))), (3, .int (zI ((9 + 4 * i + (S 2 i - 1) : Nat) : Int))), (4, .int (zI (f : Int))), (5, .int (zI (im : Int))), (6, .int (zI (ir : Int))), (7, .int (zI ((ed (T (1 + i)) (T 0) : Int) + (ed (T (1 + i)) (T (9 + 4 * i + (S 2 i - 1))) : Int))))]) hx hb dX8_merges_308 hl (q := 9) rfl (by decide) rfl (fun ls hl => ?_)
                  refine lv_goto (tgt := 76) hx hb dX8_merges_311 (by decide) ?_
                  exact ih76 (k + 1) f im ir acc F _ _ _ (by omega) (mgw_skip hw (by omega) (Or.inl (enc_neg h_117))) ⟨by omega, fun _ => hfk.2.1 (by omega), by omega⟩ (fun k1 p1 z1 z2 => hI1 k1 p1 (by omega) z2) (fun k1 p1 z1 z2 => hI2 k1 p1 (by omega) z2) hmac hFo  h71l h70l h88l h90l (hs7.kept (rfl)) (hs9.kept (rfl)) (fun k' i' h => (hfl k' i' h)) hW hS _ (lv_sub hl [2, 3, 4, 5, 6, 7, 8, 9, 0] rfl)
                · refine lv_aload_n hx hb dX8_merges_120 rfl (lv_at hl 1 rfl) ?_
                  refine g_get (ci := 8) X in_X8_merges_8 rfl hW h70l 22 (by decide) (hts _ (List.mem_of_getElem? (i := 2) rfl)) rfl dX8_merges_121 ?_
                  refine lv_iload hx hb dX8_merges_124 (lv_at hl 9 rfl) ?_
                  refine z_iald X hW h88l (by omega) (by omega) (by omega) dX8_merges_126 ?_
                  rw [show K21 (k : Int).toNat = enc (kt (T (1 + i)) (T (9 + 4 * i + (S 2 i - 1))) k) from by rw [show ((k : Int)).toNat = k by omega]; exact hK2 k (by omega)]
                  refine z_if_ge (tgt := 133) hx hb dX8_merges_127 (by decide) (enc_ktr _ _ _ (hwf.tx _)) (fun h_127 => ?_) (fun h_127 => ?_)
                  · obtain ⟨p, hp⟩ := enc_s (show ¬ enc (kt (T (1 + i)) (T 0) k) = -1 by omega)
                    obtain ⟨q, hq⟩ := enc_s (show ¬ enc (kt (T (1 + i)) (T (9 + 4 * i + (S 2 i - 1))) k) = -1 by omega)
                    have hpl := kt_lt _ _ _ _ hp
                    have hql := kt_lt _ _ _ _ hq
                    have hpi := hI1 k p (Nat.le_refl _) hp
                    have hqi := hI2 k q (Nat.le_refl _) hq
                    refine lv_iload hx hb dX8_merges_133 (lv_at hl 0 rfl) ?_
                    refine z_if_eq (tgt := 147) hx hb dX8_merges_135 (by decide) (⟨by omega, by omega⟩) (fun h_135 => ?_) (fun h_135 => absurd h_135 (by omega))
                    refine lv_aload_n hx hb dX8_merges_147 rfl (lv_at hl 1 rfl) ?_
                    refine g_get (ci := 8) X in_X8_merges_8 rfl hW h70l 24 (by decide) (hts _ (List.mem_of_getElem? (i := 1) rfl)) rfl dX8_merges_148 ?_
                    refine lv_iload hx hb dX8_merges_151 (lv_at hl 9 rfl) ?_
                    refine z_iald X hW h90l (by omega) (by omega) (by omega) dX8_merges_153 ?_
                    rw [show G (k : Int).toNat = enc (kt (T (1 + i)) (T 0) k) from by rw [show ((k : Int)).toNat = k by omega]; exact hG k (by omega)]
                    rw [hp]
                    refine lv_istore (lv' := [(10, .int (zI (p : Int))), (9, .int (zI 0)), (0, .ref (B 70 0)), (1, .int (zI (i : Int))), (2, .int (zI ((1 + i : Nat) : Int))), (3, .int (zI ((9 + 4 * i + (S 2 i - 1) : Nat) : Int))), (4, .int (zI (f : Int))), (5, .int (zI (im : Int))), (6, .int (zI (ir : Int))), (7, .int (zI ((ed (T (1 + i)) (T 0) : Int) + (ed (T (1 + i)) (T (9 + 4 * i + (S 2 i - 1))) : Int)))), (8, .int (zI (k : Int)))]) hx hb dX8_merges_154 hl (by decide) rfl (fun ls hl => ?_)
                    refine lv_iload hx hb dX8_merges_156 (lv_at hl 1 rfl) ?_
                    refine z_if_eq (tgt := 170) hx hb dX8_merges_158 (by decide) (⟨by omega, by omega⟩) (fun h_158 => ?_) (fun h_158 => absurd h_158 (by omega))
                    refine lv_aload_n hx hb dX8_merges_170 rfl (lv_at hl 2 rfl) ?_
                    refine g_get (ci := 8) X in_X8_merges_8 rfl hW h70l 22 (by decide) (hts _ (List.mem_of_getElem? (i := 2) rfl)) rfl dX8_merges_171 ?_
                    refine lv_iload hx hb dX8_merges_174 (lv_at hl 10 rfl) ?_
                    refine z_iald X hW h88l (by omega) (by omega) (by omega) dX8_merges_176 ?_
                    rw [show K21 (k : Int).toNat = enc (kt (T (1 + i)) (T (9 + 4 * i + (S 2 i - 1))) k) from by rw [show ((k : Int)).toNat = k by omega]; exact hK2 k (by omega)]
                    rw [hq]
                    refine lv_istore (lv' := [(11, .int (zI (q : Int))), (10, .int (zI (p : Int))), (9, .int (zI 0)), (0, .ref (B 70 0)), (1, .int (zI (i : Int))), (2, .int (zI ((1 + i : Nat) : Int))), (3, .int (zI ((9 + 4 * i + (S 2 i - 1) : Nat) : Int))), (4, .int (zI (f : Int))), (5, .int (zI (im : Int))), (6, .int (zI (ir : Int))), (7, .int (zI ((ed (T (1 + i)) (T 0) : Int) + (ed (T (1 + i)) (T (9 + 4 * i + (S 2 i - 1))) : Int)))), (8, .int (zI (k : Int)))]) hx hb dX8_merges_177 hl (by decide) rfl (fun ls hl => ?_)
                    refine lv_aload_n hx hb dX8_merges_179 rfl (lv_at hl 3 rfl) ?_
                    refine lv_iconst (v := zI (0)) hx hb dX8_merges_180 rfl ?_
                    refine lv_iload hx hb dX8_merges_181 (lv_at hl 8 rfl) ?_
                    refine lv_iload hx hb dX8_merges_183 (lv_at hl 1 rfl) ?_
                    refine lv_iload_n hx hb dX8_merges_185 rfl (lv_at hl 5 rfl) ?_
                    refine lv_iload hx hb dX8_merges_186 (lv_at hl 7 rfl) ?_
                    refine lv_iload hx hb dX8_merges_188 (lv_at hl 11 rfl) ?_
                    refine g_ci (g_runV X (k_X8_isSame (FS := fun _ => 0) (sa := 0) (sb := (1 + i)) (be := im) (en := p) (fi := f) (la := k) (t := T 0) (v := T (1 + i)) h70l h71l (hmtl.2 _ (by omega)) (hmtl.2 _ (by omega)) (hwf.tx _) (hwf.tx _) (hwf.tc _) (hwf.tc _) (by omega) (by omega) (by omega) (by omega) (by omega) (by omega)) (cwV 6 hts gX8_merges_X8_isSame rfl rfl rfl ⟨rfl, ds_X8_isSame⟩ ⟨Nat.le_of_ble_eq_true rfl, Nat.le_of_ble_eq_true rfl⟩) hW hS h70l rfl rfl hl.1 rfl (Nat.le_of_ble_eq_true rfl) dX8_merges_190 ⟨Nat.le_of_ble_eq_true rfl, Nat.le_of_ble_eq_true rfl⟩) hS (fun r36 C34 H locs hp35 hW hS => ?_)
                    obtain ⟨rfl, ehp35⟩ := hp35
                    rw [ehp35] at hW
                    refine lv_istore (lv' := [(12, .int (zI (if seg (T 0) im p = seg (T (1 + i)) f k then 1 else 0))), (11, .int (zI (q : Int))), (10, .int (zI (p : Int))), (9, .int (zI 0)), (0, .ref (B 70 0)), (1, .int (zI (i : Int))), (2, .int (zI ((1 + i : Nat) : Int))), (3, .int (zI ((9 + 4 * i + (S 2 i - 1) : Nat) : Int))), (4, .int (zI (f : Int))), (5, .int (zI (im : Int))), (6, .int (zI (ir : Int))), (7, .int (zI ((ed (T (1 + i)) (T 0) : Int) + (ed (T (1 + i)) (T (9 + 4 * i + (S 2 i - 1))) : Int)))), (8, .int (zI (k : Int)))]) hx hb dX8_merges_193 hl (by decide) rfl (fun ls hl => ?_)
                    refine lv_aload_n hx hb dX8_merges_195 rfl (lv_at hl 4 rfl) ?_
                    refine lv_iload_n hx hb dX8_merges_196 rfl (lv_at hl 7 rfl) ?_
                    refine lv_iload hx hb dX8_merges_197 (lv_at hl 10 rfl) ?_
                    refine lv_iload hx hb dX8_merges_199 (lv_at hl 1 rfl) ?_
                    refine lv_iload_n hx hb dX8_merges_201 rfl (lv_at hl 6 rfl) ?_
                    refine lv_iload hx hb dX8_merges_202 (lv_at hl 8 rfl) ?_
                    refine lv_iload hx hb dX8_merges_204 (lv_at hl 12 rfl) ?_
                    refine g_ci (g_runV X (k_X8_isSame (FS := fun _ => 0) (sa := (9 + 4 * i + (S 2 i - 1))) (sb := (1 + i)) (be := ir) (en := q) (fi := f) (la := k) (t := T (9 + 4 * i + (S 2 i - 1))) (v := T (1 + i)) h70l h71l (hmtl.2 _ (by omega)) (hmtl.2 _ (by omega)) (hwf.tx _) (hwf.tx _) (hwf.tc _) (hwf.tc _) (by omega) (by omega) (by omega) (by omega) (by omega) (by omega)) (cwV 6 hts gX8_merges_X8_isSame rfl rfl rfl ⟨rfl, ds_X8_isSame⟩ ⟨Nat.le_of_ble_eq_true rfl, Nat.le_of_ble_eq_true rfl⟩) hW hS h70l rfl rfl hl.1 rfl (Nat.le_of_ble_eq_true rfl) dX8_merges_206 ⟨Nat.le_of_ble_eq_true rfl, Nat.le_of_ble_eq_true rfl⟩) hS (fun r39 C37 H locs hp38 hW hS => ?_)
                    obtain ⟨rfl, ehp38⟩ := hp38
                    rw [ehp38] at hW
                    refine z_ifb_ne (tgt := 229) hx hb dX8_merges_209 (by decide) (fun h_209 => ?_) (fun h_209 => ?_)
                    · refine lv_iconst (v := zI (1)) hx hb dX8_merges_229 rfl ?_
                      refine lv_goto (tgt := 234) hx hb dX8_merges_230 (by decide) ?_
                      refine lv_istore (lv' := [(13, .int (zI 1)), (12, .int (zI (if seg (T 0) im p = seg (T (1 + i)) f k then 1 else 0))), (11, .int (zI (q : Int))), (10, .int (zI (p : Int))), (9, .int (zI 0)), (0, .ref (B 70 0)), (1, .int (zI (i : Int))), (2, .int (zI ((1 + i : Nat) : Int))), (3, .int (zI ((9 + 4 * i + (S 2 i - 1) : Nat) : Int))), (4, .int (zI (f : Int))), (5, .int (zI (im : Int))), (6, .int (zI (ir : Int))), (7, .int (zI ((ed (T (1 + i)) (T 0) : Int) + (ed (T (1 + i)) (T (9 + 4 * i + (S 2 i - 1))) : Int)))), (8, .int (zI (k : Int)))]) hx hb dX8_merges_234 hl (by decide) rfl (fun ls hl => ?_)
                      refine lv_iload hx hb dX8_merges_236 (lv_at hl 1 rfl) ?_
                      refine z_ifb_ne (tgt := 248) hx hb dX8_merges_238 (by decide) (fun h_238 => ?_) (fun h_238 => ?_)
                      · refine lv_iload hx hb dX8_merges_248 (lv_at hl 1 rfl) ?_
                        refine z_ifb_eq (tgt := 265) hx hb dX8_merges_250 (by decide) (fun h_250 => absurd h_250 (not_not_intro h_238)) (fun h_250 => ?_)
                        refine lv_aload_n hx hb dX8_merges_253 rfl (lv_at hl 5 rfl) ?_
                        refine lv_iload_n hx hb dX8_merges_254 rfl (lv_at hl 8 rfl) ?_
                        refine lv_iload hx hb dX8_merges_255 (lv_at hl 11 rfl) ?_
                        refine lv_iload hx hb dX8_merges_257 (lv_at hl 2 rfl) ?_
                        refine g_cv (g_runV X (k_X8_adds (sa := (9 + 4 * i + (S 2 i - 1))) (be := ir) (en := q) (t := T (9 + 4 * i + (S 2 i - 1))) (acc := acc) h70l h71l hmac ((mtx.low hwf hmt hFo).2 _ (by omega)) (hwf.tx _) (by omega) (by omega) (by omega) (by omega)) (cwV 3 hts gX8_merges_X8_adds rfl rfl rfl ⟨rfl, ds_X8_adds⟩ ⟨Nat.le_of_ble_eq_true rfl, Nat.le_of_ble_eq_true rfl⟩) hW hS h70l rfl rfl hl.1 rfl (Nat.le_of_ble_eq_true rfl) dX8_merges_259 ⟨Nat.le_of_ble_eq_true rfl, Nat.le_of_ble_eq_true rfl⟩) hS (fun C40 H locs hp41 hW hS => ?_)
                        obtain ⟨⟨F42, h43, hm44, ho45⟩, h46, hf47⟩ := hp41
                        refine lv_goto (tgt := 274) hx hb dX8_merges_262 (by decide) ?_
                        refine lv_iload hx hb dX8_merges_274 (lv_at hl 4 rfl) ?_
                        refine z_if_ne (tgt := 290) hx hb dX8_merges_276 (by decide) (⟨by omega, by omega⟩) (fun h_276 => absurd h_276 (by omega)) (fun h_276 => ?_)
                        refine lv_aload_n hx hb dX8_merges_279 rfl (lv_at hl 5 rfl) ?_
                        refine lv_iload_n hx hb dX8_merges_280 rfl (lv_at hl 7 rfl) ?_
                        refine lv_iload hx hb dX8_merges_281 (lv_at hl 13 rfl) ?_
                        refine lv_iload hx hb dX8_merges_283 (lv_at hl 13 rfl) ?_
                        refine lv_iconst (v := zI (1)) hx hb dX8_merges_285 rfl ?_
                        refine z_iadd hx hb dX8_merges_286 ?_
                        rw [show zI ((k : Int) + 1) = zI (((k + 1 : Nat) : Nat) : Int) from congrArg zI (by omega)]
                        refine g_cv (g_runV X (k_X8_adds (sa := (1 + i)) (be := k) (en := (k + 1)) (t := T (1 + i)) (acc := (acc ++ seg (T (9 + 4 * i + (S 2 i - 1))) ir q)) h46 h43 hm44 ((mtx.low hwf hmt (fun y9 hy9 => (ho45 y9 hy9).trans (hFo y9 hy9))).2 _ (by omega)) (hwf.tx _) (by simp only [List.length_append]; rw [seg_len (by omega)]; omega) (by omega) (by omega) (by omega)) (cwV 3 hts gX8_merges_X8_adds rfl rfl rfl ⟨rfl, ds_X8_adds⟩ ⟨Nat.le_of_ble_eq_true rfl, Nat.le_of_ble_eq_true rfl⟩) hW hS h46 rfl rfl hl.1 rfl (Nat.le_of_ble_eq_true rfl) dX8_merges_287 ⟨Nat.le_of_ble_eq_true rfl, Nat.le_of_ble_eq_true rfl⟩) hS (fun C48 H locs hp49 hW hS => ?_)
                        obtain ⟨⟨F50, h51, hm52, ho53⟩, h54, hf55⟩ := hp49
                        refine lv_iload hx hb dX8_merges_290 (lv_at hl 13 rfl) ?_
                        refine lv_iconst (v := zI (1)) hx hb dX8_merges_292 rfl ?_
                        refine z_iadd hx hb dX8_merges_293 ?_
                        refine lv_istore (lv' := [(4, .int (zI ((k : Int) + 1))), (13, .int (zI 1)), (12, .int (zI (if seg (T 0) im p = seg (T (1 + i)) f k then 1 else 0))), (11, .int (zI (q : Int))), (10, .int (zI (p : Int))), (9, .int (zI 0)), (0, .ref (B 70 0)), (1, .int (zI (i : Int))), (2, .int (zI ((1 + i : Nat) : Int))), (3, .int (zI ((9 + 4 * i + (S 2 i - 1) : Nat) : Int))), (5, .int (zI (im : Int))), (6, .int (zI (ir : Int))), (7, .int (zI ((ed (T (1 + i)) (T 0) : Int) + (ed (T (1 + i)) (T (9 + 4 * i + (S 2 i - 1))) : Int)))), (8, .int (zI (k : Int)))]) hx hb dX8_merges_294 hl (by decide) rfl (fun ls hl => ?_)
                        refine lv_iload hx hb dX8_merges_296 (lv_at hl 4 rfl) ?_
                        refine lv_iconst (v := zI (1)) hx hb dX8_merges_298 rfl ?_
                        refine z_iadd hx hb dX8_merges_299 ?_
                        refine lv_istore (lv' := [(5, .int (zI ((p : Int) + 1))), (4, .int (zI ((k : Int) + 1))), (13, .int (zI 1)), (12, .int (zI (if seg (T 0) im p = seg (T (1 + i)) f k then 1 else 0))), (11, .int (zI (q : Int))), (10, .int (zI (p : Int))), (9, .int (zI 0)), (0, .ref (B 70 0)), (1, .int (zI (i : Int))), (2, .int (zI ((1 + i : Nat) : Int))), (3, .int (zI ((9 + 4 * i + (S 2 i - 1) : Nat) : Int))), (6, .int (zI (ir : Int))), (7, .int (zI ((ed (T (1 + i)) (T 0) : Int) + (ed (T (1 + i)) (T (9 + 4 * i + (S 2 i - 1))) : Int)))), (8, .int (zI (k : Int)))]) hx hb dX8_merges_300 hl (by decide) rfl (fun ls hl => ?_)
                        refine lv_iload hx hb dX8_merges_302 (lv_at hl 4 rfl) ?_
                        refine lv_iconst (v := zI (1)) hx hb dX8_merges_304 rfl ?_
                        refine z_iadd hx hb dX8_merges_305 ?_
                        refine lv_istore (lv' := [(6, .int (zI ((q : Int) + 1))), (5, .int (zI ((p : Int) + 1))), (4, .int (zI ((k : Int) + 1))), (13, .int (zI 1)), (12, .int (zI (if seg (T 0) im p = seg (T (1 + i)) f k then 1 else 0))), (11, .int (zI (q : Int))), (10, .int (zI (p : Int))), (9, .int (zI 0)), (0, .ref (B 70 0)), (1, .int (zI (i : Int))), (2, .int (zI ((1 + i : Nat) : Int))), (3, .int (zI ((9 + 4 * i + (S 2 i - 1) : Nat) : Int))), (7, .int (zI ((ed (T (1 + i)) (T 0) : Int) + (ed (T (1 + i)) (T (9 + 4 * i + (S 2 i - 1))) : Int)))), (8, .int (zI (k : Int)))]) hx hb dX8_merges_306 hl (by decide) rfl (fun ls hl => ?_)
                        refine z_iinc (lv' := [(8, .int (zI ((k : Int) + 1))), (6, .int (zI ((q : Int) + 1))), (5, .int (zI ((p : Int) + 1))), (4, .int (zI ((k : Int) + 1))), (13, .int (zI 1)), (12, .int (zI (if seg (T 0) im p = seg (T (1 + i)) f k then 1 else 0))), (11, .int (zI (q : Int))), (10, .int (zI (p : Int))), (9, .int (zI 0)), (0, .ref (B 70 0)), (1, .int (zI (i : Int))), (2, .int (zI ((1 + i : Nat) : Int))), (3, .int (zI ((9 + 4 * i + (S 2 i - 1) : Nat) : Int))), (7, .int (zI ((ed (T (1 + i)) (T 0) : Int) + (ed (T (1 + i)) (T (9 + 4 * i + (S 2 i - 1))) : Int))))]) hx hb dX8_merges_308 hl (q := 13) rfl (by decide) rfl (fun ls hl => ?_)
                        refine lv_goto (tgt := 76) hx hb dX8_merges_311 (by decide) ?_
                        have f56 : C48 88 0 = some (gJ Z 12 K21) := ((hf55 88 0 (by omega)).trans ((hf47 88 0 (by omega)).trans h88l))
                        have f57 : C48 90 0 = some (gJ Z 12 G) := ((hf55 90 0 (by omega)).trans ((hf47 90 0 (by omega)).trans h90l))
                        exact ih76 (k + 1) (k + 1) (p + 1) (q + 1) ((acc ++ seg (T (9 + 4 * i + (S 2 i - 1))) ir q) ++ seg (T (1 + i)) k (k + 1)) _ _ _ _ (by omega) (mgw_step hw (by omega) hp hq (mrow_1 h_238)) ⟨by omega, fun _ => ⟨by omega, by omega⟩, (by simp only [List.length_append]; rw [seg_len (by omega), seg_len (by omega)]; omega)⟩ (fun k1 p1 z1 z2 => kt_mono _ _ k k1 p p1 hp z2 (by omega)) (fun k1 p1 z1 z2 => kt_mono _ _ k k1 q p1 hq z2 (by omega)) hm52 (fun y9 hy9 => (ho53 y9 hy9).trans ((fun y9 hy9 => (ho45 y9 hy9).trans (hFo y9 hy9)) y9 hy9))  h51 h54 f56 f57 (hs7.kept (((hf55 87 0 (by omega)).trans ((hf47 87 0 (by omega)).trans rfl)))) (hs9.kept (((hf55 89 0 (by omega)).trans ((hf47 89 0 (by omega)).trans rfl)))) (fun k' i' h => ((hf55 k' i' (by omega)).trans ((hf47 k' i' (by omega)).trans (hfl k' i' h)))) hW hS _ (lv_sub hl [9, 10, 11, 12, 3, 2, 1, 13, 0] rfl)
                      · refine lv_iload hx hb dX8_merges_241 (lv_at hl 0 rfl) ?_
                        refine z_if_ne (tgt := 248) hx hb dX8_merges_243 (by decide) (⟨by omega, by omega⟩) (fun h_243 => ?_) (fun h_243 => absurd h_243 (by omega))
                        refine lv_iload hx hb dX8_merges_248 (lv_at hl 1 rfl) ?_
                        refine z_ifb_eq (tgt := 265) hx hb dX8_merges_250 (by decide) (fun h_250 => ?_) (fun h_250 => absurd h_250 (h_238))
                        refine lv_aload_n hx hb dX8_merges_265 rfl (lv_at hl 5 rfl) ?_
                        refine lv_iconst (v := zI (0)) hx hb dX8_merges_266 rfl ?_
                        refine lv_iload hx hb dX8_merges_267 (lv_at hl 10 rfl) ?_
                        refine lv_iload hx hb dX8_merges_269 (lv_at hl 3 rfl) ?_
                        refine g_cv (g_runV X (k_X8_adds (sa := 0) (be := im) (en := p) (t := T 0) (acc := acc) h70l h71l hmac ((mtx.low hwf hmt hFo).2 _ (by omega)) (hwf.tx _) (by omega) (by omega) (by omega) (by omega)) (cwV 3 hts gX8_merges_X8_adds rfl rfl rfl ⟨rfl, ds_X8_adds⟩ ⟨Nat.le_of_ble_eq_true rfl, Nat.le_of_ble_eq_true rfl⟩) hW hS h70l rfl rfl hl.1 rfl (Nat.le_of_ble_eq_true rfl) dX8_merges_271 ⟨Nat.le_of_ble_eq_true rfl, Nat.le_of_ble_eq_true rfl⟩) hS (fun C58 H locs hp59 hW hS => ?_)
                        obtain ⟨⟨F60, h61, hm62, ho63⟩, h64, hf65⟩ := hp59
                        refine lv_iload hx hb dX8_merges_274 (lv_at hl 4 rfl) ?_
                        refine z_if_ne (tgt := 290) hx hb dX8_merges_276 (by decide) (⟨by omega, by omega⟩) (fun h_276 => absurd h_276 (by omega)) (fun h_276 => ?_)
                        refine lv_aload_n hx hb dX8_merges_279 rfl (lv_at hl 5 rfl) ?_
                        refine lv_iload_n hx hb dX8_merges_280 rfl (lv_at hl 7 rfl) ?_
                        refine lv_iload hx hb dX8_merges_281 (lv_at hl 13 rfl) ?_
                        refine lv_iload hx hb dX8_merges_283 (lv_at hl 13 rfl) ?_
                        refine lv_iconst (v := zI (1)) hx hb dX8_merges_285 rfl ?_
                        refine z_iadd hx hb dX8_merges_286 ?_
                        rw [show zI ((k : Int) + 1) = zI (((k + 1 : Nat) : Nat) : Int) from congrArg zI (by omega)]
                        refine g_cv (g_runV X (k_X8_adds (sa := (1 + i)) (be := k) (en := (k + 1)) (t := T (1 + i)) (acc := (acc ++ seg (T 0) im p)) h64 h61 hm62 ((mtx.low hwf hmt (fun y9 hy9 => (ho63 y9 hy9).trans (hFo y9 hy9))).2 _ (by omega)) (hwf.tx _) (by simp only [List.length_append]; rw [seg_len (by omega)]; omega) (by omega) (by omega) (by omega)) (cwV 3 hts gX8_merges_X8_adds rfl rfl rfl ⟨rfl, ds_X8_adds⟩ ⟨Nat.le_of_ble_eq_true rfl, Nat.le_of_ble_eq_true rfl⟩) hW hS h64 rfl rfl hl.1 rfl (Nat.le_of_ble_eq_true rfl) dX8_merges_287 ⟨Nat.le_of_ble_eq_true rfl, Nat.le_of_ble_eq_true rfl⟩) hS (fun C66 H locs hp67 hW hS => ?_)
                        obtain ⟨⟨F68, h69, hm70, ho71⟩, h72, hf73⟩ := hp67
                        refine lv_iload hx hb dX8_merges_290 (lv_at hl 13 rfl) ?_
                        refine lv_iconst (v := zI (1)) hx hb dX8_merges_292 rfl ?_
                        refine z_iadd hx hb dX8_merges_293 ?_
                        refine lv_istore (lv' := [(4, .int (zI ((k : Int) + 1))), (13, .int (zI 1)), (12, .int (zI (if seg (T 0) im p = seg (T (1 + i)) f k then 1 else 0))), (11, .int (zI (q : Int))), (10, .int (zI (p : Int))), (9, .int (zI 0)), (0, .ref (B 70 0)), (1, .int (zI (i : Int))), (2, .int (zI ((1 + i : Nat) : Int))), (3, .int (zI ((9 + 4 * i + (S 2 i - 1) : Nat) : Int))), (5, .int (zI (im : Int))), (6, .int (zI (ir : Int))), (7, .int (zI ((ed (T (1 + i)) (T 0) : Int) + (ed (T (1 + i)) (T (9 + 4 * i + (S 2 i - 1))) : Int)))), (8, .int (zI (k : Int)))]) hx hb dX8_merges_294 hl (by decide) rfl (fun ls hl => ?_)
                        refine lv_iload hx hb dX8_merges_296 (lv_at hl 4 rfl) ?_
                        refine lv_iconst (v := zI (1)) hx hb dX8_merges_298 rfl ?_
                        refine z_iadd hx hb dX8_merges_299 ?_
                        refine lv_istore (lv' := [(5, .int (zI ((p : Int) + 1))), (4, .int (zI ((k : Int) + 1))), (13, .int (zI 1)), (12, .int (zI (if seg (T 0) im p = seg (T (1 + i)) f k then 1 else 0))), (11, .int (zI (q : Int))), (10, .int (zI (p : Int))), (9, .int (zI 0)), (0, .ref (B 70 0)), (1, .int (zI (i : Int))), (2, .int (zI ((1 + i : Nat) : Int))), (3, .int (zI ((9 + 4 * i + (S 2 i - 1) : Nat) : Int))), (6, .int (zI (ir : Int))), (7, .int (zI ((ed (T (1 + i)) (T 0) : Int) + (ed (T (1 + i)) (T (9 + 4 * i + (S 2 i - 1))) : Int)))), (8, .int (zI (k : Int)))]) hx hb dX8_merges_300 hl (by decide) rfl (fun ls hl => ?_)
                        refine lv_iload hx hb dX8_merges_302 (lv_at hl 4 rfl) ?_
                        refine lv_iconst (v := zI (1)) hx hb dX8_merges_304 rfl ?_
                        refine z_iadd hx hb dX8_merges_305 ?_
                        refine lv_istore (lv' := [(6, .int (zI ((q : Int) + 1))), (5, .int (zI ((p : Int) + 1))), (4, .int (zI ((k : Int) + 1))), (13, .int (zI 1)), (12, .int (zI (if seg (T 0) im p = seg (T (1 + i)) f k then 1 else 0))), (11, .int (zI (q : Int))), (10, .int (zI (p : Int))), (9, .int (zI 0)), (0, .ref (B 70 0)), (1, .int (zI (i : Int))), (2, .int (zI ((1 + i : Nat) : Int))), (3, .int (zI ((9 + 4 * i + (S 2 i - 1) : Nat) : Int))), (7, .int (zI ((ed (T (1 + i)) (T 0) : Int) + (ed (T (1 + i)) (T (9 + 4 * i + (S 2 i - 1))) : Int)))), (8, .int (zI (k : Int)))]) hx hb dX8_merges_306 hl (by decide) rfl (fun ls hl => ?_)
                        refine z_iinc (lv' := [(8, .int (zI ((k : Int) + 1))), (6, .int (zI ((q : Int) + 1))), (5, .int (zI ((p : Int) + 1))), (4, .int (zI ((k : Int) + 1))), (13, .int (zI 1)), (12, .int (zI (if seg (T 0) im p = seg (T (1 + i)) f k then 1 else 0))), (11, .int (zI (q : Int))), (10, .int (zI (p : Int))), (9, .int (zI 0)), (0, .ref (B 70 0)), (1, .int (zI (i : Int))), (2, .int (zI ((1 + i : Nat) : Int))), (3, .int (zI ((9 + 4 * i + (S 2 i - 1) : Nat) : Int))), (7, .int (zI ((ed (T (1 + i)) (T 0) : Int) + (ed (T (1 + i)) (T (9 + 4 * i + (S 2 i - 1))) : Int))))]) hx hb dX8_merges_308 hl (q := 13) rfl (by decide) rfl (fun ls hl => ?_)
                        refine lv_goto (tgt := 76) hx hb dX8_merges_311 (by decide) ?_
                        have f74 : C66 88 0 = some (gJ Z 12 K21) := ((hf73 88 0 (by omega)).trans ((hf65 88 0 (by omega)).trans h88l))
                        have f75 : C66 90 0 = some (gJ Z 12 G) := ((hf73 90 0 (by omega)).trans ((hf65 90 0 (by omega)).trans h90l))
                        exact ih76 (k + 1) (k + 1) (p + 1) (q + 1) ((acc ++ seg (T 0) im p) ++ seg (T (1 + i)) k (k + 1)) _ _ _ _ (by omega) (mgw_step hw (by omega) hp hq (mrow_2 h_238 (Or.inl h_209))) ⟨by omega, fun _ => ⟨by omega, by omega⟩, (by simp only [List.length_append]; rw [seg_len (by omega), seg_len (by omega)]; omega)⟩ (fun k1 p1 z1 z2 => kt_mono _ _ k k1 p p1 hp z2 (by omega)) (fun k1 p1 z1 z2 => kt_mono _ _ k k1 q p1 hq z2 (by omega)) hm70 (fun y9 hy9 => (ho71 y9 hy9).trans ((fun y9 hy9 => (ho63 y9 hy9).trans (hFo y9 hy9)) y9 hy9))  h69 h72 f74 f75 (hs7.kept (((hf73 87 0 (by omega)).trans ((hf65 87 0 (by omega)).trans rfl)))) (hs9.kept (((hf73 89 0 (by omega)).trans ((hf65 89 0 (by omega)).trans rfl)))) (fun k' i' h => ((hf73 k' i' (by omega)).trans ((hf65 k' i' (by omega)).trans (hfl k' i' h)))) hW hS _ (lv_sub hl [9, 10, 11, 12, 3, 2, 1, 13, 0] rfl)
                    · refine lv_aload_n hx hb dX8_merges_212 rfl (lv_at hl 4 rfl) ?_
                      refine lv_iload_n hx hb dX8_merges_213 rfl (lv_at hl 7 rfl) ?_
                      refine lv_iload hx hb dX8_merges_214 (lv_at hl 10 rfl) ?_
                      refine lv_iload hx hb dX8_merges_216 (lv_at hl 1 rfl) ?_
                      refine lv_iconst (v := zI (0)) hx hb dX8_merges_218 rfl ?_
                      refine lv_iload hx hb dX8_merges_219 (lv_at hl 9 rfl) ?_
                      refine lv_iload hx hb dX8_merges_221 (lv_at hl 2 rfl) ?_
                      refine g_ci (g_runV X (k_X8_isSame (FS := fun _ => 0) (sa := (9 + 4 * i + (S 2 i - 1))) (sb := 0) (be := ir) (en := q) (fi := im) (la := p) (t := T (9 + 4 * i + (S 2 i - 1))) (v := T 0) h70l h71l (hmtl.2 _ (by omega)) (hmtl.2 _ (by omega)) (hwf.tx _) (hwf.tx _) (hwf.tc _) (hwf.tc _) (by omega) (by omega) (by omega) (by omega) (by omega) (by omega)) (cwV 6 hts gX8_merges_X8_isSame rfl rfl rfl ⟨rfl, ds_X8_isSame⟩ ⟨Nat.le_of_ble_eq_true rfl, Nat.le_of_ble_eq_true rfl⟩) hW hS h70l rfl rfl hl.1 rfl (Nat.le_of_ble_eq_true rfl) dX8_merges_223 ⟨Nat.le_of_ble_eq_true rfl, Nat.le_of_ble_eq_true rfl⟩) hS (fun r78 C76 H locs hp77 hW hS => ?_)
                      obtain ⟨rfl, ehp77⟩ := hp77
                      rw [ehp77] at hW
                      refine z_ifb_eq (tgt := 233) hx hb dX8_merges_226 (by decide) (fun h_226 => ?_) (fun h_226 => ?_)
                      · refine lv_iconst (v := zI (0)) hx hb dX8_merges_233 rfl ?_
                        refine lv_istore (lv' := [(13, .int (zI 0)), (12, .int (zI (if seg (T 0) im p = seg (T (1 + i)) f k then 1 else 0))), (11, .int (zI (q : Int))), (10, .int (zI (p : Int))), (9, .int (zI 0)), (0, .ref (B 70 0)), (1, .int (zI (i : Int))), (2, .int (zI ((1 + i : Nat) : Int))), (3, .int (zI ((9 + 4 * i + (S 2 i - 1) : Nat) : Int))), (4, .int (zI (f : Int))), (5, .int (zI (im : Int))), (6, .int (zI (ir : Int))), (7, .int (zI ((ed (T (1 + i)) (T 0) : Int) + (ed (T (1 + i)) (T (9 + 4 * i + (S 2 i - 1))) : Int)))), (8, .int (zI (k : Int)))]) hx hb dX8_merges_234 hl (by decide) rfl (fun ls hl => ?_)
                        refine lv_iload hx hb dX8_merges_236 (lv_at hl 1 rfl) ?_
                        refine z_ifb_ne (tgt := 248) hx hb dX8_merges_238 (by decide) (fun h_238 => ?_) (fun h_238 => ?_)
                        · refine lv_iload hx hb dX8_merges_248 (lv_at hl 1 rfl) ?_
                          refine z_ifb_eq (tgt := 265) hx hb dX8_merges_250 (by decide) (fun h_250 => absurd h_250 (not_not_intro h_238)) (fun h_250 => ?_)
                          refine lv_aload_n hx hb dX8_merges_253 rfl (lv_at hl 5 rfl) ?_
                          refine lv_iload_n hx hb dX8_merges_254 rfl (lv_at hl 8 rfl) ?_
                          refine lv_iload hx hb dX8_merges_255 (lv_at hl 11 rfl) ?_
                          refine lv_iload hx hb dX8_merges_257 (lv_at hl 2 rfl) ?_
                          refine g_cv (g_runV X (k_X8_adds (sa := (9 + 4 * i + (S 2 i - 1))) (be := ir) (en := q) (t := T (9 + 4 * i + (S 2 i - 1))) (acc := acc) h70l h71l hmac ((mtx.low hwf hmt hFo).2 _ (by omega)) (hwf.tx _) (by omega) (by omega) (by omega) (by omega)) (cwV 3 hts gX8_merges_X8_adds rfl rfl rfl ⟨rfl, ds_X8_adds⟩ ⟨Nat.le_of_ble_eq_true rfl, Nat.le_of_ble_eq_true rfl⟩) hW hS h70l rfl rfl hl.1 rfl (Nat.le_of_ble_eq_true rfl) dX8_merges_259 ⟨Nat.le_of_ble_eq_true rfl, Nat.le_of_ble_eq_true rfl⟩) hS (fun C79 H locs hp80 hW hS => ?_)
                          obtain ⟨⟨F81, h82, hm83, ho84⟩, h85, hf86⟩ := hp80
                          refine lv_goto (tgt := 274) hx hb dX8_merges_262 (by decide) ?_
                          refine lv_iload hx hb dX8_merges_274 (lv_at hl 4 rfl) ?_
                          refine z_if_ne (tgt := 290) hx hb dX8_merges_276 (by decide) (⟨by omega, by omega⟩) (fun h_276 => absurd h_276 (by omega)) (fun h_276 => ?_)
                          refine lv_aload_n hx hb dX8_merges_279 rfl (lv_at hl 5 rfl) ?_
                          refine lv_iload_n hx hb dX8_merges_280 rfl (lv_at hl 7 rfl) ?_
                          refine lv_iload hx hb dX8_merges_281 (lv_at hl 13 rfl) ?_
                          refine lv_iload hx hb dX8_merges_283 (lv_at hl 13 rfl) ?_
                          refine lv_iconst (v := zI (1)) hx hb dX8_merges_285 rfl ?_
                          refine z_iadd hx hb dX8_merges_286 ?_
                          rw [show zI ((k : Int) + 1) = zI (((k + 1 : Nat) : Nat) : Int) from congrArg zI (by omega)]
                          refine g_cv (g_runV X (k_X8_adds (sa := (1 + i)) (be := k) (en := (k + 1)) (t := T (1 + i)) (acc := (acc ++ seg (T (9 + 4 * i + (S 2 i - 1))) ir q)) h85 h82 hm83 ((mtx.low hwf hmt (fun y9 hy9 => (ho84 y9 hy9).trans (hFo y9 hy9))).2 _ (by omega)) (hwf.tx _) (by simp only [List.length_append]; rw [seg_len (by omega)]; omega) (by omega) (by omega) (by omega)) (cwV 3 hts gX8_merges_X8_adds rfl rfl rfl ⟨rfl, ds_X8_adds⟩ ⟨Nat.le_of_ble_eq_true rfl, Nat.le_of_ble_eq_true rfl⟩) hW hS h85 rfl rfl hl.1 rfl (Nat.le_of_ble_eq_true rfl) dX8_merges_287 ⟨Nat.le_of_ble_eq_true rfl, Nat.le_of_ble_eq_true rfl⟩) hS (fun C87 H locs hp88 hW hS => ?_)
                          obtain ⟨⟨F89, h90, hm91, ho92⟩, h93, hf94⟩ := hp88
                          refine lv_iload hx hb dX8_merges_290 (lv_at hl 13 rfl) ?_
                          refine lv_iconst (v := zI (1)) hx hb dX8_merges_292 rfl ?_
                          refine z_iadd hx hb dX8_merges_293 ?_
                          refine lv_istore (lv' := [(4, .int (zI ((k : Int) + 1))), (13, .int (zI 0)), (12, .int (zI (if seg (T 0) im p = seg (T (1 + i)) f k then 1 else 0))), (11, .int (zI (q : Int))), (10, .int (zI (p : Int))), (9, .int (zI 0)), (0, .ref (B 70 0)), (1, .int (zI (i : Int))), (2, .int (zI ((1 + i : Nat) : Int))), (3, .int (zI ((9 + 4 * i + (S 2 i - 1) : Nat) : Int))), (5, .int (zI (im : Int))), (6, .int (zI (ir : Int))), (7, .int (zI ((ed (T (1 + i)) (T 0) : Int) + (ed (T (1 + i)) (T (9 + 4 * i + (S 2 i - 1))) : Int)))), (8, .int (zI (k : Int)))]) hx hb dX8_merges_294 hl (by decide) rfl (fun ls hl => ?_)
                          refine lv_iload hx hb dX8_merges_296 (lv_at hl 4 rfl) ?_
                          refine lv_iconst (v := zI (1)) hx hb dX8_merges_298 rfl ?_
                          refine z_iadd hx hb dX8_merges_299 ?_
                          refine lv_istore (lv' := [(5, .int (zI ((p : Int) + 1))), (4, .int (zI ((k : Int) + 1))), (13, .int (zI 0)), (12, .int (zI (if seg (T 0) im p = seg (T (1 + i)) f k then 1 else 0))), (11, .int (zI (q : Int))), (10, .int (zI (p : Int))), (9, .int (zI 0)), (0, .ref (B 70 0)), (1, .int (zI (i : Int))), (2, .int (zI ((1 + i : Nat) : Int))), (3, .int (zI ((9 + 4 * i + (S 2 i - 1) : Nat) : Int))), (6, .int (zI (ir : Int))), (7, .int (zI ((ed (T (1 + i)) (T 0) : Int) + (ed (T (1 + i)) (T (9 + 4 * i + (S 2 i - 1))) : Int)))), (8, .int (zI (k : Int)))]) hx hb dX8_merges_300 hl (by decide) rfl (fun ls hl => ?_)
                          refine lv_iload hx hb dX8_merges_302 (lv_at hl 4 rfl) ?_
                          refine lv_iconst (v := zI (1)) hx hb dX8_merges_304 rfl ?_
                          refine z_iadd hx hb dX8_merges_305 ?_
                          refine lv_istore (lv' := [(6, .int (zI ((q : Int) + 1))), (5, .int (zI ((p : Int) + 1))), (4, .int (zI ((k : Int) + 1))), (13, .int (zI 0)), (12, .int (zI (if seg (T 0) im p = seg (T (1 + i)) f k then 1 else 0))), (11, .int (zI (q : Int))), (10, .int (zI (p : Int))), (9, .int (zI 0)), (0, .ref (B 70 0)), (1, .int (zI (i : Int))), (2, .int (zI ((1 + i : Nat) : Int))), (3, .int (zI ((9 + 4 * i + (S 2 i - 1) : Nat) : Int))), (7, .int (zI ((ed (T (1 + i)) (T 0) : Int) + (ed (T (1 + i)) (T (9 + 4 * i + (S 2 i - 1))) : Int)))), (8, .int (zI (k : Int)))]) hx hb dX8_merges_306 hl (by decide) rfl (fun ls hl => ?_)
                          refine z_iinc (lv' := [(8, .int (zI ((k : Int) + 1))), (6, .int (zI ((q : Int) + 1))), (5, .int (zI ((p : Int) + 1))), (4, .int (zI ((k : Int) + 1))), (13, .int (zI 0)), (12, .int (zI (if seg (T 0) im p = seg (T (1 + i)) f k then 1 else 0))), (11, .int (zI (q : Int))), (10, .int (zI (p : Int))), (9, .int (zI 0)), (0, .ref (B 70 0)), (1, .int (zI (i : Int))), (2, .int (zI ((1 + i : Nat) : Int))), (3, .int (zI ((9 + 4 * i + (S 2 i - 1) : Nat) : Int))), (7, .int (zI ((ed (T (1 + i)) (T 0) : Int) + (ed (T (1 + i)) (T (9 + 4 * i + (S 2 i - 1))) : Int))))]) hx hb dX8_merges_308 hl (q := 13) rfl (by decide) rfl (fun ls hl => ?_)
                          refine lv_goto (tgt := 76) hx hb dX8_merges_311 (by decide) ?_
                          have f95 : C87 88 0 = some (gJ Z 12 K21) := ((hf94 88 0 (by omega)).trans ((hf86 88 0 (by omega)).trans h88l))
                          have f96 : C87 90 0 = some (gJ Z 12 G) := ((hf94 90 0 (by omega)).trans ((hf86 90 0 (by omega)).trans h90l))
                          exact ih76 (k + 1) (k + 1) (p + 1) (q + 1) ((acc ++ seg (T (9 + 4 * i + (S 2 i - 1))) ir q) ++ seg (T (1 + i)) k (k + 1)) _ _ _ _ (by omega) (mgw_step hw (by omega) hp hq (mrow_1 h_238)) ⟨by omega, fun _ => ⟨by omega, by omega⟩, (by simp only [List.length_append]; rw [seg_len (by omega), seg_len (by omega)]; omega)⟩ (fun k1 p1 z1 z2 => kt_mono _ _ k k1 p p1 hp z2 (by omega)) (fun k1 p1 z1 z2 => kt_mono _ _ k k1 q p1 hq z2 (by omega)) hm91 (fun y9 hy9 => (ho92 y9 hy9).trans ((fun y9 hy9 => (ho84 y9 hy9).trans (hFo y9 hy9)) y9 hy9))  h90 h93 f95 f96 (hs7.kept (((hf94 87 0 (by omega)).trans ((hf86 87 0 (by omega)).trans rfl)))) (hs9.kept (((hf94 89 0 (by omega)).trans ((hf86 89 0 (by omega)).trans rfl)))) (fun k' i' h => ((hf94 k' i' (by omega)).trans ((hf86 k' i' (by omega)).trans (hfl k' i' h)))) hW hS _ (lv_sub hl [9, 10, 11, 12, 3, 2, 1, 13, 0] rfl)
                        · refine lv_iload hx hb dX8_merges_241 (lv_at hl 0 rfl) ?_
                          refine z_if_ne (tgt := 248) hx hb dX8_merges_243 (by decide) (⟨by omega, by omega⟩) (fun h_243 => absurd h_243 (by omega)) (fun h_243 => ?_)
                          refine lv_iconst (v := zI (0)) hx hb dX8_merges_246 rfl ?_
                          exact kret _ _ _ _ _ _ _ _ (⟨Or.inr ⟨mgw_bad hw (by omega) hp hq (mrow_3 h_238 (fun z9 => z9.elim h_209 h_226)), rfl⟩, md.text hmd h70l h71l ((hfl 72 0 (by omega)).trans hm72) hmtl hs7 ⟨_, h88l⟩ hs9 ⟨_, h90l⟩ (fun k' z1 z2 => hfl k' 0 (by omega)), fun k' i' h => hfl k' i' (by omega)⟩) hW hS (Nat.le_of_ble_eq_true rfl) (Nat.le_of_ble_eq_true rfl) dX8_merges_247
                      · refine lv_iconst (v := zI (1)) hx hb dX8_merges_229 rfl ?_
                        refine lv_goto (tgt := 234) hx hb dX8_merges_230 (by decide) ?_
                        refine lv_istore (lv' := [(13, .int (zI 1)), (12, .int (zI (if seg (T 0) im p = seg (T (1 + i)) f k then 1 else 0))), (11, .int (zI (q : Int))), (10, .int (zI (p : Int))), (9, .int (zI 0)), (0, .ref (B 70 0)), (1, .int (zI (i : Int))), (2, .int (zI ((1 + i : Nat) : Int))), (3, .int (zI ((9 + 4 * i + (S 2 i - 1) : Nat) : Int))), (4, .int (zI (f : Int))), (5, .int (zI (im : Int))), (6, .int (zI (ir : Int))), (7, .int (zI ((ed (T (1 + i)) (T 0) : Int) + (ed (T (1 + i)) (T (9 + 4 * i + (S 2 i - 1))) : Int)))), (8, .int (zI (k : Int)))]) hx hb dX8_merges_234 hl (by decide) rfl (fun ls hl => ?_)
                        refine lv_iload hx hb dX8_merges_236 (lv_at hl 1 rfl) ?_
                        refine z_ifb_ne (tgt := 248) hx hb dX8_merges_238 (by decide) (fun h_238 => ?_) (fun h_238 => ?_)
                        · refine lv_iload hx hb dX8_merges_248 (lv_at hl 1 rfl) ?_
                          refine z_ifb_eq (tgt := 265) hx hb dX8_merges_250 (by decide) (fun h_250 => absurd h_250 (not_not_intro h_238)) (fun h_250 => ?_)
                          refine lv_aload_n hx hb dX8_merges_253 rfl (lv_at hl 5 rfl) ?_
                          refine lv_iload_n hx hb dX8_merges_254 rfl (lv_at hl 8 rfl) ?_
                          refine lv_iload hx hb dX8_merges_255 (lv_at hl 11 rfl) ?_
                          refine lv_iload hx hb dX8_merges_257 (lv_at hl 2 rfl) ?_
                          refine g_cv (g_runV X (k_X8_adds (sa := (9 + 4 * i + (S 2 i - 1))) (be := ir) (en := q) (t := T (9 + 4 * i + (S 2 i - 1))) (acc := acc) h70l h71l hmac ((mtx.low hwf hmt hFo).2 _ (by omega)) (hwf.tx _) (by omega) (by omega) (by omega) (by omega)) (cwV 3 hts gX8_merges_X8_adds rfl rfl rfl ⟨rfl, ds_X8_adds⟩ ⟨Nat.le_of_ble_eq_true rfl, Nat.le_of_ble_eq_true rfl⟩) hW hS h70l rfl rfl hl.1 rfl (Nat.le_of_ble_eq_true rfl) dX8_merges_259 ⟨Nat.le_of_ble_eq_true rfl, Nat.le_of_ble_eq_true rfl⟩) hS (fun C97 H locs hp98 hW hS => ?_)
                          obtain ⟨⟨F99, h100, hm101, ho102⟩, h103, hf104⟩ := hp98
                          refine lv_goto (tgt := 274) hx hb dX8_merges_262 (by decide) ?_
                          refine lv_iload hx hb dX8_merges_274 (lv_at hl 4 rfl) ?_
                          refine z_if_ne (tgt := 290) hx hb dX8_merges_276 (by decide) (⟨by omega, by omega⟩) (fun h_276 => absurd h_276 (by omega)) (fun h_276 => ?_)
                          refine lv_aload_n hx hb dX8_merges_279 rfl (lv_at hl 5 rfl) ?_
                          refine lv_iload_n hx hb dX8_merges_280 rfl (lv_at hl 7 rfl) ?_
                          refine lv_iload hx hb dX8_merges_281 (lv_at hl 13 rfl) ?_
                          refine lv_iload hx hb dX8_merges_283 (lv_at hl 13 rfl) ?_
                          refine lv_iconst (v := zI (1)) hx hb dX8_merges_285 rfl ?_
                          refine z_iadd hx hb dX8_merges_286 ?_
                          rw [show zI ((k : Int) + 1) = zI (((k + 1 : Nat) : Nat) : Int) from congrArg zI (by omega)]
                          refine g_cv (g_runV X (k_X8_adds (sa := (1 + i)) (be := k) (en := (k + 1)) (t := T (1 + i)) (acc := (acc ++ seg (T (9 + 4 * i + (S 2 i - 1))) ir q)) h103 h100 hm101 ((mtx.low hwf hmt (fun y9 hy9 => (ho102 y9 hy9).trans (hFo y9 hy9))).2 _ (by omega)) (hwf.tx _) (by simp only [List.length_append]; rw [seg_len (by omega)]; omega) (by omega) (by omega) (by omega)) (cwV 3 hts gX8_merges_X8_adds rfl rfl rfl ⟨rfl, ds_X8_adds⟩ ⟨Nat.le_of_ble_eq_true rfl, Nat.le_of_ble_eq_true rfl⟩) hW hS h103 rfl rfl hl.1 rfl (Nat.le_of_ble_eq_true rfl) dX8_merges_287 ⟨Nat.le_of_ble_eq_true rfl, Nat.le_of_ble_eq_true rfl⟩) hS (fun C105 H locs hp106 hW hS => ?_)
                          obtain ⟨⟨F107, h108, hm109, ho110⟩, h111, hf112⟩ := hp106
                          refine lv_iload hx hb dX8_merges_290 (lv_at hl 13 rfl) ?_
                          refine lv_iconst (v := zI (1)) hx hb dX8_merges_292 rfl ?_
                          refine z_iadd hx hb dX8_merges_293 ?_
                          refine lv_istore (lv' := [(4, .int (zI ((k : Int) + 1))), (13, .int (zI 1)), (12, .int (zI (if seg (T 0) im p = seg (T (1 + i)) f k then 1 else 0))), (11, .int (zI (q : Int))), (10, .int (zI (p : Int))), (9, .int (zI 0)), (0, .ref (B 70 0)), (1, .int (zI (i : Int))), (2, .int (zI ((1 + i : Nat) : Int))), (3, .int (zI ((9 + 4 * i + (S 2 i - 1) : Nat) : Int))), (5, .int (zI (im : Int))), (6, .int (zI (ir : Int))), (7, .int (zI ((ed (T (1 + i)) (T 0) : Int) + (ed (T (1 + i)) (T (9 + 4 * i + (S 2 i - 1))) : Int)))), (8, .int (zI (k : Int)))]) hx hb dX8_merges_294 hl (by decide) rfl (fun ls hl => ?_)
                          refine lv_iload hx hb dX8_merges_296 (lv_at hl 4 rfl) ?_
                          refine lv_iconst (v := zI (1)) hx hb dX8_merges_298 rfl ?_
                          refine z_iadd hx hb dX8_merges_299 ?_
                          refine lv_istore (lv' := [(5, .int (zI ((p : Int) + 1))), (4, .int (zI ((k : Int) + 1))), (13, .int (zI 1)), (12, .int (zI (if seg (T 0) im p = seg (T (1 + i)) f k then 1 else 0))), (11, .int (zI (q : Int))), (10, .int (zI (p : Int))), (9, .int (zI 0)), (0, .ref (B 70 0)), (1, .int (zI (i : Int))), (2, .int (zI ((1 + i : Nat) : Int))), (3, .int (zI ((9 + 4 * i + (S 2 i - 1) : Nat) : Int))), (6, .int (zI (ir : Int))), (7, .int (zI ((ed (T (1 + i)) (T 0) : Int) + (ed (T (1 + i)) (T (9 + 4 * i + (S 2 i - 1))) : Int)))), (8, .int (zI (k : Int)))]) hx hb dX8_merges_300 hl (by decide) rfl (fun ls hl => ?_)
                          refine lv_iload hx hb dX8_merges_302 (lv_at hl 4 rfl) ?_
                          refine lv_iconst (v := zI (1)) hx hb dX8_merges_304 rfl ?_
                          refine z_iadd hx hb dX8_merges_305 ?_
                          refine lv_istore (lv' := [(6, .int (zI ((q : Int) + 1))), (5, .int (zI ((p : Int) + 1))), (4, .int (zI ((k : Int) + 1))), (13, .int (zI 1)), (12, .int (zI (if seg (T 0) im p = seg (T (1 + i)) f k then 1 else 0))), (11, .int (zI (q : Int))), (10, .int (zI (p : Int))), (9, .int (zI 0)), (0, .ref (B 70 0)), (1, .int (zI (i : Int))), (2, .int (zI ((1 + i : Nat) : Int))), (3, .int (zI ((9 + 4 * i + (S 2 i - 1) : Nat) : Int))), (7, .int (zI ((ed (T (1 + i)) (T 0) : Int) + (ed (T (1 + i)) (T (9 + 4 * i + (S 2 i - 1))) : Int)))), (8, .int (zI (k : Int)))]) hx hb dX8_merges_306 hl (by decide) rfl (fun ls hl => ?_)
                          refine z_iinc (lv' := [(8, .int (zI ((k : Int) + 1))), (6, .int (zI ((q : Int) + 1))), (5, .int (zI ((p : Int) + 1))), (4, .int (zI ((k : Int) + 1))), (13, .int (zI 1)), (12, .int (zI (if seg (T 0) im p = seg (T (1 + i)) f k then 1 else 0))), (11, .int (zI (q : Int))), (10, .int (zI (p : Int))), (9, .int (zI 0)), (0, .ref (B 70 0)), (1, .int (zI (i : Int))), (2, .int (zI ((1 + i : Nat) : Int))), (3, .int (zI ((9 + 4 * i + (S 2 i - 1) : Nat) : Int))), (7, .int (zI ((ed (T (1 + i)) (T 0) : Int) + (ed (T (1 + i)) (T (9 + 4 * i + (S 2 i - 1))) : Int))))]) hx hb dX8_merges_308 hl (q := 13) rfl (by decide) rfl (fun ls hl => ?_)
                          refine lv_goto (tgt := 76) hx hb dX8_merges_311 (by decide) ?_
                          have f113 : C105 88 0 = some (gJ Z 12 K21) := ((hf112 88 0 (by omega)).trans ((hf104 88 0 (by omega)).trans h88l))
                          have f114 : C105 90 0 = some (gJ Z 12 G) := ((hf112 90 0 (by omega)).trans ((hf104 90 0 (by omega)).trans h90l))
                          exact ih76 (k + 1) (k + 1) (p + 1) (q + 1) ((acc ++ seg (T (9 + 4 * i + (S 2 i - 1))) ir q) ++ seg (T (1 + i)) k (k + 1)) _ _ _ _ (by omega) (mgw_step hw (by omega) hp hq (mrow_1 h_238)) ⟨by omega, fun _ => ⟨by omega, by omega⟩, (by simp only [List.length_append]; rw [seg_len (by omega), seg_len (by omega)]; omega)⟩ (fun k1 p1 z1 z2 => kt_mono _ _ k k1 p p1 hp z2 (by omega)) (fun k1 p1 z1 z2 => kt_mono _ _ k k1 q p1 hq z2 (by omega)) hm109 (fun y9 hy9 => (ho110 y9 hy9).trans ((fun y9 hy9 => (ho102 y9 hy9).trans (hFo y9 hy9)) y9 hy9))  h108 h111 f113 f114 (hs7.kept (((hf112 87 0 (by omega)).trans ((hf104 87 0 (by omega)).trans rfl)))) (hs9.kept (((hf112 89 0 (by omega)).trans ((hf104 89 0 (by omega)).trans rfl)))) (fun k' i' h => ((hf112 k' i' (by omega)).trans ((hf104 k' i' (by omega)).trans (hfl k' i' h)))) hW hS _ (lv_sub hl [9, 10, 11, 12, 3, 2, 1, 13, 0] rfl)
                        · refine lv_iload hx hb dX8_merges_241 (lv_at hl 0 rfl) ?_
                          refine z_if_ne (tgt := 248) hx hb dX8_merges_243 (by decide) (⟨by omega, by omega⟩) (fun h_243 => ?_) (fun h_243 => absurd h_243 (by omega))
                          refine lv_iload hx hb dX8_merges_248 (lv_at hl 1 rfl) ?_
                          refine z_ifb_eq (tgt := 265) hx hb dX8_merges_250 (by decide) (fun h_250 => ?_) (fun h_250 => absurd h_250 (h_238))
                          refine lv_aload_n hx hb dX8_merges_265 rfl (lv_at hl 5 rfl) ?_
                          refine lv_iconst (v := zI (0)) hx hb dX8_merges_266 rfl ?_
                          refine lv_iload hx hb dX8_merges_267 (lv_at hl 10 rfl) ?_
                          refine lv_iload hx hb dX8_merges_269 (lv_at hl 3 rfl) ?_
                          refine g_cv (g_runV X (k_X8_adds (sa := 0) (be := im) (en := p) (t := T 0) (acc := acc) h70l h71l hmac ((mtx.low hwf hmt hFo).2 _ (by omega)) (hwf.tx _) (by omega) (by omega) (by omega) (by omega)) (cwV 3 hts gX8_merges_X8_adds rfl rfl rfl ⟨rfl, ds_X8_adds⟩ ⟨Nat.le_of_ble_eq_true rfl, Nat.le_of_ble_eq_true rfl⟩) hW hS h70l rfl rfl hl.1 rfl (Nat.le_of_ble_eq_true rfl) dX8_merges_271 ⟨Nat.le_of_ble_eq_true rfl, Nat.le_of_ble_eq_true rfl⟩) hS (fun C115 H locs hp116 hW hS => ?_)
                          obtain ⟨⟨F117, h118, hm119, ho120⟩, h121, hf122⟩ := hp116
                          refine lv_iload hx hb dX8_merges_274 (lv_at hl 4 rfl) ?_
                          refine z_if_ne (tgt := 290) hx hb dX8_merges_276 (by decide) (⟨by omega, by omega⟩) (fun h_276 => absurd h_276 (by omega)) (fun h_276 => ?_)
                          refine lv_aload_n hx hb dX8_merges_279 rfl (lv_at hl 5 rfl) ?_
                          refine lv_iload_n hx hb dX8_merges_280 rfl (lv_at hl 7 rfl) ?_
                          refine lv_iload hx hb dX8_merges_281 (lv_at hl 13 rfl) ?_
                          refine lv_iload hx hb dX8_merges_283 (lv_at hl 13 rfl) ?_
                          refine lv_iconst (v := zI (1)) hx hb dX8_merges_285 rfl ?_
                          refine z_iadd hx hb dX8_merges_286 ?_
                          rw [show zI ((k : Int) + 1) = zI (((k + 1 : Nat) : Nat) : Int) from congrArg zI (by omega)]
                          refine g_cv (g_runV X (k_X8_adds (sa := (1 + i)) (be := k) (en := (k + 1)) (t := T (1 + i)) (acc := (acc ++ seg (T 0) im p)) h121 h118 hm119 ((mtx.low hwf hmt (fun y9 hy9 => (ho120 y9 hy9).trans (hFo y9 hy9))).2 _ (by omega)) (hwf.tx _) (by simp only [List.length_append]; rw [seg_len (by omega)]; omega) (by omega) (by omega) (by omega)) (cwV 3 hts gX8_merges_X8_adds rfl rfl rfl ⟨rfl, ds_X8_adds⟩ ⟨Nat.le_of_ble_eq_true rfl, Nat.le_of_ble_eq_true rfl⟩) hW hS h121 rfl rfl hl.1 rfl (Nat.le_of_ble_eq_true rfl) dX8_merges_287 ⟨Nat.le_of_ble_eq_true rfl, Nat.le_of_ble_eq_true rfl⟩) hS (fun C123 H locs hp124 hW hS => ?_)
                          obtain ⟨⟨F125, h126, hm127, ho128⟩, h129, hf130⟩ := hp124
                          refine lv_iload hx hb dX8_merges_290 (lv_at hl 13 rfl) ?_
                          refine lv_iconst (v := zI (1)) hx hb dX8_merges_292 rfl ?_
                          refine z_iadd hx hb dX8_merges_293 ?_
                          refine lv_istore (lv' := [(4, .int (zI ((k : Int) + 1))), (13, .int (zI 1)), (12, .int (zI (if seg (T 0) im p = seg (T (1 + i)) f k then 1 else 0))), (11, .int (zI (q : Int))), (10, .int (zI (p : Int))), (9, .int (zI 0)), (0, .ref (B 70 0)), (1, .int (zI (i : Int))), (2, .int (zI ((1 + i : Nat) : Int))), (3, .int (zI ((9 + 4 * i + (S 2 i - 1) : Nat) : Int))), (5, .int (zI (im : Int))), (6, .int (zI (ir : Int))), (7, .int (zI ((ed (T (1 + i)) (T 0) : Int) + (ed (T (1 + i)) (T (9 + 4 * i + (S 2 i - 1))) : Int)))), (8, .int (zI (k : Int)))]) hx hb dX8_merges_294 hl (by decide) rfl (fun ls hl => ?_)
                          refine lv_iload hx hb dX8_merges_296 (lv_at hl 4 rfl) ?_
                          refine lv_iconst (v := zI (1)) hx hb dX8_merges_298 rfl ?_
                          refine z_iadd hx hb dX8_merges_299 ?_
                          refine lv_istore (lv' := [(5, .int (zI ((p : Int) + 1))), (4, .int (zI ((k : Int) + 1))), (13, .int (zI 1)), (12, .int (zI (if seg (T 0) im p = seg (T (1 + i)) f k then 1 else 0))), (11, .int (zI (q : Int))), (10, .int (zI (p : Int))), (9, .int (zI 0)), (0, .ref (B 70 0)), (1, .int (zI (i : Int))), (2, .int (zI ((1 + i : Nat) : Int))), (3, .int (zI ((9 + 4 * i + (S 2 i - 1) : Nat) : Int))), (6, .int (zI (ir : Int))), (7, .int (zI ((ed (T (1 + i)) (T 0) : Int) + (ed (T (1 + i)) (T (9 + 4 * i + (S 2 i - 1))) : Int)))), (8, .int (zI (k : Int)))]) hx hb dX8_merges_300 hl (by decide) rfl (fun ls hl => ?_)
                          refine lv_iload hx hb dX8_merges_302 (lv_at hl 4 rfl) ?_
                          refine lv_iconst (v := zI (1)) hx hb dX8_merges_304 rfl ?_
                          refine z_iadd hx hb dX8_merges_305 ?_
                          refine lv_istore (lv' := [(6, .int (zI ((q : Int) + 1))), (5, .int (zI ((p : Int) + 1))), (4, .int (zI ((k : Int) + 1))), (13, .int (zI 1)), (12, .int (zI (if seg (T 0) im p = seg (T (1 + i)) f k then 1 else 0))), (11, .int (zI (q : Int))), (10, .int (zI (p : Int))), (9, .int (zI 0)), (0, .ref (B 70 0)), (1, .int (zI (i : Int))), (2, .int (zI ((1 + i : Nat) : Int))), (3, .int (zI ((9 + 4 * i + (S 2 i - 1) : Nat) : Int))), (7, .int (zI ((ed (T (1 + i)) (T 0) : Int) + (ed (T (1 + i)) (T (9 + 4 * i + (S 2 i - 1))) : Int)))), (8, .int (zI (k : Int)))]) hx hb dX8_merges_306 hl (by decide) rfl (fun ls hl => ?_)
                          refine z_iinc (lv' := [(8, .int (zI ((k : Int) + 1))), (6, .int (zI ((q : Int) + 1))), (5, .int (zI ((p : Int) + 1))), (4, .int (zI ((k : Int) + 1))), (13, .int (zI 1)), (12, .int (zI (if seg (T 0) im p = seg (T (1 + i)) f k then 1 else 0))), (11, .int (zI (q : Int))), (10, .int (zI (p : Int))), (9, .int (zI 0)), (0, .ref (B 70 0)), (1, .int (zI (i : Int))), (2, .int (zI ((1 + i : Nat) : Int))), (3, .int (zI ((9 + 4 * i + (S 2 i - 1) : Nat) : Int))), (7, .int (zI ((ed (T (1 + i)) (T 0) : Int) + (ed (T (1 + i)) (T (9 + 4 * i + (S 2 i - 1))) : Int))))]) hx hb dX8_merges_308 hl (q := 13) rfl (by decide) rfl (fun ls hl => ?_)
                          refine lv_goto (tgt := 76) hx hb dX8_merges_311 (by decide) ?_
                          have f131 : C123 88 0 = some (gJ Z 12 K21) := ((hf130 88 0 (by omega)).trans ((hf122 88 0 (by omega)).trans h88l))
                          have f132 : C123 90 0 = some (gJ Z 12 G) := ((hf130 90 0 (by omega)).trans ((hf122 90 0 (by omega)).trans h90l))
                          exact ih76 (k + 1) (k + 1) (p + 1) (q + 1) ((acc ++ seg (T 0) im p) ++ seg (T (1 + i)) k (k + 1)) _ _ _ _ (by omega) (mgw_step hw (by omega) hp hq (mrow_2 h_238 (Or.inr h_226))) ⟨by omega, fun _ => ⟨by omega, by omega⟩, (by simp only [List.length_append]; rw [seg_len (by omega), seg_len (by omega)]; omega)⟩ (fun k1 p1 z1 z2 => kt_mono _ _ k k1 p p1 hp z2 (by omega)) (fun k1 p1 z1 z2 => kt_mono _ _ k k1 q p1 hq z2 (by omega)) hm127 (fun y9 hy9 => (ho128 y9 hy9).trans ((fun y9 hy9 => (ho120 y9 hy9).trans (hFo y9 hy9)) y9 hy9))  h126 h129 f131 f132 (hs7.kept (((hf130 87 0 (by omega)).trans ((hf122 87 0 (by omega)).trans rfl)))) (hs9.kept (((hf130 89 0 (by omega)).trans ((hf122 89 0 (by omega)).trans rfl)))) (fun k' i' h => ((hf130 k' i' (by omega)).trans ((hf122 k' i' (by omega)).trans (hfl k' i' h)))) hW hS _ (lv_sub hl [9, 10, 11, 12, 3, 2, 1, 13, 0] rfl)
                  · refine lv_goto (tgt := 308) hx hb dX8_merges_130 (by decide) ?_
                    refine z_iinc (lv' := [(8, .int (zI ((k : Int) + 1))), (9, .int (zI 0)), (0, .ref (B 70 0)), (1, .int (zI (i : Int))), (2, .int (zI ((1 + i : Nat) : Int))), (3, .int (zI ((9 + 4 * i + (S 2 i - 1) : Nat) : Int))), (4, .int (zI (f : Int))), (5, .int (zI (im : Int))), (6, .int (zI (ir : Int))), (7, .int (zI ((ed (T (1 + i)) (T 0) : Int) + (ed (T (1 + i)) (T (9 + 4 * i + (S 2 i - 1))) : Int))))]) hx hb dX8_merges_308 hl (q := 9) rfl (by decide) rfl (fun ls hl => ?_)
                    refine lv_goto (tgt := 76) hx hb dX8_merges_311 (by decide) ?_
                    exact ih76 (k + 1) f im ir acc F _ _ _ (by omega) (mgw_skip hw (by omega) (Or.inr (enc_neg (by omega)))) ⟨by omega, fun _ => hfk.2.1 (by omega), by omega⟩ (fun k1 p1 z1 z2 => hI1 k1 p1 (by omega) z2) (fun k1 p1 z1 z2 => hI2 k1 p1 (by omega) z2) hmac hFo  h71l h70l h88l h90l (hs7.kept (rfl)) (hs9.kept (rfl)) (fun k' i' h => (hfl k' i' h)) hW hS _ (lv_sub hl [2, 3, 4, 5, 6, 7, 8, 9, 0] rfl)
              · refine lv_iconst (v := zI (1)) hx hb dX8_merges_98 rfl ?_
                refine lv_goto (tgt := 103) hx hb dX8_merges_99 (by decide) ?_
                refine lv_istore (lv' := [(9, .int (zI 1)), (0, .ref (B 70 0)), (1, .int (zI (i : Int))), (2, .int (zI ((1 + i : Nat) : Int))), (3, .int (zI ((9 + 4 * i + (S 2 i - 1) : Nat) : Int))), (4, .int (zI (f : Int))), (5, .int (zI (im : Int))), (6, .int (zI (ir : Int))), (7, .int (zI ((ed (T (1 + i)) (T 0) : Int) + (ed (T (1 + i)) (T (9 + 4 * i + (S 2 i - 1))) : Int)))), (8, .int (zI (k : Int)))]) hx hb dX8_merges_103 hl (by decide) rfl (fun ls hl => ?_)
                refine lv_iload hx hb dX8_merges_105 (lv_at hl 0 rfl) ?_
                refine z_if_ne (tgt := 133) hx hb dX8_merges_107 (by decide) (⟨by omega, by omega⟩) (fun h_107 => ?_) (fun h_107 => absurd h_107 (by omega))
                have hfk2 := hfk.2.1 (by omega)
                refine lv_iload hx hb dX8_merges_133 (lv_at hl 0 rfl) ?_
                refine z_if_eq (tgt := 147) hx hb dX8_merges_135 (by decide) (⟨by omega, by omega⟩) (fun h_135 => absurd h_135 (by omega)) (fun h_135 => ?_)
                refine lv_aload_n hx hb dX8_merges_138 rfl (lv_at hl 1 rfl) ?_
                refine g_get (ci := 8) X in_X8_merges_8 rfl hW h70l 6 (by decide) (hts _ (List.mem_of_getElem? (i := 4) rfl)) rfl dX8_merges_139 ?_
                refine lv_iconst (v := zI (0)) hx hb dX8_merges_142 rfl ?_
                refine z_iald X hW ((hfl 72 0 (by omega)).trans hm72) (by omega) (by omega) (by omega) dX8_merges_143 ?_
                rw [show F72 ((0 : Int)).toNat = ((T 0).length : Int) from hmt.1 _ (by omega)]
                refine lv_goto (tgt := 154) hx hb dX8_merges_144 (by decide) ?_
                refine lv_istore (lv' := [(10, .int (zI ((T 0).length : Int))), (9, .int (zI 1)), (0, .ref (B 70 0)), (1, .int (zI (i : Int))), (2, .int (zI ((1 + i : Nat) : Int))), (3, .int (zI ((9 + 4 * i + (S 2 i - 1) : Nat) : Int))), (4, .int (zI (f : Int))), (5, .int (zI (im : Int))), (6, .int (zI (ir : Int))), (7, .int (zI ((ed (T (1 + i)) (T 0) : Int) + (ed (T (1 + i)) (T (9 + 4 * i + (S 2 i - 1))) : Int)))), (8, .int (zI (k : Int)))]) hx hb dX8_merges_154 hl (by decide) rfl (fun ls hl => ?_)
                refine lv_iload hx hb dX8_merges_156 (lv_at hl 1 rfl) ?_
                refine z_if_eq (tgt := 170) hx hb dX8_merges_158 (by decide) (⟨by omega, by omega⟩) (fun h_158 => absurd h_158 (by omega)) (fun h_158 => ?_)
                refine lv_aload_n hx hb dX8_merges_161 rfl (lv_at hl 2 rfl) ?_
                refine g_get (ci := 8) X in_X8_merges_8 rfl hW h70l 6 (by decide) (hts _ (List.mem_of_getElem? (i := 4) rfl)) rfl dX8_merges_162 ?_
                refine lv_iload_n hx hb dX8_merges_165 rfl (lv_at hl 5 rfl) ?_
                refine z_iald X hW ((hfl 72 0 (by omega)).trans hm72) (by omega) (by omega) (by omega) dX8_merges_166 ?_
                rw [show F72 ((((9 + 4 * i + (S 2 i - 1)) : Nat) : Int)).toNat = ((T (9 + 4 * i + (S 2 i - 1))).length : Int) from hmt.1 _ (by omega)]
                refine lv_goto (tgt := 177) hx hb dX8_merges_167 (by decide) ?_
                refine lv_istore (lv' := [(11, .int (zI ((T (9 + 4 * i + (S 2 i - 1))).length : Int))), (10, .int (zI ((T 0).length : Int))), (9, .int (zI 1)), (0, .ref (B 70 0)), (1, .int (zI (i : Int))), (2, .int (zI ((1 + i : Nat) : Int))), (3, .int (zI ((9 + 4 * i + (S 2 i - 1) : Nat) : Int))), (4, .int (zI (f : Int))), (5, .int (zI (im : Int))), (6, .int (zI (ir : Int))), (7, .int (zI ((ed (T (1 + i)) (T 0) : Int) + (ed (T (1 + i)) (T (9 + 4 * i + (S 2 i - 1))) : Int)))), (8, .int (zI (k : Int)))]) hx hb dX8_merges_177 hl (by decide) rfl (fun ls hl => ?_)
                refine lv_aload_n hx hb dX8_merges_179 rfl (lv_at hl 3 rfl) ?_
                refine lv_iconst (v := zI (0)) hx hb dX8_merges_180 rfl ?_
                refine lv_iload hx hb dX8_merges_181 (lv_at hl 8 rfl) ?_
                refine lv_iload hx hb dX8_merges_183 (lv_at hl 1 rfl) ?_
                refine lv_iload_n hx hb dX8_merges_185 rfl (lv_at hl 5 rfl) ?_
                refine lv_iload hx hb dX8_merges_186 (lv_at hl 7 rfl) ?_
                refine lv_iload hx hb dX8_merges_188 (lv_at hl 11 rfl) ?_
                refine g_ci (g_runV X (k_X8_isSame (FS := fun _ => 0) (sa := 0) (sb := (1 + i)) (be := im) (en := (T 0).length) (fi := f) (la := k) (t := T 0) (v := T (1 + i)) h70l h71l (hmtl.2 _ (by omega)) (hmtl.2 _ (by omega)) (hwf.tx _) (hwf.tx _) (hwf.tc _) (hwf.tc _) (by omega) (by omega) (by omega) (by omega) (by omega) (by omega)) (cwV 6 hts gX8_merges_X8_isSame rfl rfl rfl ⟨rfl, ds_X8_isSame⟩ ⟨Nat.le_of_ble_eq_true rfl, Nat.le_of_ble_eq_true rfl⟩) hW hS h70l rfl rfl hl.1 rfl (Nat.le_of_ble_eq_true rfl) dX8_merges_190 ⟨Nat.le_of_ble_eq_true rfl, Nat.le_of_ble_eq_true rfl⟩) hS (fun r135 C133 H locs hp134 hW hS => ?_)
                obtain ⟨rfl, ehp134⟩ := hp134
                rw [ehp134] at hW
                refine lv_istore (lv' := [(12, .int (zI (if seg (T 0) im (T 0).length = seg (T (1 + i)) f k then 1 else 0))), (11, .int (zI ((T (9 + 4 * i + (S 2 i - 1))).length : Int))), (10, .int (zI ((T 0).length : Int))), (9, .int (zI 1)), (0, .ref (B 70 0)), (1, .int (zI (i : Int))), (2, .int (zI ((1 + i : Nat) : Int))), (3, .int (zI ((9 + 4 * i + (S 2 i - 1) : Nat) : Int))), (4, .int (zI (f : Int))), (5, .int (zI (im : Int))), (6, .int (zI (ir : Int))), (7, .int (zI ((ed (T (1 + i)) (T 0) : Int) + (ed (T (1 + i)) (T (9 + 4 * i + (S 2 i - 1))) : Int)))), (8, .int (zI (k : Int)))]) hx hb dX8_merges_193 hl (by decide) rfl (fun ls hl => ?_)
                refine lv_aload_n hx hb dX8_merges_195 rfl (lv_at hl 4 rfl) ?_
                refine lv_iload_n hx hb dX8_merges_196 rfl (lv_at hl 7 rfl) ?_
                refine lv_iload hx hb dX8_merges_197 (lv_at hl 10 rfl) ?_
                refine lv_iload hx hb dX8_merges_199 (lv_at hl 1 rfl) ?_
                refine lv_iload_n hx hb dX8_merges_201 rfl (lv_at hl 6 rfl) ?_
                refine lv_iload hx hb dX8_merges_202 (lv_at hl 8 rfl) ?_
                refine lv_iload hx hb dX8_merges_204 (lv_at hl 12 rfl) ?_
                refine g_ci (g_runV X (k_X8_isSame (FS := fun _ => 0) (sa := (9 + 4 * i + (S 2 i - 1))) (sb := (1 + i)) (be := ir) (en := (T (9 + 4 * i + (S 2 i - 1))).length) (fi := f) (la := k) (t := T (9 + 4 * i + (S 2 i - 1))) (v := T (1 + i)) h70l h71l (hmtl.2 _ (by omega)) (hmtl.2 _ (by omega)) (hwf.tx _) (hwf.tx _) (hwf.tc _) (hwf.tc _) (by omega) (by omega) (by omega) (by omega) (by omega) (by omega)) (cwV 6 hts gX8_merges_X8_isSame rfl rfl rfl ⟨rfl, ds_X8_isSame⟩ ⟨Nat.le_of_ble_eq_true rfl, Nat.le_of_ble_eq_true rfl⟩) hW hS h70l rfl rfl hl.1 rfl (Nat.le_of_ble_eq_true rfl) dX8_merges_206 ⟨Nat.le_of_ble_eq_true rfl, Nat.le_of_ble_eq_true rfl⟩) hS (fun r138 C136 H locs hp137 hW hS => ?_)
                obtain ⟨rfl, ehp137⟩ := hp137
                rw [ehp137] at hW
                refine z_ifb_ne (tgt := 229) hx hb dX8_merges_209 (by decide) (fun h_209 => ?_) (fun h_209 => ?_)
                · refine lv_iconst (v := zI (1)) hx hb dX8_merges_229 rfl ?_
                  refine lv_goto (tgt := 234) hx hb dX8_merges_230 (by decide) ?_
                  refine lv_istore (lv' := [(13, .int (zI 1)), (12, .int (zI (if seg (T 0) im (T 0).length = seg (T (1 + i)) f k then 1 else 0))), (11, .int (zI ((T (9 + 4 * i + (S 2 i - 1))).length : Int))), (10, .int (zI ((T 0).length : Int))), (9, .int (zI 1)), (0, .ref (B 70 0)), (1, .int (zI (i : Int))), (2, .int (zI ((1 + i : Nat) : Int))), (3, .int (zI ((9 + 4 * i + (S 2 i - 1) : Nat) : Int))), (4, .int (zI (f : Int))), (5, .int (zI (im : Int))), (6, .int (zI (ir : Int))), (7, .int (zI ((ed (T (1 + i)) (T 0) : Int) + (ed (T (1 + i)) (T (9 + 4 * i + (S 2 i - 1))) : Int)))), (8, .int (zI (k : Int)))]) hx hb dX8_merges_234 hl (by decide) rfl (fun ls hl => ?_)
                  refine lv_iload hx hb dX8_merges_236 (lv_at hl 1 rfl) ?_
                  refine z_ifb_ne (tgt := 248) hx hb dX8_merges_238 (by decide) (fun h_238 => ?_) (fun h_238 => ?_)
                  · refine lv_iload hx hb dX8_merges_248 (lv_at hl 1 rfl) ?_
                    refine z_ifb_eq (tgt := 265) hx hb dX8_merges_250 (by decide) (fun h_250 => absurd h_250 (not_not_intro h_238)) (fun h_250 => ?_)
                    refine lv_aload_n hx hb dX8_merges_253 rfl (lv_at hl 5 rfl) ?_
                    refine lv_iload_n hx hb dX8_merges_254 rfl (lv_at hl 8 rfl) ?_
                    refine lv_iload hx hb dX8_merges_255 (lv_at hl 11 rfl) ?_
                    refine lv_iload hx hb dX8_merges_257 (lv_at hl 2 rfl) ?_
                    refine g_cv (g_runV X (k_X8_adds (sa := (9 + 4 * i + (S 2 i - 1))) (be := ir) (en := (T (9 + 4 * i + (S 2 i - 1))).length) (t := T (9 + 4 * i + (S 2 i - 1))) (acc := acc) h70l h71l hmac ((mtx.low hwf hmt hFo).2 _ (by omega)) (hwf.tx _) (by omega) (by omega) (by omega) (by omega)) (cwV 3 hts gX8_merges_X8_adds rfl rfl rfl ⟨rfl, ds_X8_adds⟩ ⟨Nat.le_of_ble_eq_true rfl, Nat.le_of_ble_eq_true rfl⟩) hW hS h70l rfl rfl hl.1 rfl (Nat.le_of_ble_eq_true rfl) dX8_merges_259 ⟨Nat.le_of_ble_eq_true rfl, Nat.le_of_ble_eq_true rfl⟩) hS (fun C139 H locs hp140 hW hS => ?_)
                    obtain ⟨⟨F141, h142, hm143, ho144⟩, h145, hf146⟩ := hp140
                    refine lv_goto (tgt := 274) hx hb dX8_merges_262 (by decide) ?_
                    refine lv_iload hx hb dX8_merges_274 (lv_at hl 4 rfl) ?_
                    refine z_if_ne (tgt := 290) hx hb dX8_merges_276 (by decide) (⟨by omega, by omega⟩) (fun h_276 => ?_) (fun h_276 => absurd h_276 (by omega))
                    refine lv_iload hx hb dX8_merges_290 (lv_at hl 13 rfl) ?_
                    refine lv_iconst (v := zI (1)) hx hb dX8_merges_292 rfl ?_
                    refine z_iadd hx hb dX8_merges_293 ?_
                    refine lv_istore (lv' := [(4, .int (zI ((k : Int) + 1))), (13, .int (zI 1)), (12, .int (zI (if seg (T 0) im (T 0).length = seg (T (1 + i)) f k then 1 else 0))), (11, .int (zI ((T (9 + 4 * i + (S 2 i - 1))).length : Int))), (10, .int (zI ((T 0).length : Int))), (9, .int (zI 1)), (0, .ref (B 70 0)), (1, .int (zI (i : Int))), (2, .int (zI ((1 + i : Nat) : Int))), (3, .int (zI ((9 + 4 * i + (S 2 i - 1) : Nat) : Int))), (5, .int (zI (im : Int))), (6, .int (zI (ir : Int))), (7, .int (zI ((ed (T (1 + i)) (T 0) : Int) + (ed (T (1 + i)) (T (9 + 4 * i + (S 2 i - 1))) : Int)))), (8, .int (zI (k : Int)))]) hx hb dX8_merges_294 hl (by decide) rfl (fun ls hl => ?_)
                    refine lv_iload hx hb dX8_merges_296 (lv_at hl 4 rfl) ?_
                    refine lv_iconst (v := zI (1)) hx hb dX8_merges_298 rfl ?_
                    refine z_iadd hx hb dX8_merges_299 ?_
                    refine lv_istore (lv' := [(5, .int (zI (((T 0).length : Int) + 1))), (4, .int (zI ((k : Int) + 1))), (13, .int (zI 1)), (12, .int (zI (if seg (T 0) im (T 0).length = seg (T (1 + i)) f k then 1 else 0))), (11, .int (zI ((T (9 + 4 * i + (S 2 i - 1))).length : Int))), (10, .int (zI ((T 0).length : Int))), (9, .int (zI 1)), (0, .ref (B 70 0)), (1, .int (zI (i : Int))), (2, .int (zI ((1 + i : Nat) : Int))), (3, .int (zI ((9 + 4 * i + (S 2 i - 1) : Nat) : Int))), (6, .int (zI (ir : Int))), (7, .int (zI ((ed (T (1 + i)) (T 0) : Int) + (ed (T (1 + i)) (T (9 + 4 * i + (S 2 i - 1))) : Int)))), (8, .int (zI (k : Int)))]) hx hb dX8_merges_300 hl (by decide) rfl (fun ls hl => ?_)
                    refine lv_iload hx hb dX8_merges_302 (lv_at hl 4 rfl) ?_
                    refine lv_iconst (v := zI (1)) hx hb dX8_merges_304 rfl ?_
                    refine z_iadd hx hb dX8_merges_305 ?_
                    refine lv_istore (lv' := [(6, .int (zI (((T (9 + 4 * i + (S 2 i - 1))).length : Int) + 1))), (5, .int (zI (((T 0).length : Int) + 1))), (4, .int (zI ((k : Int) + 1))), (13, .int (zI 1)), (12, .int (zI (if seg (T 0) im (T 0).length = seg (T (1 + i)) f k then 1 else 0))), (11, .int (zI ((T (9 + 4 * i + (S 2 i - 1))).length : Int))), (10, .int (zI ((T 0).length : Int))), (9, .int (zI 1)), (0, .ref (B 70 0)), (1, .int (zI (i : Int))), (2, .int (zI ((1 + i : Nat) : Int))), (3, .int (zI ((9 + 4 * i + (S 2 i - 1) : Nat) : Int))), (7, .int (zI ((ed (T (1 + i)) (T 0) : Int) + (ed (T (1 + i)) (T (9 + 4 * i + (S 2 i - 1))) : Int)))), (8, .int (zI (k : Int)))]) hx hb dX8_merges_306 hl (by decide) rfl (fun ls hl => ?_)
                    refine z_iinc (lv' := [(8, .int (zI ((k : Int) + 1))), (6, .int (zI (((T (9 + 4 * i + (S 2 i - 1))).length : Int) + 1))), (5, .int (zI (((T 0).length : Int) + 1))), (4, .int (zI ((k : Int) + 1))), (13, .int (zI 1)), (12, .int (zI (if seg (T 0) im (T 0).length = seg (T (1 + i)) f k then 1 else 0))), (11, .int (zI ((T (9 + 4 * i + (S 2 i - 1))).length : Int))), (10, .int (zI ((T 0).length : Int))), (9, .int (zI 1)), (0, .ref (B 70 0)), (1, .int (zI (i : Int))), (2, .int (zI ((1 + i : Nat) : Int))), (3, .int (zI ((9 + 4 * i + (S 2 i - 1) : Nat) : Int))), (7, .int (zI ((ed (T (1 + i)) (T 0) : Int) + (ed (T (1 + i)) (T (9 + 4 * i + (S 2 i - 1))) : Int))))]) hx hb dX8_merges_308 hl (q := 13) rfl (by decide) rfl (fun ls hl => ?_)
                    refine lv_goto (tgt := 76) hx hb dX8_merges_311 (by decide) ?_
                    have f147 : C139 88 0 = some (gJ Z 12 K21) := ((hf146 88 0 (by omega)).trans h88l)
                    have f148 : C139 90 0 = some (gJ Z 12 G) := ((hf146 90 0 (by omega)).trans h90l)
                    exact ih76 (k + 1) (k + 1) ((T 0).length + 1) ((T (9 + 4 * i + (S 2 i - 1))).length + 1) (acc ++ seg (T (9 + 4 * i + (S 2 i - 1))) ir (T (9 + 4 * i + (S 2 i - 1))).length) _ _ _ _ (by omega) (mgw_last hw (by omega) (by rw [show (T (1 + i)).length = k by omega]; exact (mrow_1 h_238))) ⟨by omega, fun _ => by omega, (by simp only [List.length_append]; rw [seg_len (by omega)]; omega)⟩ (fun k1 p1 z1 z2 => by have := (kt_lt _ _ _ _ z2).1; omega) (fun k1 p1 z1 z2 => by have := (kt_lt _ _ _ _ z2).1; omega) hm143 (fun y9 hy9 => (ho144 y9 hy9).trans (hFo y9 hy9))  h142 h145 f147 f148 (hs7.kept (((hf146 87 0 (by omega)).trans rfl))) (hs9.kept (((hf146 89 0 (by omega)).trans rfl))) (fun k' i' h => ((hf146 k' i' (by omega)).trans (hfl k' i' h))) hW hS _ (lv_sub hl [9, 10, 11, 12, 3, 2, 1, 13, 0] rfl)
                  · refine lv_iload hx hb dX8_merges_241 (lv_at hl 0 rfl) ?_
                    refine z_if_ne (tgt := 248) hx hb dX8_merges_243 (by decide) (⟨by omega, by omega⟩) (fun h_243 => ?_) (fun h_243 => absurd h_243 (by omega))
                    refine lv_iload hx hb dX8_merges_248 (lv_at hl 1 rfl) ?_
                    refine z_ifb_eq (tgt := 265) hx hb dX8_merges_250 (by decide) (fun h_250 => ?_) (fun h_250 => absurd h_250 (h_238))
                    refine lv_aload_n hx hb dX8_merges_265 rfl (lv_at hl 5 rfl) ?_
                    refine lv_iconst (v := zI (0)) hx hb dX8_merges_266 rfl ?_
                    refine lv_iload hx hb dX8_merges_267 (lv_at hl 10 rfl) ?_
                    refine lv_iload hx hb dX8_merges_269 (lv_at hl 3 rfl) ?_
                    refine g_cv (g_runV X (k_X8_adds (sa := 0) (be := im) (en := (T 0).length) (t := T 0) (acc := acc) h70l h71l hmac ((mtx.low hwf hmt hFo).2 _ (by omega)) (hwf.tx _) (by omega) (by omega) (by omega) (by omega)) (cwV 3 hts gX8_merges_X8_adds rfl rfl rfl ⟨rfl, ds_X8_adds⟩ ⟨Nat.le_of_ble_eq_true rfl, Nat.le_of_ble_eq_true rfl⟩) hW hS h70l rfl rfl hl.1 rfl (Nat.le_of_ble_eq_true rfl) dX8_merges_271 ⟨Nat.le_of_ble_eq_true rfl, Nat.le_of_ble_eq_true rfl⟩) hS (fun C149 H locs hp150 hW hS => ?_)
                    obtain ⟨⟨F151, h152, hm153, ho154⟩, h155, hf156⟩ := hp150
                    refine lv_iload hx hb dX8_merges_274 (lv_at hl 4 rfl) ?_
                    refine z_if_ne (tgt := 290) hx hb dX8_merges_276 (by decide) (⟨by omega, by omega⟩) (fun h_276 => ?_) (fun h_276 => absurd h_276 (by omega))
                    refine lv_iload hx hb dX8_merges_290 (lv_at hl 13 rfl) ?_
                    refine lv_iconst (v := zI (1)) hx hb dX8_merges_292 rfl ?_
                    refine z_iadd hx hb dX8_merges_293 ?_
                    refine lv_istore (lv' := [(4, .int (zI ((k : Int) + 1))), (13, .int (zI 1)), (12, .int (zI (if seg (T 0) im (T 0).length = seg (T (1 + i)) f k then 1 else 0))), (11, .int (zI ((T (9 + 4 * i + (S 2 i - 1))).length : Int))), (10, .int (zI ((T 0).length : Int))), (9, .int (zI 1)), (0, .ref (B 70 0)), (1, .int (zI (i : Int))), (2, .int (zI ((1 + i : Nat) : Int))), (3, .int (zI ((9 + 4 * i + (S 2 i - 1) : Nat) : Int))), (5, .int (zI (im : Int))), (6, .int (zI (ir : Int))), (7, .int (zI ((ed (T (1 + i)) (T 0) : Int) + (ed (T (1 + i)) (T (9 + 4 * i + (S 2 i - 1))) : Int)))), (8, .int (zI (k : Int)))]) hx hb dX8_merges_294 hl (by decide) rfl (fun ls hl => ?_)
                    refine lv_iload hx hb dX8_merges_296 (lv_at hl 4 rfl) ?_
                    refine lv_iconst (v := zI (1)) hx hb dX8_merges_298 rfl ?_
                    refine z_iadd hx hb dX8_merges_299 ?_
                    refine lv_istore (lv' := [(5, .int (zI (((T 0).length : Int) + 1))), (4, .int (zI ((k : Int) + 1))), (13, .int (zI 1)), (12, .int (zI (if seg (T 0) im (T 0).length = seg (T (1 + i)) f k then 1 else 0))), (11, .int (zI ((T (9 + 4 * i + (S 2 i - 1))).length : Int))), (10, .int (zI ((T 0).length : Int))), (9, .int (zI 1)), (0, .ref (B 70 0)), (1, .int (zI (i : Int))), (2, .int (zI ((1 + i : Nat) : Int))), (3, .int (zI ((9 + 4 * i + (S 2 i - 1) : Nat) : Int))), (6, .int (zI (ir : Int))), (7, .int (zI ((ed (T (1 + i)) (T 0) : Int) + (ed (T (1 + i)) (T (9 + 4 * i + (S 2 i - 1))) : Int)))), (8, .int (zI (k : Int)))]) hx hb dX8_merges_300 hl (by decide) rfl (fun ls hl => ?_)
                    refine lv_iload hx hb dX8_merges_302 (lv_at hl 4 rfl) ?_
                    refine lv_iconst (v := zI (1)) hx hb dX8_merges_304 rfl ?_
                    refine z_iadd hx hb dX8_merges_305 ?_
                    refine lv_istore (lv' := [(6, .int (zI (((T (9 + 4 * i + (S 2 i - 1))).length : Int) + 1))), (5, .int (zI (((T 0).length : Int) + 1))), (4, .int (zI ((k : Int) + 1))), (13, .int (zI 1)), (12, .int (zI (if seg (T 0) im (T 0).length = seg (T (1 + i)) f k then 1 else 0))), (11, .int (zI ((T (9 + 4 * i + (S 2 i - 1))).length : Int))), (10, .int (zI ((T 0).length : Int))), (9, .int (zI 1)), (0, .ref (B 70 0)), (1, .int (zI (i : Int))), (2, .int (zI ((1 + i : Nat) : Int))), (3, .int (zI ((9 + 4 * i + (S 2 i - 1) : Nat) : Int))), (7, .int (zI ((ed (T (1 + i)) (T 0) : Int) + (ed (T (1 + i)) (T (9 + 4 * i + (S 2 i - 1))) : Int)))), (8, .int (zI (k : Int)))]) hx hb dX8_merges_306 hl (by decide) rfl (fun ls hl => ?_)
                    refine z_iinc (lv' := [(8, .int (zI ((k : Int) + 1))), (6, .int (zI (((T (9 + 4 * i + (S 2 i - 1))).length : Int) + 1))), (5, .int (zI (((T 0).length : Int) + 1))), (4, .int (zI ((k : Int) + 1))), (13, .int (zI 1)), (12, .int (zI (if seg (T 0) im (T 0).length = seg (T (1 + i)) f k then 1 else 0))), (11, .int (zI ((T (9 + 4 * i + (S 2 i - 1))).length : Int))), (10, .int (zI ((T 0).length : Int))), (9, .int (zI 1)), (0, .ref (B 70 0)), (1, .int (zI (i : Int))), (2, .int (zI ((1 + i : Nat) : Int))), (3, .int (zI ((9 + 4 * i + (S 2 i - 1) : Nat) : Int))), (7, .int (zI ((ed (T (1 + i)) (T 0) : Int) + (ed (T (1 + i)) (T (9 + 4 * i + (S 2 i - 1))) : Int))))]) hx hb dX8_merges_308 hl (q := 13) rfl (by decide) rfl (fun ls hl => ?_)
                    refine lv_goto (tgt := 76) hx hb dX8_merges_311 (by decide) ?_
                    have f157 : C149 88 0 = some (gJ Z 12 K21) := ((hf156 88 0 (by omega)).trans h88l)
                    have f158 : C149 90 0 = some (gJ Z 12 G) := ((hf156 90 0 (by omega)).trans h90l)
                    exact ih76 (k + 1) (k + 1) ((T 0).length + 1) ((T (9 + 4 * i + (S 2 i - 1))).length + 1) (acc ++ seg (T 0) im (T 0).length) _ _ _ _ (by omega) (mgw_last hw (by omega) (by rw [show (T (1 + i)).length = k by omega]; exact (mrow_2 h_238 (Or.inl h_209)))) ⟨by omega, fun _ => by omega, (by simp only [List.length_append]; rw [seg_len (by omega)]; omega)⟩ (fun k1 p1 z1 z2 => by have := (kt_lt _ _ _ _ z2).1; omega) (fun k1 p1 z1 z2 => by have := (kt_lt _ _ _ _ z2).1; omega) hm153 (fun y9 hy9 => (ho154 y9 hy9).trans (hFo y9 hy9))  h152 h155 f157 f158 (hs7.kept (((hf156 87 0 (by omega)).trans rfl))) (hs9.kept (((hf156 89 0 (by omega)).trans rfl))) (fun k' i' h => ((hf156 k' i' (by omega)).trans (hfl k' i' h))) hW hS _ (lv_sub hl [9, 10, 11, 12, 3, 2, 1, 13, 0] rfl)
                · refine lv_aload_n hx hb dX8_merges_212 rfl (lv_at hl 4 rfl) ?_
                  refine lv_iload_n hx hb dX8_merges_213 rfl (lv_at hl 7 rfl) ?_
                  refine lv_iload hx hb dX8_merges_214 (lv_at hl 10 rfl) ?_
                  refine lv_iload hx hb dX8_merges_216 (lv_at hl 1 rfl) ?_
                  refine lv_iconst (v := zI (0)) hx hb dX8_merges_218 rfl ?_
                  refine lv_iload hx hb dX8_merges_219 (lv_at hl 9 rfl) ?_
                  refine lv_iload hx hb dX8_merges_221 (lv_at hl 2 rfl) ?_
                  refine g_ci (g_runV X (k_X8_isSame (FS := fun _ => 0) (sa := (9 + 4 * i + (S 2 i - 1))) (sb := 0) (be := ir) (en := (T (9 + 4 * i + (S 2 i - 1))).length) (fi := im) (la := (T 0).length) (t := T (9 + 4 * i + (S 2 i - 1))) (v := T 0) h70l h71l (hmtl.2 _ (by omega)) (hmtl.2 _ (by omega)) (hwf.tx _) (hwf.tx _) (hwf.tc _) (hwf.tc _) (by omega) (by omega) (by omega) (by omega) (by omega) (by omega)) (cwV 6 hts gX8_merges_X8_isSame rfl rfl rfl ⟨rfl, ds_X8_isSame⟩ ⟨Nat.le_of_ble_eq_true rfl, Nat.le_of_ble_eq_true rfl⟩) hW hS h70l rfl rfl hl.1 rfl (Nat.le_of_ble_eq_true rfl) dX8_merges_223 ⟨Nat.le_of_ble_eq_true rfl, Nat.le_of_ble_eq_true rfl⟩) hS (fun r161 C159 H locs hp160 hW hS => ?_)
                  obtain ⟨rfl, ehp160⟩ := hp160
                  rw [ehp160] at hW
                  refine z_ifb_eq (tgt := 233) hx hb dX8_merges_226 (by decide) (fun h_226 => ?_) (fun h_226 => ?_)
                  · refine lv_iconst (v := zI (0)) hx hb dX8_merges_233 rfl ?_
                    refine lv_istore (lv' := [(13, .int (zI 0)), (12, .int (zI (if seg (T 0) im (T 0).length = seg (T (1 + i)) f k then 1 else 0))), (11, .int (zI ((T (9 + 4 * i + (S 2 i - 1))).length : Int))), (10, .int (zI ((T 0).length : Int))), (9, .int (zI 1)), (0, .ref (B 70 0)), (1, .int (zI (i : Int))), (2, .int (zI ((1 + i : Nat) : Int))), (3, .int (zI ((9 + 4 * i + (S 2 i - 1) : Nat) : Int))), (4, .int (zI (f : Int))), (5, .int (zI (im : Int))), (6, .int (zI (ir : Int))), (7, .int (zI ((ed (T (1 + i)) (T 0) : Int) + (ed (T (1 + i)) (T (9 + 4 * i + (S 2 i - 1))) : Int)))), (8, .int (zI (k : Int)))]) hx hb dX8_merges_234 hl (by decide) rfl (fun ls hl => ?_)
                    refine lv_iload hx hb dX8_merges_236 (lv_at hl 1 rfl) ?_
                    refine z_ifb_ne (tgt := 248) hx hb dX8_merges_238 (by decide) (fun h_238 => ?_) (fun h_238 => ?_)
                    · refine lv_iload hx hb dX8_merges_248 (lv_at hl 1 rfl) ?_
                      refine z_ifb_eq (tgt := 265) hx hb dX8_merges_250 (by decide) (fun h_250 => absurd h_250 (not_not_intro h_238)) (fun h_250 => ?_)
                      refine lv_aload_n hx hb dX8_merges_253 rfl (lv_at hl 5 rfl) ?_
                      refine lv_iload_n hx hb dX8_merges_254 rfl (lv_at hl 8 rfl) ?_
                      refine lv_iload hx hb dX8_merges_255 (lv_at hl 11 rfl) ?_
                      refine lv_iload hx hb dX8_merges_257 (lv_at hl 2 rfl) ?_
                      refine g_cv (g_runV X (k_X8_adds (sa := (9 + 4 * i + (S 2 i - 1))) (be := ir) (en := (T (9 + 4 * i + (S 2 i - 1))).length) (t := T (9 + 4 * i + (S 2 i - 1))) (acc := acc) h70l h71l hmac ((mtx.low hwf hmt hFo).2 _ (by omega)) (hwf.tx _) (by omega) (by omega) (by omega) (by omega)) (cwV 3 hts gX8_merges_X8_adds rfl rfl rfl ⟨rfl, ds_X8_adds⟩ ⟨Nat.le_of_ble_eq_true rfl, Nat.le_of_ble_eq_true rfl⟩) hW hS h70l rfl rfl hl.1 rfl (Nat.le_of_ble_eq_true rfl) dX8_merges_259 ⟨Nat.le_of_ble_eq_true rfl, Nat.le_of_ble_eq_true rfl⟩) hS (fun C162 H locs hp163 hW hS => ?_)
                      obtain ⟨⟨F164, h165, hm166, ho167⟩, h168, hf169⟩ := hp163
                      refine lv_goto (tgt := 274) hx hb dX8_merges_262 (by decide) ?_
                      refine lv_iload hx hb dX8_merges_274 (lv_at hl 4 rfl) ?_
                      refine z_if_ne (tgt := 290) hx hb dX8_merges_276 (by decide) (⟨by omega, by omega⟩) (fun h_276 => ?_) (fun h_276 => absurd h_276 (by omega))
                      refine lv_iload hx hb dX8_merges_290 (lv_at hl 13 rfl) ?_
                      refine lv_iconst (v := zI (1)) hx hb dX8_merges_292 rfl ?_
                      refine z_iadd hx hb dX8_merges_293 ?_
                      refine lv_istore (lv' := [(4, .int (zI ((k : Int) + 1))), (13, .int (zI 0)), (12, .int (zI (if seg (T 0) im (T 0).length = seg (T (1 + i)) f k then 1 else 0))), (11, .int (zI ((T (9 + 4 * i + (S 2 i - 1))).length : Int))), (10, .int (zI ((T 0).length : Int))), (9, .int (zI 1)), (0, .ref (B 70 0)), (1, .int (zI (i : Int))), (2, .int (zI ((1 + i : Nat) : Int))), (3, .int (zI ((9 + 4 * i + (S 2 i - 1) : Nat) : Int))), (5, .int (zI (im : Int))), (6, .int (zI (ir : Int))), (7, .int (zI ((ed (T (1 + i)) (T 0) : Int) + (ed (T (1 + i)) (T (9 + 4 * i + (S 2 i - 1))) : Int)))), (8, .int (zI (k : Int)))]) hx hb dX8_merges_294 hl (by decide) rfl (fun ls hl => ?_)
                      refine lv_iload hx hb dX8_merges_296 (lv_at hl 4 rfl) ?_
                      refine lv_iconst (v := zI (1)) hx hb dX8_merges_298 rfl ?_
                      refine z_iadd hx hb dX8_merges_299 ?_
                      refine lv_istore (lv' := [(5, .int (zI (((T 0).length : Int) + 1))), (4, .int (zI ((k : Int) + 1))), (13, .int (zI 0)), (12, .int (zI (if seg (T 0) im (T 0).length = seg (T (1 + i)) f k then 1 else 0))), (11, .int (zI ((T (9 + 4 * i + (S 2 i - 1))).length : Int))), (10, .int (zI ((T 0).length : Int))), (9, .int (zI 1)), (0, .ref (B 70 0)), (1, .int (zI (i : Int))), (2, .int (zI ((1 + i : Nat) : Int))), (3, .int (zI ((9 + 4 * i + (S 2 i - 1) : Nat) : Int))), (6, .int (zI (ir : Int))), (7, .int (zI ((ed (T (1 + i)) (T 0) : Int) + (ed (T (1 + i)) (T (9 + 4 * i + (S 2 i - 1))) : Int)))), (8, .int (zI (k : Int)))]) hx hb dX8_merges_300 hl (by decide) rfl (fun ls hl => ?_)
                      refine lv_iload hx hb dX8_merges_302 (lv_at hl 4 rfl) ?_
                      refine lv_iconst (v := zI (1)) hx hb dX8_merges_304 rfl ?_
                      refine z_iadd hx hb dX8_merges_305 ?_
                      refine lv_istore (lv' := [(6, .int (zI (((T (9 + 4 * i + (S 2 i - 1))).length : Int) + 1))), (5, .int (zI (((T 0).length : Int) + 1))), (4, .int (zI ((k : Int) + 1))), (13, .int (zI 0)), (12, .int (zI (if seg (T 0) im (T 0).length = seg (T (1 + i)) f k then 1 else 0))), (11, .int (zI ((T (9 + 4 * i + (S 2 i - 1))).length : Int))), (10, .int (zI ((T 0).length : Int))), (9, .int (zI 1)), (0, .ref (B 70 0)), (1, .int (zI (i : Int))), (2, .int (zI ((1 + i : Nat) : Int))), (3, .int (zI ((9 + 4 * i + (S 2 i - 1) : Nat) : Int))), (7, .int (zI ((ed (T (1 + i)) (T 0) : Int) + (ed (T (1 + i)) (T (9 + 4 * i + (S 2 i - 1))) : Int)))), (8, .int (zI (k : Int)))]) hx hb dX8_merges_306 hl (by decide) rfl (fun ls hl => ?_)
                      refine z_iinc (lv' := [(8, .int (zI ((k : Int) + 1))), (6, .int (zI (((T (9 + 4 * i + (S 2 i - 1))).length : Int) + 1))), (5, .int (zI (((T 0).length : Int) + 1))), (4, .int (zI ((k : Int) + 1))), (13, .int (zI 0)), (12, .int (zI (if seg (T 0) im (T 0).length = seg (T (1 + i)) f k then 1 else 0))), (11, .int (zI ((T (9 + 4 * i + (S 2 i - 1))).length : Int))), (10, .int (zI ((T 0).length : Int))), (9, .int (zI 1)), (0, .ref (B 70 0)), (1, .int (zI (i : Int))), (2, .int (zI ((1 + i : Nat) : Int))), (3, .int (zI ((9 + 4 * i + (S 2 i - 1) : Nat) : Int))), (7, .int (zI ((ed (T (1 + i)) (T 0) : Int) + (ed (T (1 + i)) (T (9 + 4 * i + (S 2 i - 1))) : Int))))]) hx hb dX8_merges_308 hl (q := 13) rfl (by decide) rfl (fun ls hl => ?_)
                      refine lv_goto (tgt := 76) hx hb dX8_merges_311 (by decide) ?_
                      have f170 : C162 88 0 = some (gJ Z 12 K21) := ((hf169 88 0 (by omega)).trans h88l)
                      have f171 : C162 90 0 = some (gJ Z 12 G) := ((hf169 90 0 (by omega)).trans h90l)
                      exact ih76 (k + 1) (k + 1) ((T 0).length + 1) ((T (9 + 4 * i + (S 2 i - 1))).length + 1) (acc ++ seg (T (9 + 4 * i + (S 2 i - 1))) ir (T (9 + 4 * i + (S 2 i - 1))).length) _ _ _ _ (by omega) (mgw_last hw (by omega) (by rw [show (T (1 + i)).length = k by omega]; exact (mrow_1 h_238))) ⟨by omega, fun _ => by omega, (by simp only [List.length_append]; rw [seg_len (by omega)]; omega)⟩ (fun k1 p1 z1 z2 => by have := (kt_lt _ _ _ _ z2).1; omega) (fun k1 p1 z1 z2 => by have := (kt_lt _ _ _ _ z2).1; omega) hm166 (fun y9 hy9 => (ho167 y9 hy9).trans (hFo y9 hy9))  h165 h168 f170 f171 (hs7.kept (((hf169 87 0 (by omega)).trans rfl))) (hs9.kept (((hf169 89 0 (by omega)).trans rfl))) (fun k' i' h => ((hf169 k' i' (by omega)).trans (hfl k' i' h))) hW hS _ (lv_sub hl [9, 10, 11, 12, 3, 2, 1, 13, 0] rfl)
                    · refine lv_iload hx hb dX8_merges_241 (lv_at hl 0 rfl) ?_
                      refine z_if_ne (tgt := 248) hx hb dX8_merges_243 (by decide) (⟨by omega, by omega⟩) (fun h_243 => absurd h_243 (by omega)) (fun h_243 => ?_)
                      refine lv_iconst (v := zI (0)) hx hb dX8_merges_246 rfl ?_
                      exact kret _ _ _ _ _ _ _ _ (⟨Or.inr ⟨mgw_lbad hw (by omega) (by rw [show (T (1 + i)).length = k by omega]; exact (mrow_3 h_238 (fun z9 => z9.elim h_209 h_226))), rfl⟩, md.text hmd h70l h71l ((hfl 72 0 (by omega)).trans hm72) hmtl hs7 ⟨_, h88l⟩ hs9 ⟨_, h90l⟩ (fun k' z1 z2 => hfl k' 0 (by omega)), fun k' i' h => hfl k' i' (by omega)⟩) hW hS (Nat.le_of_ble_eq_true rfl) (Nat.le_of_ble_eq_true rfl) dX8_merges_247
                  · refine lv_iconst (v := zI (1)) hx hb dX8_merges_229 rfl ?_
                    refine lv_goto (tgt := 234) hx hb dX8_merges_230 (by decide) ?_
                    refine lv_istore (lv' := [(13, .int (zI 1)), (12, .int (zI (if seg (T 0) im (T 0).length = seg (T (1 + i)) f k then 1 else 0))), (11, .int (zI ((T (9 + 4 * i + (S 2 i - 1))).length : Int))), (10, .int (zI ((T 0).length : Int))), (9, .int (zI 1)), (0, .ref (B 70 0)), (1, .int (zI (i : Int))), (2, .int (zI ((1 + i : Nat) : Int))), (3, .int (zI ((9 + 4 * i + (S 2 i - 1) : Nat) : Int))), (4, .int (zI (f : Int))), (5, .int (zI (im : Int))), (6, .int (zI (ir : Int))), (7, .int (zI ((ed (T (1 + i)) (T 0) : Int) + (ed (T (1 + i)) (T (9 + 4 * i + (S 2 i - 1))) : Int)))), (8, .int (zI (k : Int)))]) hx hb dX8_merges_234 hl (by decide) rfl (fun ls hl => ?_)
                    refine lv_iload hx hb dX8_merges_236 (lv_at hl 1 rfl) ?_
                    refine z_ifb_ne (tgt := 248) hx hb dX8_merges_238 (by decide) (fun h_238 => ?_) (fun h_238 => ?_)
                    · refine lv_iload hx hb dX8_merges_248 (lv_at hl 1 rfl) ?_
                      refine z_ifb_eq (tgt := 265) hx hb dX8_merges_250 (by decide) (fun h_250 => absurd h_250 (not_not_intro h_238)) (fun h_250 => ?_)
                      refine lv_aload_n hx hb dX8_merges_253 rfl (lv_at hl 5 rfl) ?_
                      refine lv_iload_n hx hb dX8_merges_254 rfl (lv_at hl 8 rfl) ?_
                      refine lv_iload hx hb dX8_merges_255 (lv_at hl 11 rfl) ?_
                      refine lv_iload hx hb dX8_merges_257 (lv_at hl 2 rfl) ?_
                      refine g_cv (g_runV X (k_X8_adds (sa := (9 + 4 * i + (S 2 i - 1))) (be := ir) (en := (T (9 + 4 * i + (S 2 i - 1))).length) (t := T (9 + 4 * i + (S 2 i - 1))) (acc := acc) h70l h71l hmac ((mtx.low hwf hmt hFo).2 _ (by omega)) (hwf.tx _) (by omega) (by omega) (by omega) (by omega)) (cwV 3 hts gX8_merges_X8_adds rfl rfl rfl ⟨rfl, ds_X8_adds⟩ ⟨Nat.le_of_ble_eq_true rfl, Nat.le_of_ble_eq_true rfl⟩) hW hS h70l rfl rfl hl.1 rfl (Nat.le_of_ble_eq_true rfl) dX8_merges_259 ⟨Nat.le_of_ble_eq_true rfl, Nat.le_of_ble_eq_true rfl⟩) hS (fun C172 H locs hp173 hW hS => ?_)
                      obtain ⟨⟨F174, h175, hm176, ho177⟩, h178, hf179⟩ := hp173
                      refine lv_goto (tgt := 274) hx hb dX8_merges_262 (by decide) ?_
                      refine lv_iload hx hb dX8_merges_274 (lv_at hl 4 rfl) ?_
                      refine z_if_ne (tgt := 290) hx hb dX8_merges_276 (by decide) (⟨by omega, by omega⟩) (fun h_276 => ?_) (fun h_276 => absurd h_276 (by omega))
                      refine lv_iload hx hb dX8_merges_290 (lv_at hl 13 rfl) ?_
                      refine lv_iconst (v := zI (1)) hx hb dX8_merges_292 rfl ?_
                      refine z_iadd hx hb dX8_merges_293 ?_
                      refine lv_istore (lv' := [(4, .int (zI ((k : Int) + 1))), (13, .int (zI 1)), (12, .int (zI (if seg (T 0) im (T 0).length = seg (T (1 + i)) f k then 1 else 0))), (11, .int (zI ((T (9 + 4 * i + (S 2 i - 1))).length : Int))), (10, .int (zI ((T 0).length : Int))), (9, .int (zI 1)), (0, .ref (B 70 0)), (1, .int (zI (i : Int))), (2, .int (zI ((1 + i : Nat) : Int))), (3, .int (zI ((9 + 4 * i + (S 2 i - 1) : Nat) : Int))), (5, .int (zI (im : Int))), (6, .int (zI (ir : Int))), (7, .int (zI ((ed (T (1 + i)) (T 0) : Int) + (ed (T (1 + i)) (T (9 + 4 * i + (S 2 i - 1))) : Int)))), (8, .int (zI (k : Int)))]) hx hb dX8_merges_294 hl (by decide) rfl (fun ls hl => ?_)
                      refine lv_iload hx hb dX8_merges_296 (lv_at hl 4 rfl) ?_
                      refine lv_iconst (v := zI (1)) hx hb dX8_merges_298 rfl ?_
                      refine z_iadd hx hb dX8_merges_299 ?_
                      refine lv_istore (lv' := [(5, .int (zI (((T 0).length : Int) + 1))), (4, .int (zI ((k : Int) + 1))), (13, .int (zI 1)), (12, .int (zI (if seg (T 0) im (T 0).length = seg (T (1 + i)) f k then 1 else 0))), (11, .int (zI ((T (9 + 4 * i + (S 2 i - 1))).length : Int))), (10, .int (zI ((T 0).length : Int))), (9, .int (zI 1)), (0, .ref (B 70 0)), (1, .int (zI (i : Int))), (2, .int (zI ((1 + i : Nat) : Int))), (3, .int (zI ((9 + 4 * i + (S 2 i - 1) : Nat) : Int))), (6, .int (zI (ir : Int))), (7, .int (zI ((ed (T (1 + i)) (T 0) : Int) + (ed (T (1 + i)) (T (9 + 4 * i + (S 2 i - 1))) : Int)))), (8, .int (zI (k : Int)))]) hx hb dX8_merges_300 hl (by decide) rfl (fun ls hl => ?_)
                      refine lv_iload hx hb dX8_merges_302 (lv_at hl 4 rfl) ?_
                      refine lv_iconst (v := zI (1)) hx hb dX8_merges_304 rfl ?_
                      refine z_iadd hx hb dX8_merges_305 ?_
                      refine lv_istore (lv' := [(6, .int (zI (((T (9 + 4 * i + (S 2 i - 1))).length : Int) + 1))), (5, .int (zI (((T 0).length : Int) + 1))), (4, .int (zI ((k : Int) + 1))), (13, .int (zI 1)), (12, .int (zI (if seg (T 0) im (T 0).length = seg (T (1 + i)) f k then 1 else 0))), (11, .int (zI ((T (9 + 4 * i + (S 2 i - 1))).length : Int))), (10, .int (zI ((T 0).length : Int))), (9, .int (zI 1)), (0, .ref (B 70 0)), (1, .int (zI (i : Int))), (2, .int (zI ((1 + i : Nat) : Int))), (3, .int (zI ((9 + 4 * i + (S 2 i - 1) : Nat) : Int))), (7, .int (zI ((ed (T (1 + i)) (T 0) : Int) + (ed (T (1 + i)) (T (9 + 4 * i + (S 2 i - 1))) : Int)))), (8, .int (zI (k : Int)))]) hx hb dX8_merges_306 hl (by decide) rfl (fun ls hl => ?_)
                      refine z_iinc (lv' := [(8, .int (zI ((k : Int) + 1))), (6, .int (zI (((T (9 + 4 * i + (S 2 i - 1))).length : Int) + 1))), (5, .int (zI (((T 0).length : Int) + 1))), (4, .int (zI ((k : Int) + 1))), (13, .int (zI 1)), (12, .int (zI (if seg (T 0) im (T 0).length = seg (T (1 + i)) f k then 1 else 0))), (11, .int (zI ((T (9 + 4 * i + (S 2 i - 1))).length : Int))), (10, .int (zI ((T 0).length : Int))), (9, .int (zI 1)), (0, .ref (B 70 0)), (1, .int (zI (i : Int))), (2, .int (zI ((1 + i : Nat) : Int))), (3, .int (zI ((9 + 4 * i + (S 2 i - 1) : Nat) : Int))), (7, .int (zI ((ed (T (1 + i)) (T 0) : Int) + (ed (T (1 + i)) (T (9 + 4 * i + (S 2 i - 1))) : Int))))]) hx hb dX8_merges_308 hl (q := 13) rfl (by decide) rfl (fun ls hl => ?_)
                      refine lv_goto (tgt := 76) hx hb dX8_merges_311 (by decide) ?_
                      have f180 : C172 88 0 = some (gJ Z 12 K21) := ((hf179 88 0 (by omega)).trans h88l)
                      have f181 : C172 90 0 = some (gJ Z 12 G) := ((hf179 90 0 (by omega)).trans h90l)
                      exact ih76 (k + 1) (k + 1) ((T 0).length + 1) ((T (9 + 4 * i + (S 2 i - 1))).length + 1) (acc ++ seg (T (9 + 4 * i + (S 2 i - 1))) ir (T (9 + 4 * i + (S 2 i - 1))).length) _ _ _ _ (by omega) (mgw_last hw (by omega) (by rw [show (T (1 + i)).length = k by omega]; exact (mrow_1 h_238))) ⟨by omega, fun _ => by omega, (by simp only [List.length_append]; rw [seg_len (by omega)]; omega)⟩ (fun k1 p1 z1 z2 => by have := (kt_lt _ _ _ _ z2).1; omega) (fun k1 p1 z1 z2 => by have := (kt_lt _ _ _ _ z2).1; omega) hm176 (fun y9 hy9 => (ho177 y9 hy9).trans (hFo y9 hy9))  h175 h178 f180 f181 (hs7.kept (((hf179 87 0 (by omega)).trans rfl))) (hs9.kept (((hf179 89 0 (by omega)).trans rfl))) (fun k' i' h => ((hf179 k' i' (by omega)).trans (hfl k' i' h))) hW hS _ (lv_sub hl [9, 10, 11, 12, 3, 2, 1, 13, 0] rfl)
                    · refine lv_iload hx hb dX8_merges_241 (lv_at hl 0 rfl) ?_
                      refine z_if_ne (tgt := 248) hx hb dX8_merges_243 (by decide) (⟨by omega, by omega⟩) (fun h_243 => ?_) (fun h_243 => absurd h_243 (by omega))
                      refine lv_iload hx hb dX8_merges_248 (lv_at hl 1 rfl) ?_
                      refine z_ifb_eq (tgt := 265) hx hb dX8_merges_250 (by decide) (fun h_250 => ?_) (fun h_250 => absurd h_250 (h_238))
                      refine lv_aload_n hx hb dX8_merges_265 rfl (lv_at hl 5 rfl) ?_
                      refine lv_iconst (v := zI (0)) hx hb dX8_merges_266 rfl ?_
                      refine lv_iload hx hb dX8_merges_267 (lv_at hl 10 rfl) ?_
                      refine lv_iload hx hb dX8_merges_269 (lv_at hl 3 rfl) ?_
                      refine g_cv (g_runV X (k_X8_adds (sa := 0) (be := im) (en := (T 0).length) (t := T 0) (acc := acc) h70l h71l hmac ((mtx.low hwf hmt hFo).2 _ (by omega)) (hwf.tx _) (by omega) (by omega) (by omega) (by omega)) (cwV 3 hts gX8_merges_X8_adds rfl rfl rfl ⟨rfl, ds_X8_adds⟩ ⟨Nat.le_of_ble_eq_true rfl, Nat.le_of_ble_eq_true rfl⟩) hW hS h70l rfl rfl hl.1 rfl (Nat.le_of_ble_eq_true rfl) dX8_merges_271 ⟨Nat.le_of_ble_eq_true rfl, Nat.le_of_ble_eq_true rfl⟩) hS (fun C182 H locs hp183 hW hS => ?_)
                      obtain ⟨⟨F184, h185, hm186, ho187⟩, h188, hf189⟩ := hp183
                      refine lv_iload hx hb dX8_merges_274 (lv_at hl 4 rfl) ?_
                      refine z_if_ne (tgt := 290) hx hb dX8_merges_276 (by decide) (⟨by omega, by omega⟩) (fun h_276 => ?_) (fun h_276 => absurd h_276 (by omega))
                      refine lv_iload hx hb dX8_merges_290 (lv_at hl 13 rfl) ?_
                      refine lv_iconst (v := zI (1)) hx hb dX8_merges_292 rfl ?_
                      refine z_iadd hx hb dX8_merges_293 ?_
                      refine lv_istore (lv' := [(4, .int (zI ((k : Int) + 1))), (13, .int (zI 1)), (12, .int (zI (if seg (T 0) im (T 0).length = seg (T (1 + i)) f k then 1 else 0))), (11, .int (zI ((T (9 + 4 * i + (S 2 i - 1))).length : Int))), (10, .int (zI ((T 0).length : Int))), (9, .int (zI 1)), (0, .ref (B 70 0)), (1, .int (zI (i : Int))), (2, .int (zI ((1 + i : Nat) : Int))), (3, .int (zI ((9 + 4 * i + (S 2 i - 1) : Nat) : Int))), (5, .int (zI (im : Int))), (6, .int (zI (ir : Int))), (7, .int (zI ((ed (T (1 + i)) (T 0) : Int) + (ed (T (1 + i)) (T (9 + 4 * i + (S 2 i - 1))) : Int)))), (8, .int (zI (k : Int)))]) hx hb dX8_merges_294 hl (by decide) rfl (fun ls hl => ?_)
                      refine lv_iload hx hb dX8_merges_296 (lv_at hl 4 rfl) ?_
                      refine lv_iconst (v := zI (1)) hx hb dX8_merges_298 rfl ?_
                      refine z_iadd hx hb dX8_merges_299 ?_
                      refine lv_istore (lv' := [(5, .int (zI (((T 0).length : Int) + 1))), (4, .int (zI ((k : Int) + 1))), (13, .int (zI 1)), (12, .int (zI (if seg (T 0) im (T 0).length = seg (T (1 + i)) f k then 1 else 0))), (11, .int (zI ((T (9 + 4 * i + (S 2 i - 1))).length : Int))), (10, .int (zI ((T 0).length : Int))), (9, .int (zI 1)), (0, .ref (B 70 0)), (1, .int (zI (i : Int))), (2, .int (zI ((1 + i : Nat) : Int))), (3, .int (zI ((9 + 4 * i + (S 2 i - 1) : Nat) : Int))), (6, .int (zI (ir : Int))), (7, .int (zI ((ed (T (1 + i)) (T 0) : Int) + (ed (T (1 + i)) (T (9 + 4 * i + (S 2 i - 1))) : Int)))), (8, .int (zI (k : Int)))]) hx hb dX8_merges_300 hl (by decide) rfl (fun ls hl => ?_)
                      refine lv_iload hx hb dX8_merges_302 (lv_at hl 4 rfl) ?_
                      refine lv_iconst (v := zI (1)) hx hb dX8_merges_304 rfl ?_
                      refine z_iadd hx hb dX8_merges_305 ?_
                      refine lv_istore (lv' := [(6, .int (zI (((T (9 + 4 * i + (S 2 i - 1))).length : Int) + 1))), (5, .int (zI (((T 0).length : Int) + 1))), (4, .int (zI ((k : Int) + 1))), (13, .int (zI 1)), (12, .int (zI (if seg (T 0) im (T 0).length = seg (T (1 + i)) f k then 1 else 0))), (11, .int (zI ((T (9 + 4 * i + (S 2 i - 1))).length : Int))), (10, .int (zI ((T 0).length : Int))), (9, .int (zI 1)), (0, .ref (B 70 0)), (1, .int (zI (i : Int))), (2, .int (zI ((1 + i : Nat) : Int))), (3, .int (zI ((9 + 4 * i + (S 2 i - 1) : Nat) : Int))), (7, .int (zI ((ed (T (1 + i)) (T 0) : Int) + (ed (T (1 + i)) (T (9 + 4 * i + (S 2 i - 1))) : Int)))), (8, .int (zI (k : Int)))]) hx hb dX8_merges_306 hl (by decide) rfl (fun ls hl => ?_)
                      refine z_iinc (lv' := [(8, .int (zI ((k : Int) + 1))), (6, .int (zI (((T (9 + 4 * i + (S 2 i - 1))).length : Int) + 1))), (5, .int (zI (((T 0).length : Int) + 1))), (4, .int (zI ((k : Int) + 1))), (13, .int (zI 1)), (12, .int (zI (if seg (T 0) im (T 0).length = seg (T (1 + i)) f k then 1 else 0))), (11, .int (zI ((T (9 + 4 * i + (S 2 i - 1))).length : Int))), (10, .int (zI ((T 0).length : Int))), (9, .int (zI 1)), (0, .ref (B 70 0)), (1, .int (zI (i : Int))), (2, .int (zI ((1 + i : Nat) : Int))), (3, .int (zI ((9 + 4 * i + (S 2 i - 1) : Nat) : Int))), (7, .int (zI ((ed (T (1 + i)) (T 0) : Int) + (ed (T (1 + i)) (T (9 + 4 * i + (S 2 i - 1))) : Int))))]) hx hb dX8_merges_308 hl (q := 13) rfl (by decide) rfl (fun ls hl => ?_)
                      refine lv_goto (tgt := 76) hx hb dX8_merges_311 (by decide) ?_
                      have f190 : C182 88 0 = some (gJ Z 12 K21) := ((hf189 88 0 (by omega)).trans h88l)
                      have f191 : C182 90 0 = some (gJ Z 12 G) := ((hf189 90 0 (by omega)).trans h90l)
                      exact ih76 (k + 1) (k + 1) ((T 0).length + 1) ((T (9 + 4 * i + (S 2 i - 1))).length + 1) (acc ++ seg (T 0) im (T 0).length) _ _ _ _ (by omega) (mgw_last hw (by omega) (by rw [show (T (1 + i)).length = k by omega]; exact (mrow_2 h_238 (Or.inr h_226)))) ⟨by omega, fun _ => by omega, (by simp only [List.length_append]; rw [seg_len (by omega)]; omega)⟩ (fun k1 p1 z1 z2 => by have := (kt_lt _ _ _ _ z2).1; omega) (fun k1 p1 z1 z2 => by have := (kt_lt _ _ _ _ z2).1; omega) hm186 (fun y9 hy9 => (ho187 y9 hy9).trans (hFo y9 hy9))  h185 h188 f190 f191 (hs7.kept (((hf189 87 0 (by omega)).trans rfl))) (hs9.kept (((hf189 89 0 (by omega)).trans rfl))) (fun k' i' h => ((hf189 k' i' (by omega)).trans (hfl k' i' h))) hW hS _ (lv_sub hl [9, 10, 11, 12, 3, 2, 1, 13, 0] rfl)
        have f192 : C31 71 0 = some (gJ Z 312 F71) := ((hn33 71 0 (gk (by decide))).trans ((hf29 71 0 (by omega)).trans ((hfl 71 0 (by omega)).trans hm71)))
        have f193 : C31 88 0 = some (gJ Z 12 K21) := ((hn33 88 0 (gk (by decide))).trans hk22)
        have f194 : C31 90 0 = some (gJ Z 12 G) := ((hn33 90 0 (gk (by decide))).trans ((hf29 90 0 (by omega)).trans h90l))
        have f195 : C31 87 0 = some (gJ Z 169 R27) := ((hn33 87 0 (gk (by decide))).trans hr28)
        have f196 : C31 89 0 = some (gJ Z 12 M24) := ((hn33 89 0 (gk (by decide))).trans hm25)
        exact lp76 ((T (1 + i)).length + 2) 0 0 0 0 [] F71 _ _ _ (by omega) (mgw_0 _ _ _) ⟨by omega, fun _ => ⟨by omega, by omega⟩, by simp⟩ (fun k1 p1 _ _ => by omega) (fun k1 p1 _ _ => by omega) (mac_0 _) (fun y _ => rfl) f192 hs32 f193 f194 ⟨_, f195⟩ ⟨_, f196⟩ (fun k' i' h => ((hn33 k' i' (by omega)).trans ((hf29 k' i' (by omega)).trans (hfl k' i' (by omega))))) hW hS _ (lv_sub hl [2, 3, 4, 5, 6, 7, 8, 1, 0] rfl)
      · refine lv_aload_n hx hb dX8_merges_37 rfl (lv_at hl 0 rfl) ?_
        refine g_get (ci := 8) X in_X8_merges_8 rfl hW ((hfl 70 0 (by omega)).trans hm70) 24 (by decide) (hts _ (List.mem_of_getElem? (i := 1) rfl)) rfl dX8_merges_38 ?_
        refine lv_iload hx hb dX8_merges_41 (lv_at hl 8 rfl) ?_
        refine lv_aload_n hx hb dX8_merges_43 rfl (lv_at hl 0 rfl) ?_
        refine g_get (ci := 8) X in_X8_merges_8 rfl hW ((hfl 70 0 (by omega)).trans hm70) 22 (by decide) (hts _ (List.mem_of_getElem? (i := 2) rfl)) rfl dX8_merges_44 ?_
        refine lv_iload hx hb dX8_merges_47 (lv_at hl 8 rfl) ?_
        refine z_iald X hW h88l (by omega) (by omega) (by omega) dX8_merges_49 ?_
        refine z_iast X hW hS h90l (by omega) (by omega) (by omega) dX8_merges_50 (fun C197 H locs hs198 hn199 hW hS => ?_)
        refine z_iinc (lv' := [(8, .int (zI ((k : Int) + 1))), (0, .ref (B 70 0)), (1, .int (zI (i : Int))), (2, .int (zI ((1 + i : Nat) : Int))), (3, .int (zI ((9 + 4 * i + (S 2 i - 1) : Nat) : Int))), (4, .int (zI 0)), (5, .int (zI 0)), (6, .int (zI 0)), (7, .int (zI (ed (T (1 + i)) (T 0) : Int)))]) hx hb dX8_merges_51 hl (q := 8) rfl (by decide) rfl (fun ls hl => ?_)
        refine lv_goto (tgt := 30) hx hb dX8_merges_54 (by decide) ?_
        have f200 : C197 88 0 = some (gJ Z 12 K8) := ((hn199 88 0 (gk (by decide))).trans h88l)
        have f201 : C197 87 0 = some (gJ Z 169 R14) := ((hn199 87 0 (gk (by decide))).trans h87l)
        have f202 : C197 89 0 = some (gJ Z 12 M11) := ((hn199 89 0 (gk (by decide))).trans h89l)
        exact ih30 (k + 1) _ _ _ _ (by omega) (by omega) (fun q hq => by rw [show ((k : Int)).toNat = k by omega]; by_cases e9 : q = k; (rw [e9, ju_s]; exact hK1 k (by omega)); (rw [ju_n e9]; exact hG q (by omega))) f200 hs198 f201 f202 (fun k' i' h => (hn199 k' i' (by omega)).trans (hfl k' i' h)) hW hS _ (lv_sub hl [1, 2, 3, 4, 5, 6, 7, 8, 0] rfl)
  have f203 : C4 90 0 = some (gJ Z 12 F90) := ((hf16 90 0 (by omega)).trans hm90)
  exact lp30 13 0 F90 _ _ _ (by omega) (by omega) (fun q hq => by omega) hk9 f203 hr15 hm12 (fun k' i' h => (hf16 k' i' (by omega))) hW hS _ (lv_sub hl [7, 8, 6, 5, 4, 3, 2, 1, 0] rfl)
