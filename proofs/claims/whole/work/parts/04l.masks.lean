/-! THE REFERENCE'S CALLS THAT ASK -/
theorem cd_lines_0 {S : gS} {c r : Int} (h : cd_lines S c r = 0) : isC S c ∧ 0 ≤ r ∧ r < (S 2 c.toNat : Int) := by
  unfold cd_lines at h
  split at h
  · omega
  · split at h
    · omega
    · rename_i h1 h2
      exact ⟨Decidable.not_not.mp h1, Decidable.not_not.mp h2⟩
theorem cd_lineAt_n {S : gS} {T : gTx} {c r l : Int} (h : ¬ cd_lines S c r = 0) : cd_lineAt S T c r l = cd_lines S c r := by
  unfold cd_lineAt cd_lines at *
  split
  · rfl
  · rename_i h1
    rw [if_neg h1] at h
    split
    · rfl
    · rename_i h2
      rw [if_neg h2] at h
      exact absurd rfl h
theorem cd_lineAt_y {S : gS} {T : gTx} {c r l : Int} (h : cd_lines S c r = 0) : cd_lineAt S T c r l = if ¬ (0 ≤ l ∧ l < ((rdt T c.toNat r.toNat).length : Int)) then 2 else 0 := by
  have h0 := cd_lines_0 h
  unfold cd_lineAt
  rw [if_neg (fun z => z h0.1), if_neg (fun z => z h0.2)]
theorem cd_edits_1 {S : gS} {c a b : Int} (h : ¬ cd_lines S c a = 0) : cd_edits S c a b = cd_lines S c a := by
  unfold cd_edits cd_lines at *
  split
  · rfl
  · rename_i h1
    rw [if_neg h1] at h
    split
    · rename_i h2
      split
      · rfl
      · rename_i h3
        rw [if_neg h3] at h
        exact absurd rfl h
    · rename_i h2
      rw [if_neg (fun z => z (Decidable.not_not.mp h2).1)]
theorem cd_edits_2 {S : gS} {c a b : Int} (h : cd_lines S c a = 0) : cd_edits S c a b = cd_lines S c b := by
  have h0 := cd_lines_0 h
  unfold cd_edits cd_lines
  have n1 : ¬ ¬ isC S c := fun z => z h0.1
  rw [if_neg n1, if_neg n1]
  by_cases q : 0 ≤ b ∧ b < (S 2 c.toNat : Int)
  · rw [if_neg (show ¬ ¬ ((0 ≤ a ∧ a < (S 2 c.toNat : Int)) ∧ 0 ≤ b ∧ b < (S 2 c.toNat : Int)) from fun z => z ⟨h0.2, q⟩), if_neg (show ¬ ¬ (0 ≤ b ∧ b < (S 2 c.toNat : Int)) from fun z => z q)]
  · rw [if_pos (show ¬ ((0 ≤ a ∧ a < (S 2 c.toNat : Int)) ∧ 0 ≤ b ∧ b < (S 2 c.toNat : Int)) from fun z => q z.2), if_pos q]
theorem enc_getD {o : Option Nat} (h : ¬ enc o < 0) : enc o = ((o.getD 0 : Nat) : Int) := by
  cases o with
  | none => exact absurd (by decide) h
  | some p => rfl
theorem ags_cases (S : gS) (T : gTx) (i : Nat) : ags S T i = 108 ∨ ags S T i = 114 ∨ ags S T i = 100 ∨ ags S T i = 99 ∨ ags S T i = 97 ∨ ags S T i = 109 ∨ ags S T i = 115 ∨ ags S T i = 0 := by
  unfold ags
  rcases rsn_cases S T i with h | h | h | h | h | h | h | h <;> rw [h] <;> decide
theorem ags_i2c (S : gS) (T : gTx) (i : Nat) : ((zI (ags S T i : Int)).toUInt32 % 65536).toInt32 = zI (ags S T i : Int) := by
  rcases ags_cases S T i with h | h | h | h | h | h | h | h <;> rw [h] <;> decide
theorem ags_nar (S : gS) (T : gTx) (i : Nat) : narrow .char (.int (zI (ags S T i : Int))) = .int (zI (ags S T i : Int)) := by
  rcases ags_cases S T i with h | h | h | h | h | h | h | h <;> rw [h] <;> rfl
theorem ags_z {S : gS} {T : gTx} {i : Nat} (h : ags S T i = 0) : rsn S T i = 32 := by
  unfold ags at h
  rcases rsn_cases S T i with e | e | e | e | e | e | e | e <;> rw [e] at h <;> first | exact e | exact absurd h (by decide)
theorem ags_nz {S : gS} {T : gTx} {i : Nat} (h : ¬ ags S T i = 0) : ¬ rsn S T i = 32 := fun z => h (ags_0 z)
theorem ags_r {S : gS} {T : gTx} {i : Nat} (h : ¬ ags S T i = 0) : ags S T i = rsn S T i := if_neg (ags_nz h)

theorem encp_r {o : Option Nat} (h : ∀ x, o = some x → x < 100) : zr (enc o) := by
  cases o with
  | none => exact ⟨by decide, by decide⟩
  | some p => have := h p rfl; simp only [enc]; exact ⟨by omega, by omega⟩
theorem encp_s {o : Option Nat} (h : 0 ≤ enc o) : ∃ x, o = some x := by
  cases o with
  | none => exact absurd h (by decide)
  | some p => exact ⟨p, rfl⟩

theorem fre_bit {S : gS} {T : gTx} {i u : Nat} (hu : u < 5) : (fre S T i).testBit u = frb S T i u := by
  rw [fre, mkb_t _ 5 (by omega) u hu]
  simp [hu]

theorem ds_X8_isRound : yX8_isRound.cls ≠ "java/lang/invoke/MethodHandle" ∧ yX8_isRound.cls ≠ "java/lang/invoke/VarHandle" ∧ (parseMethodDescriptor yX8_isRound.desc).map (fun d => d.parameters.length) = some 2 := by decide +kernel
theorem in_X8_isRound_8 : ∀ w ∈ wsX80, w ∈ wsX8_isRound := by decide +kernel
def rX8_isRound : Room := { frames := 2, cells := 0, slots := 0, locals := 43 }
set_option maxHeartbeats 4000000 in
set_option maxRecDepth 100000 in
theorem k_X8_isRound {l : Launch} {Z : gZ} {B : gB} {C0 : gC} {S : gS} {T : gTx} {th : Int} {cc a : Int} (hmd : md Z B C0 S T th) (hwf : wf S T) (rcc : zr cc) (ra : zr a) : Met l yX8_isRound wsX8_isRound rX8_isRound (gPc Z B C0 [.ref (B 70 0), .int (zI cc), .int (zI a)]) (gQi Z B (fun r C1 => r = zI (if cd_lines S cc a = 0 then 1 else 0) ∧ md Z B C1 S T (cd_lines S cc a : Int) ∧ fmd C0 C1)) 0 0 (gA Z) := by
  refine g_ofZ (cc := cX8_isRound) (maxL := 3) (by decide) rfl (Nat.le_of_ble_eq_true rfl) (fun r C1 h => by obtain ⟨h, -⟩ := h; rw [h]; split <;> rfl) ?_
  intro p e s m args below meth c Q X kret hW hS ls hl
  have hx := X.1.1
  have hb := X.1.2.1
  have hts := X.1.2.2.2.2
  have hl : lv_has ls 3 [(0, .ref (B 70 0)), (1, .int (zI cc)), (2, .int (zI a))] := hl
  obtain ⟨⟨mg, hm70⟩, ⟨F71, F72, hm71, hm72, hmt⟩, ⟨F73, hm73, ha73⟩, ⟨F74, hm74, ha74⟩, ⟨F75, hm75, ha75⟩, ⟨F76, hm76, ha76⟩, ⟨F77, hm77, ha77⟩, ⟨F78, hm78, ha78⟩, ⟨F79, hm79, ha79⟩, ⟨F80, hm80, ha80⟩, ⟨F81, hm81, ha81⟩, ⟨F82, hm82, ha82⟩, ⟨F83, hm83, ha83⟩, ⟨F84, hm84, ha84⟩, ⟨F85, hm85, ha85⟩, ⟨F86, hm86, ha86⟩, ⟨F87, hm87⟩, ⟨F88, hm88⟩, ⟨F89, hm89⟩, ⟨F90, hm90⟩⟩ := id hmd
  have hwn := hwf.n
  refine lv_aload_n hx hb dX8_isRound_0 rfl (lv_at hl 0 rfl) ?_
  refine lv_aload_n hx hb dX8_isRound_1 rfl (lv_at hl 0 rfl) ?_
  refine lv_iload_n hx hb dX8_isRound_2 rfl (lv_at hl 1 rfl) ?_
  refine g_ci (g_runV X (k_X8_isChange (a := cc) hmd hwf (rcc)) (cwV 1 hts gX8_isRound_X8_isChange rfl rfl rfl ⟨rfl, ds_X8_isChange⟩ ⟨Nat.le_of_ble_eq_true rfl, Nat.le_of_ble_eq_true rfl⟩) hW hS hm70 rfl rfl hl.1 rfl (Nat.le_of_ble_eq_true rfl) dX8_isRound_3 ⟨Nat.le_of_ble_eq_true rfl, Nat.le_of_ble_eq_true rfl⟩) hS (fun r3 C1 H locs hp2 hW hS => ?_)
  obtain ⟨rfl, ehp2⟩ := hp2
  rw [ehp2] at hW
  refine z_ifb_ne (tgt := 13) hx hb dX8_isRound_6 (by decide) (fun h_6 => ?_) (fun h_6 => ?_)
  · refine lv_iload_n hx hb dX8_isRound_13 rfl (lv_at hl 2 rfl) ?_
    refine lv_iconst (v := zI (0)) hx hb dX8_isRound_14 rfl ?_
    refine lv_aload_n hx hb dX8_isRound_15 rfl (lv_at hl 0 rfl) ?_
    refine g_get (ci := 8) X in_X8_isRound_8 rfl hW hm70 11 (by decide) (hts _ (List.mem_of_getElem? (i := 1) rfl)) rfl dX8_isRound_16 ?_
    refine lv_iload_n hx hb dX8_isRound_19 rfl (lv_at hl 1 rfl) ?_
    refine z_iald X hW hm77 (by omega) (by omega) (by omega) dX8_isRound_20 ?_
    rw [show F77 (cc).toNat = (S 2 cc.toNat : Int) from by rw [show (cc).toNat = cc.toNat by omega]; exact ha77 _ (by omega)]
    have hwi := hwf.ch (show cc.toNat < S 0 0 by omega)
    refine lv_iconst (v := zI (1)) hx hb dX8_isRound_21 rfl ?_
    refine z_isub hx hb dX8_isRound_22 ?_
    refine g_ci (g_runS X (k_X8_isIn (B := B) (C0 := C0) (x := a) (a := 0) (b := ((S 2 cc.toNat : Int) - 1)) (ra) (⟨by omega, by omega⟩) (⟨by omega, by omega⟩)) (va_cwS 3 hts gX8_isRound_X8_isIn rfl rfl rfl ds_X8_isIn ⟨Nat.le_of_ble_eq_true rfl, Nat.le_of_ble_eq_true rfl⟩) hW hS rfl hl.1 rfl (Nat.le_of_ble_eq_true rfl) dX8_isRound_23 ⟨Nat.le_of_ble_eq_true rfl, Nat.le_of_ble_eq_true rfl⟩) hS (fun r6 C4 H locs hp5 hW hS => ?_)
    obtain ⟨rfl, ehp5⟩ := hp5
    rw [ehp5] at hW
    refine z_ifb_ne (tgt := 33) hx hb dX8_isRound_26 (by decide) (fun h_26 => ?_) (fun h_26 => ?_)
    · refine lv_iconst (v := zI (0)) hx hb dX8_isRound_33 rfl ?_
      refine g_put (ci := 8) (ty := .int) X in_X8_isRound_8 tyX8 tyX8_ok nmX8 rfl hW hS hm70 0 (by decide) (hts _ (List.mem_of_getElem? (i := 2) rfl)) rfl (by decide +kernel) (rfl) (rfl) (Nat.le_of_ble_eq_true rfl) dX8_isRound_34 (fun C7 H locs hs8 hn9 hW hS => ?_)
      refine lv_aload_n hx hb dX8_isRound_37 rfl (lv_at hl 0 rfl) ?_
      refine g_get (ci := 8) X in_X8_isRound_8 rfl hW hs8 0 (by decide) (hts _ (List.mem_of_getElem? (i := 2) rfl)) rfl dX8_isRound_38 ?_
      refine z_if_ne (tgt := 48) hx hb dX8_isRound_41 (by decide) (⟨by omega, by omega⟩) (fun h_41 => absurd h_41 (by omega)) (fun h_41 => ?_)
      refine lv_iconst (v := zI (1)) hx hb dX8_isRound_44 rfl ?_
      refine lv_goto (tgt := 49) hx hb dX8_isRound_45 (by decide) ?_
      have hcd : cd_lines S cc a = 0 := by unfold cd_lines; rw [if_neg (fun z => z h_6), if_neg (by omega)]
      have hmd10 := md.thrown hmd hs8 (fun k' h1 h2 => ((hn9 (k') 0 (by omega)).trans rfl))
      exact kret _ _ _ _ _ _ _ _ (⟨by rw [hcd]; rfl, by rw [hcd]; exact hmd10, fun k' i' h => (hn9 k' i' (by omega))⟩) hW hS (Nat.le_of_ble_eq_true rfl) (Nat.le_of_ble_eq_true rfl) dX8_isRound_49
    · refine lv_iconst (v := zI (2)) hx hb dX8_isRound_29 rfl ?_
      refine lv_goto (tgt := 34) hx hb dX8_isRound_30 (by decide) ?_
      refine g_put (ci := 8) (ty := .int) X in_X8_isRound_8 tyX8 tyX8_ok nmX8 rfl hW hS hm70 0 (by decide) (hts _ (List.mem_of_getElem? (i := 2) rfl)) rfl (by decide +kernel) (rfl) (rfl) (Nat.le_of_ble_eq_true rfl) dX8_isRound_34 (fun C11 H locs hs12 hn13 hW hS => ?_)
      refine lv_aload_n hx hb dX8_isRound_37 rfl (lv_at hl 0 rfl) ?_
      refine g_get (ci := 8) X in_X8_isRound_8 rfl hW hs12 0 (by decide) (hts _ (List.mem_of_getElem? (i := 2) rfl)) rfl dX8_isRound_38 ?_
      refine z_if_ne (tgt := 48) hx hb dX8_isRound_41 (by decide) (⟨by omega, by omega⟩) (fun h_41 => ?_) (fun h_41 => absurd h_41 (by omega))
      refine lv_iconst (v := zI (0)) hx hb dX8_isRound_48 rfl ?_
      have hcd : cd_lines S cc a = 2 := by unfold cd_lines; rw [if_neg (fun z => z h_6), if_pos (by omega)]
      have hmd14 := md.thrown hmd hs12 (fun k' h1 h2 => ((hn13 (k') 0 (by omega)).trans rfl))
      exact kret _ _ _ _ _ _ _ _ (⟨by rw [hcd]; rfl, by rw [hcd]; exact hmd14, fun k' i' h => (hn13 k' i' (by omega))⟩) hW hS (Nat.le_of_ble_eq_true rfl) (Nat.le_of_ble_eq_true rfl) dX8_isRound_49
  · refine lv_iconst (v := zI (1)) hx hb dX8_isRound_9 rfl ?_
    refine lv_goto (tgt := 34) hx hb dX8_isRound_10 (by decide) ?_
    refine g_put (ci := 8) (ty := .int) X in_X8_isRound_8 tyX8 tyX8_ok nmX8 rfl hW hS hm70 0 (by decide) (hts _ (List.mem_of_getElem? (i := 2) rfl)) rfl (by decide +kernel) (rfl) (rfl) (Nat.le_of_ble_eq_true rfl) dX8_isRound_34 (fun C15 H locs hs16 hn17 hW hS => ?_)
    refine lv_aload_n hx hb dX8_isRound_37 rfl (lv_at hl 0 rfl) ?_
    refine g_get (ci := 8) X in_X8_isRound_8 rfl hW hs16 0 (by decide) (hts _ (List.mem_of_getElem? (i := 2) rfl)) rfl dX8_isRound_38 ?_
    refine z_if_ne (tgt := 48) hx hb dX8_isRound_41 (by decide) (⟨by omega, by omega⟩) (fun h_41 => ?_) (fun h_41 => absurd h_41 (by omega))
    refine lv_iconst (v := zI (0)) hx hb dX8_isRound_48 rfl ?_
    have hcd : cd_lines S cc a = 1 := by unfold cd_lines; rw [if_pos (h_6)]
    have hmd18 := md.thrown hmd hs16 (fun k' h1 h2 => ((hn17 (k') 0 (by omega)).trans rfl))
    exact kret _ _ _ _ _ _ _ _ (⟨by rw [hcd]; rfl, by rw [hcd]; exact hmd18, fun k' i' h => (hn17 k' i' (by omega))⟩) hW hS (Nat.le_of_ble_eq_true rfl) (Nat.le_of_ble_eq_true rfl) dX8_isRound_49

theorem ds_X8_lines : yX8_lines.cls ≠ "java/lang/invoke/MethodHandle" ∧ yX8_lines.cls ≠ "java/lang/invoke/VarHandle" ∧ (parseMethodDescriptor yX8_lines.desc).map (fun d => d.parameters.length) = some 2 := by decide +kernel
theorem in_X8_lines_8 : ∀ w ∈ wsX80, w ∈ wsX8_lines := by decide +kernel
def rX8_lines : Room := { frames := 3, cells := 0, slots := 0, locals := 65 }
set_option maxHeartbeats 4000000 in
set_option maxRecDepth 100000 in
theorem k_X8_lines {l : Launch} {Z : gZ} {B : gB} {C0 : gC} {S : gS} {T : gTx} {th : Int} {cc a : Int} (hmd : md Z B C0 S T th) (hwf : wf S T) (rcc : zr cc) (ra : zr a) : Met l yX8_lines wsX8_lines rX8_lines (gPc Z B C0 [.ref (B 70 0), .int (zI cc), .int (zI a)]) (gQi Z B (fun r C1 => (cd_lines S cc a = 0 → r = zI ((rdt T cc.toNat a.toNat).length : Int)) ∧ md Z B C1 S T (cd_lines S cc a : Int) ∧ fmd C0 C1)) 0 0 (gA Z) := by
  refine g_ofI (cc := cX8_lines) (maxL := 3) (by decide) rfl (Nat.le_of_ble_eq_true rfl) ?_
  intro p e s m args below meth c Q X kret hW hS ls hl
  have hx := X.1.1
  have hb := X.1.2.1
  have hts := X.1.2.2.2.2
  have hl : lv_has ls 3 [(0, .ref (B 70 0)), (1, .int (zI cc)), (2, .int (zI a))] := hl
  obtain ⟨⟨mg, hm70⟩, ⟨F71, F72, hm71, hm72, hmt⟩, ⟨F73, hm73, ha73⟩, ⟨F74, hm74, ha74⟩, ⟨F75, hm75, ha75⟩, ⟨F76, hm76, ha76⟩, ⟨F77, hm77, ha77⟩, ⟨F78, hm78, ha78⟩, ⟨F79, hm79, ha79⟩, ⟨F80, hm80, ha80⟩, ⟨F81, hm81, ha81⟩, ⟨F82, hm82, ha82⟩, ⟨F83, hm83, ha83⟩, ⟨F84, hm84, ha84⟩, ⟨F85, hm85, ha85⟩, ⟨F86, hm86, ha86⟩, ⟨F87, hm87⟩, ⟨F88, hm88⟩, ⟨F89, hm89⟩, ⟨F90, hm90⟩⟩ := id hmd
  have hwn := hwf.n
  refine lv_aload_n hx hb dX8_lines_0 rfl (lv_at hl 0 rfl) ?_
  refine lv_iload_n hx hb dX8_lines_1 rfl (lv_at hl 1 rfl) ?_
  refine lv_iload_n hx hb dX8_lines_2 rfl (lv_at hl 2 rfl) ?_
  refine g_ci (g_runV X (k_X8_isRound (cc := cc) (a := a) hmd hwf (rcc) (ra)) (cwV 2 hts gX8_lines_X8_isRound rfl rfl rfl ⟨rfl, ds_X8_isRound⟩ ⟨Nat.le_of_ble_eq_true rfl, Nat.le_of_ble_eq_true rfl⟩) hW hS hm70 rfl rfl hl.1 rfl (Nat.le_of_ble_eq_true rfl) dX8_lines_3 ⟨Nat.le_of_ble_eq_true rfl, Nat.le_of_ble_eq_true rfl⟩) hS (fun r3 C1 H locs hp2 hW hS => ?_)
  obtain ⟨e4, hmd5, hf6⟩ := hp2
  rw [e4]
  obtain ⟨⟨mgz5, hm70z5⟩, ⟨F71z5, F72z5, hm71z5, hm72z5, hmtz5⟩, ⟨F73z5, hm73z5, ha73z5⟩, ⟨F74z5, hm74z5, ha74z5⟩, ⟨F75z5, hm75z5, ha75z5⟩, ⟨F76z5, hm76z5, ha76z5⟩, ⟨F77z5, hm77z5, ha77z5⟩, ⟨F78z5, hm78z5, ha78z5⟩, ⟨F79z5, hm79z5, ha79z5⟩, ⟨F80z5, hm80z5, ha80z5⟩, ⟨F81z5, hm81z5, ha81z5⟩, ⟨F82z5, hm82z5, ha82z5⟩, ⟨F83z5, hm83z5, ha83z5⟩, ⟨F84z5, hm84z5, ha84z5⟩, ⟨F85z5, hm85z5, ha85z5⟩, ⟨F86z5, hm86z5, ha86z5⟩, ⟨F87z5, hm87z5⟩, ⟨F88z5, hm88z5⟩, ⟨F89z5, hm89z5⟩, ⟨F90z5, hm90z5⟩⟩ := id hmd5
  have hwnz5 := hwf.n
  refine z_ifb_eq (tgt := 22) hx hb dX8_lines_6 (by decide) (fun h_6 => ?_) (fun h_6 => ?_)
  · refine lv_iconst (v := zI (0)) hx hb dX8_lines_22 rfl ?_
    exact kret _ _ _ _ _ _ _ _ (⟨fun z9 => absurd z9 h_6, hmd5, fun k' i' h => (hf6 k' i' (by omega))⟩) hW hS (Nat.le_of_ble_eq_true rfl) (Nat.le_of_ble_eq_true rfl) dX8_lines_23
  · have hk0 := cd_lines_0 h_6
    have hwi := hwf.ch (show cc.toNat < S 0 0 by omega)
    refine lv_aload_n hx hb dX8_lines_9 rfl (lv_at hl 0 rfl) ?_
    refine g_get (ci := 8) X in_X8_lines_8 rfl hW hm70z5 6 (by decide) (hts _ (List.mem_of_getElem? (i := 1) rfl)) rfl dX8_lines_10 ?_
    refine lv_iload_n hx hb dX8_lines_13 rfl (lv_at hl 1 rfl) ?_
    refine lv_iload_n hx hb dX8_lines_14 rfl (lv_at hl 2 rfl) ?_
    refine g_ci (g_runS X (k_X8_slot (a := cc) (b := a)) (va_cwS 2 hts gX8_lines_X8_slot rfl rfl rfl ds_X8_slot ⟨Nat.le_of_ble_eq_true rfl, Nat.le_of_ble_eq_true rfl⟩) hW hS rfl hl.1 rfl (Nat.le_of_ble_eq_true rfl) dX8_lines_15 ⟨Nat.le_of_ble_eq_true rfl, Nat.le_of_ble_eq_true rfl⟩) hS (fun r9 C7 H locs hp8 hW hS => ?_)
    obtain ⟨rfl, ehp8⟩ := hp8
    rw [ehp8] at hW
    refine z_iald X hW hm72z5 (by omega) (by omega) (by omega) dX8_lines_18 ?_
    rw [show F72z5 (9 + 4 * cc + a).toNat = ((rdt T cc.toNat a.toNat).length : Int) from by rw [show (9 + 4 * cc + a).toNat = 9 + 4 * cc.toNat + a.toNat by omega]; exact hmtz5.1 _ (by omega)]
    refine lv_goto (tgt := 23) hx hb dX8_lines_19 (by decide) ?_
    exact kret _ _ _ _ _ _ _ _ (⟨fun _ => rfl, hmd5, fun k' i' h => (hf6 k' i' (by omega))⟩) hW hS (Nat.le_of_ble_eq_true rfl) (Nat.le_of_ble_eq_true rfl) dX8_lines_23

theorem ds_X8_lineAt : yX8_lineAt.cls ≠ "java/lang/invoke/MethodHandle" ∧ yX8_lineAt.cls ≠ "java/lang/invoke/VarHandle" ∧ (parseMethodDescriptor yX8_lineAt.desc).map (fun d => d.parameters.length) = some 3 := by decide +kernel
theorem in_X8_lineAt_8 : ∀ w ∈ wsX80, w ∈ wsX8_lineAt := by decide +kernel
def rX8_lineAt : Room := { frames := 3, cells := 0, slots := 0, locals := 65 }
set_option maxHeartbeats 4000000 in
set_option maxRecDepth 100000 in
theorem k_X8_lineAt {l : Launch} {Z : gZ} {B : gB} {C0 : gC} {S : gS} {T : gTx} {th : Int} {cc a b : Int} (hmd : md Z B C0 S T th) (hwf : wf S T) (rcc : zr cc) (ra : zr a) (rb : zr b) : Met l yX8_lineAt wsX8_lineAt rX8_lineAt (gPc Z B C0 [.ref (B 70 0), .int (zI cc), .int (zI a), .int (zI b)]) (gQi Z B (fun r C1 => (cd_lineAt S T cc a b = 0 → r = zI (ta (rdt T cc.toNat a.toNat) b)) ∧ md Z B C1 S T (cd_lineAt S T cc a b : Int) ∧ fmd C0 C1)) 0 0 (gA Z) := by
  refine g_ofI (cc := cX8_lineAt) (maxL := 4) (by decide) rfl (Nat.le_of_ble_eq_true rfl) ?_
  intro p e s m args below meth c Q X kret hW hS ls hl
  have hx := X.1.1
  have hb := X.1.2.1
  have hts := X.1.2.2.2.2
  have hl : lv_has ls 4 [(0, .ref (B 70 0)), (1, .int (zI cc)), (2, .int (zI a)), (3, .int (zI b))] := hl
  obtain ⟨⟨mg, hm70⟩, ⟨F71, F72, hm71, hm72, hmt⟩, ⟨F73, hm73, ha73⟩, ⟨F74, hm74, ha74⟩, ⟨F75, hm75, ha75⟩, ⟨F76, hm76, ha76⟩, ⟨F77, hm77, ha77⟩, ⟨F78, hm78, ha78⟩, ⟨F79, hm79, ha79⟩, ⟨F80, hm80, ha80⟩, ⟨F81, hm81, ha81⟩, ⟨F82, hm82, ha82⟩, ⟨F83, hm83, ha83⟩, ⟨F84, hm84, ha84⟩, ⟨F85, hm85, ha85⟩, ⟨F86, hm86, ha86⟩, ⟨F87, hm87⟩, ⟨F88, hm88⟩, ⟨F89, hm89⟩, ⟨F90, hm90⟩⟩ := id hmd
  have hwn := hwf.n
  refine lv_aload_n hx hb dX8_lineAt_0 rfl (lv_at hl 0 rfl) ?_
  refine lv_iload_n hx hb dX8_lineAt_1 rfl (lv_at hl 1 rfl) ?_
  refine lv_iload_n hx hb dX8_lineAt_2 rfl (lv_at hl 2 rfl) ?_
  refine g_ci (g_runV X (k_X8_isRound (cc := cc) (a := a) hmd hwf (rcc) (ra)) (cwV 2 hts gX8_lineAt_X8_isRound rfl rfl rfl ⟨rfl, ds_X8_isRound⟩ ⟨Nat.le_of_ble_eq_true rfl, Nat.le_of_ble_eq_true rfl⟩) hW hS hm70 rfl rfl hl.1 rfl (Nat.le_of_ble_eq_true rfl) dX8_lineAt_3 ⟨Nat.le_of_ble_eq_true rfl, Nat.le_of_ble_eq_true rfl⟩) hS (fun r3 C1 H locs hp2 hW hS => ?_)
  obtain ⟨e4, hmd5, hf6⟩ := hp2
  rw [e4]
  obtain ⟨⟨mgz5, hm70z5⟩, ⟨F71z5, F72z5, hm71z5, hm72z5, hmtz5⟩, ⟨F73z5, hm73z5, ha73z5⟩, ⟨F74z5, hm74z5, ha74z5⟩, ⟨F75z5, hm75z5, ha75z5⟩, ⟨F76z5, hm76z5, ha76z5⟩, ⟨F77z5, hm77z5, ha77z5⟩, ⟨F78z5, hm78z5, ha78z5⟩, ⟨F79z5, hm79z5, ha79z5⟩, ⟨F80z5, hm80z5, ha80z5⟩, ⟨F81z5, hm81z5, ha81z5⟩, ⟨F82z5, hm82z5, ha82z5⟩, ⟨F83z5, hm83z5, ha83z5⟩, ⟨F84z5, hm84z5, ha84z5⟩, ⟨F85z5, hm85z5, ha85z5⟩, ⟨F86z5, hm86z5, ha86z5⟩, ⟨F87z5, hm87z5⟩, ⟨F88z5, hm88z5⟩, ⟨F89z5, hm89z5⟩, ⟨F90z5, hm90z5⟩⟩ := id hmd5
  have hwnz5 := hwf.n
  refine z_ifb_ne (tgt := 11) hx hb dX8_lineAt_6 (by decide) (fun h_6 => ?_) (fun h_6 => ?_)
  · have hk0 := cd_lines_0 h_6
    have hwi := hwf.ch (show cc.toNat < S 0 0 by omega)
    have hrl : (rdt T cc.toNat a.toNat).length ≤ 12 := hwf.tx _
    refine lv_aload_n hx hb dX8_lineAt_11 rfl (lv_at hl 0 rfl) ?_
    refine lv_iload_n hx hb dX8_lineAt_12 rfl (lv_at hl 3 rfl) ?_
    refine lv_iconst (v := zI (0)) hx hb dX8_lineAt_13 rfl ?_
    refine lv_aload_n hx hb dX8_lineAt_14 rfl (lv_at hl 0 rfl) ?_
    refine g_get (ci := 8) X in_X8_lineAt_8 rfl hW hm70z5 6 (by decide) (hts _ (List.mem_of_getElem? (i := 1) rfl)) rfl dX8_lineAt_15 ?_
    refine lv_iload_n hx hb dX8_lineAt_18 rfl (lv_at hl 1 rfl) ?_
    refine lv_iload_n hx hb dX8_lineAt_19 rfl (lv_at hl 2 rfl) ?_
    refine g_ci (g_runS X (k_X8_slot (a := cc) (b := a)) (va_cwS 2 hts gX8_lineAt_X8_slot rfl rfl rfl ds_X8_slot ⟨Nat.le_of_ble_eq_true rfl, Nat.le_of_ble_eq_true rfl⟩) hW hS rfl hl.1 rfl (Nat.le_of_ble_eq_true rfl) dX8_lineAt_20 ⟨Nat.le_of_ble_eq_true rfl, Nat.le_of_ble_eq_true rfl⟩) hS (fun r9 C7 H locs hp8 hW hS => ?_)
    obtain ⟨rfl, ehp8⟩ := hp8
    rw [ehp8] at hW
    refine z_iald X hW hm72z5 (by omega) (by omega) (by omega) dX8_lineAt_23 ?_
    rw [show F72z5 (9 + 4 * cc + a).toNat = ((rdt T cc.toNat a.toNat).length : Int) from by rw [show (9 + 4 * cc + a).toNat = 9 + 4 * cc.toNat + a.toNat by omega]; exact hmtz5.1 _ (by omega)]
    refine lv_iconst (v := zI (1)) hx hb dX8_lineAt_24 rfl ?_
    refine z_isub hx hb dX8_lineAt_25 ?_
    refine g_ci (g_runS X (k_X8_isIn (B := B) (C0 := C1) (x := b) (a := 0) (b := (((rdt T cc.toNat a.toNat).length : Int) - 1)) (rb) (⟨by omega, by omega⟩) (⟨by omega, by omega⟩)) (va_cwS 3 hts gX8_lineAt_X8_isIn rfl rfl rfl ds_X8_isIn ⟨Nat.le_of_ble_eq_true rfl, Nat.le_of_ble_eq_true rfl⟩) hW hS rfl hl.1 rfl (Nat.le_of_ble_eq_true rfl) dX8_lineAt_26 ⟨Nat.le_of_ble_eq_true rfl, Nat.le_of_ble_eq_true rfl⟩) hS (fun r12 C10 H locs hp11 hW hS => ?_)
    obtain ⟨rfl, ehp11⟩ := hp11
    rw [ehp11] at hW
    refine z_ifb_eq (tgt := 36) hx hb dX8_lineAt_29 (by decide) (fun h_29 => ?_) (fun h_29 => ?_)
    · refine lv_iconst (v := zI (2)) hx hb dX8_lineAt_36 rfl ?_
      refine g_put (ci := 8) (ty := .int) X in_X8_lineAt_8 tyX8 tyX8_ok nmX8 rfl hW hS hm70z5 0 (by decide) (hts _ (List.mem_of_getElem? (i := 2) rfl)) rfl (by decide +kernel) (rfl) (rfl) (Nat.le_of_ble_eq_true rfl) dX8_lineAt_37 (fun C13 H locs hs14 hn15 hW hS => ?_)
      have hmd16 := md.thrown hmd5 hs14 (fun k' h1 h2 => ((hn15 (k') 0 (by omega)).trans rfl))
      refine lv_aload_n hx hb dX8_lineAt_40 rfl (lv_at hl 0 rfl) ?_
      refine g_get (ci := 8) X in_X8_lineAt_8 rfl hW hs14 0 (by decide) (hts _ (List.mem_of_getElem? (i := 2) rfl)) rfl dX8_lineAt_41 ?_
      refine z_if_ne (tgt := 60) hx hb dX8_lineAt_44 (by decide) (⟨by omega, by omega⟩) (fun h_44 => ?_) (fun h_44 => absurd h_44 (by omega))
      refine lv_iconst (v := zI (0)) hx hb dX8_lineAt_60 rfl ?_
      have hcd : cd_lineAt S T cc a b = 2 := by rw [cd_lineAt_y h_6, if_pos (by omega)]
      exact kret _ _ _ _ _ _ _ _ (⟨(fun z9 => by rw [hcd] at z9; cases z9), by rw [hcd]; exact hmd16, fun k' i' h => (hn15 k' i' (by omega)).trans ((hf6 k' i' (by omega)))⟩) hW hS (Nat.le_of_ble_eq_true rfl) (Nat.le_of_ble_eq_true rfl) dX8_lineAt_61
    · refine lv_iconst (v := zI (0)) hx hb dX8_lineAt_32 rfl ?_
      refine lv_goto (tgt := 37) hx hb dX8_lineAt_33 (by decide) ?_
      refine g_put (ci := 8) (ty := .int) X in_X8_lineAt_8 tyX8 tyX8_ok nmX8 rfl hW hS hm70z5 0 (by decide) (hts _ (List.mem_of_getElem? (i := 2) rfl)) rfl (by decide +kernel) (rfl) (rfl) (Nat.le_of_ble_eq_true rfl) dX8_lineAt_37 (fun C17 H locs hs18 hn19 hW hS => ?_)
      have hmd20 := md.thrown hmd5 hs18 (fun k' h1 h2 => ((hn19 (k') 0 (by omega)).trans rfl))
      refine lv_aload_n hx hb dX8_lineAt_40 rfl (lv_at hl 0 rfl) ?_
      refine g_get (ci := 8) X in_X8_lineAt_8 rfl hW hs18 0 (by decide) (hts _ (List.mem_of_getElem? (i := 2) rfl)) rfl dX8_lineAt_41 ?_
      refine z_if_ne (tgt := 60) hx hb dX8_lineAt_44 (by decide) (⟨by omega, by omega⟩) (fun h_44 => absurd h_44 (by omega)) (fun h_44 => ?_)
      refine lv_aload_n hx hb dX8_lineAt_47 rfl (lv_at hl 0 rfl) ?_
      refine lv_iload_n hx hb dX8_lineAt_48 rfl (lv_at hl 1 rfl) ?_
      refine lv_iload_n hx hb dX8_lineAt_49 rfl (lv_at hl 2 rfl) ?_
      refine g_ci (g_runS X (k_X8_slot (a := cc) (b := a)) (va_cwS 2 hts gX8_lineAt_X8_slot rfl rfl rfl ds_X8_slot ⟨Nat.le_of_ble_eq_true rfl, Nat.le_of_ble_eq_true rfl⟩) hW hS rfl hl.1 rfl (Nat.le_of_ble_eq_true rfl) dX8_lineAt_50 ⟨Nat.le_of_ble_eq_true rfl, Nat.le_of_ble_eq_true rfl⟩) hS (fun r23 C21 H locs hp22 hW hS => ?_)
      obtain ⟨rfl, ehp22⟩ := hp22
      rw [ehp22] at hW
      refine lv_iload_n hx hb dX8_lineAt_53 rfl (lv_at hl 3 rfl) ?_
      have f24 : C17 71 0 = some (gJ Z 312 F71z5) := ((hn19 71 0 (gk (by decide))).trans hm71z5)
      refine g_ci (g_runV X (k_X8_line (a := (9 + 4 * cc + a)) (b := b) hs18 f24 (⟨by omega, by omega⟩) (⟨by omega, by omega⟩)) (cwV 2 hts gX8_lineAt_X8_line rfl rfl rfl ⟨rfl, ds_X8_line⟩ ⟨Nat.le_of_ble_eq_true rfl, Nat.le_of_ble_eq_true rfl⟩) hW hS hs18 rfl rfl hl.1 rfl (Nat.le_of_ble_eq_true rfl) dX8_lineAt_54 ⟨Nat.le_of_ble_eq_true rfl, Nat.le_of_ble_eq_true rfl⟩) hS (fun r27 C25 H locs hp26 hW hS => ?_)
      obtain ⟨rfl, ehp26⟩ := hp26
      rw [ehp26] at hW
      rw [show F71z5 (12 * (9 + 4 * cc + a) + b).toNat = ta (rdt T cc.toNat a.toNat) b from by rw [show (12 * (9 + 4 * cc + a) + b).toNat = 12 * (9 + 4 * cc.toNat + a.toNat) + b.toNat by omega, hmtz5.2 (9 + 4 * cc.toNat + a.toNat) (by omega) b.toNat (show b.toNat < (rdt T cc.toNat a.toNat).length by omega), ta, if_pos (by omega)]]
      refine lv_goto (tgt := 61) hx hb dX8_lineAt_57 (by decide) ?_
      have hcd : cd_lineAt S T cc a b = 0 := by rw [cd_lineAt_y h_6, if_neg (by omega)]
      exact kret _ _ _ _ _ _ _ _ (⟨(fun _ => rfl), by rw [hcd]; exact hmd20, fun k' i' h => (hn19 k' i' (by omega)).trans ((hf6 k' i' (by omega)))⟩) hW hS (Nat.le_of_ble_eq_true rfl) (Nat.le_of_ble_eq_true rfl) dX8_lineAt_61
  · refine lv_iconst (v := zI (0)) hx hb dX8_lineAt_9 rfl ?_
    have hcd : cd_lineAt S T cc a b = cd_lines S cc a := cd_lineAt_n h_6
    exact kret _ _ _ _ _ _ _ _ (⟨(fun z9 => absurd (hcd.symm.trans z9) (h_6)), by rw [hcd]; exact hmd5, fun k' i' h => (hf6 k' i' (by omega))⟩) hW hS (Nat.le_of_ble_eq_true rfl) (Nat.le_of_ble_eq_true rfl) dX8_lineAt_10

theorem ds_X8_edits : yX8_edits.cls ≠ "java/lang/invoke/MethodHandle" ∧ yX8_edits.cls ≠ "java/lang/invoke/VarHandle" ∧ (parseMethodDescriptor yX8_edits.desc).map (fun d => d.parameters.length) = some 3 := by decide +kernel
def rX8_edits : Room := { frames := 3, cells := 0, slots := 0, locals := 65 }
set_option maxHeartbeats 4000000 in
set_option maxRecDepth 100000 in
theorem k_X8_edits {l : Launch} {Z : gZ} {B : gB} {C0 : gC} {S : gS} {T : gTx} {th : Int} {cc a b : Int} (hmd : md Z B C0 S T th) (hwf : wf S T) (rcc : zr cc) (ra : zr a) (rb : zr b) : Met l yX8_edits wsX8_edits rX8_edits (gPc Z B C0 [.ref (B 70 0), .int (zI cc), .int (zI a), .int (zI b)]) (gQi Z B (fun r C1 => (cd_edits S cc a b = 0 → r = zI (ed (rdt T cc.toNat a.toNat) (rdt T cc.toNat b.toNat) : Int)) ∧ md Z B C1 S T (cd_edits S cc a b : Int) ∧ fmd C0 C1)) 0 0 (gA Z) := by
  refine g_ofI (cc := cX8_edits) (maxL := 4) (by decide) rfl (Nat.le_of_ble_eq_true rfl) ?_
  intro p e s m args below meth c Q X kret hW hS ls hl
  have hx := X.1.1
  have hb := X.1.2.1
  have hts := X.1.2.2.2.2
  have hl : lv_has ls 4 [(0, .ref (B 70 0)), (1, .int (zI cc)), (2, .int (zI a)), (3, .int (zI b))] := hl
  obtain ⟨⟨mg, hm70⟩, ⟨F71, F72, hm71, hm72, hmt⟩, ⟨F73, hm73, ha73⟩, ⟨F74, hm74, ha74⟩, ⟨F75, hm75, ha75⟩, ⟨F76, hm76, ha76⟩, ⟨F77, hm77, ha77⟩, ⟨F78, hm78, ha78⟩, ⟨F79, hm79, ha79⟩, ⟨F80, hm80, ha80⟩, ⟨F81, hm81, ha81⟩, ⟨F82, hm82, ha82⟩, ⟨F83, hm83, ha83⟩, ⟨F84, hm84, ha84⟩, ⟨F85, hm85, ha85⟩, ⟨F86, hm86, ha86⟩, ⟨F87, hm87⟩, ⟨F88, hm88⟩, ⟨F89, hm89⟩, ⟨F90, hm90⟩⟩ := id hmd
  have hwn := hwf.n
  refine lv_aload_n hx hb dX8_edits_0 rfl (lv_at hl 0 rfl) ?_
  refine lv_iload_n hx hb dX8_edits_1 rfl (lv_at hl 1 rfl) ?_
  refine lv_iload_n hx hb dX8_edits_2 rfl (lv_at hl 2 rfl) ?_
  refine g_ci (g_runV X (k_X8_isRound (cc := cc) (a := a) hmd hwf (rcc) (ra)) (cwV 2 hts gX8_edits_X8_isRound rfl rfl rfl ⟨rfl, ds_X8_isRound⟩ ⟨Nat.le_of_ble_eq_true rfl, Nat.le_of_ble_eq_true rfl⟩) hW hS hm70 rfl rfl hl.1 rfl (Nat.le_of_ble_eq_true rfl) dX8_edits_3 ⟨Nat.le_of_ble_eq_true rfl, Nat.le_of_ble_eq_true rfl⟩) hS (fun r3 C1 H locs hp2 hW hS => ?_)
  obtain ⟨e4, hmd5, hf6⟩ := hp2
  rw [e4]
  obtain ⟨⟨mgz5, hm70z5⟩, ⟨F71z5, F72z5, hm71z5, hm72z5, hmtz5⟩, ⟨F73z5, hm73z5, ha73z5⟩, ⟨F74z5, hm74z5, ha74z5⟩, ⟨F75z5, hm75z5, ha75z5⟩, ⟨F76z5, hm76z5, ha76z5⟩, ⟨F77z5, hm77z5, ha77z5⟩, ⟨F78z5, hm78z5, ha78z5⟩, ⟨F79z5, hm79z5, ha79z5⟩, ⟨F80z5, hm80z5, ha80z5⟩, ⟨F81z5, hm81z5, ha81z5⟩, ⟨F82z5, hm82z5, ha82z5⟩, ⟨F83z5, hm83z5, ha83z5⟩, ⟨F84z5, hm84z5, ha84z5⟩, ⟨F85z5, hm85z5, ha85z5⟩, ⟨F86z5, hm86z5, ha86z5⟩, ⟨F87z5, hm87z5⟩, ⟨F88z5, hm88z5⟩, ⟨F89z5, hm89z5⟩, ⟨F90z5, hm90z5⟩⟩ := id hmd5
  have hwnz5 := hwf.n
  refine z_ifb_eq (tgt := 35) hx hb dX8_edits_6 (by decide) (fun h_6 => ?_) (fun h_6 => ?_)
  · refine lv_iconst (v := zI (0)) hx hb dX8_edits_35 rfl ?_
    have hcd : cd_edits S cc a b = cd_lines S cc a := cd_edits_1 h_6
    exact kret _ _ _ _ _ _ _ _ (⟨(fun z9 => absurd (hcd.symm.trans z9) (h_6)), by rw [hcd]; exact hmd5, fun k' i' h => (hf6 k' i' (by omega))⟩) hW hS (Nat.le_of_ble_eq_true rfl) (Nat.le_of_ble_eq_true rfl) dX8_edits_36
  · have hk0 := cd_lines_0 h_6
    have hwi := hwf.ch (show cc.toNat < S 0 0 by omega)
    refine lv_aload_n hx hb dX8_edits_9 rfl (lv_at hl 0 rfl) ?_
    refine lv_iload_n hx hb dX8_edits_10 rfl (lv_at hl 1 rfl) ?_
    refine lv_iload_n hx hb dX8_edits_11 rfl (lv_at hl 3 rfl) ?_
    refine g_ci (g_runV X (k_X8_isRound (cc := cc) (a := b) hmd5 hwf (rcc) (rb)) (cwV 2 hts gX8_edits_X8_isRound rfl rfl rfl ⟨rfl, ds_X8_isRound⟩ ⟨Nat.le_of_ble_eq_true rfl, Nat.le_of_ble_eq_true rfl⟩) hW hS hm70z5 rfl rfl hl.1 rfl (Nat.le_of_ble_eq_true rfl) dX8_edits_12 ⟨Nat.le_of_ble_eq_true rfl, Nat.le_of_ble_eq_true rfl⟩) hS (fun r9 C7 H locs hp8 hW hS => ?_)
    obtain ⟨e10, hmd11, hf12⟩ := hp8
    rw [e10]
    obtain ⟨⟨mgz11, hm70z11⟩, ⟨F71z11, F72z11, hm71z11, hm72z11, hmtz11⟩, ⟨F73z11, hm73z11, ha73z11⟩, ⟨F74z11, hm74z11, ha74z11⟩, ⟨F75z11, hm75z11, ha75z11⟩, ⟨F76z11, hm76z11, ha76z11⟩, ⟨F77z11, hm77z11, ha77z11⟩, ⟨F78z11, hm78z11, ha78z11⟩, ⟨F79z11, hm79z11, ha79z11⟩, ⟨F80z11, hm80z11, ha80z11⟩, ⟨F81z11, hm81z11, ha81z11⟩, ⟨F82z11, hm82z11, ha82z11⟩, ⟨F83z11, hm83z11, ha83z11⟩, ⟨F84z11, hm84z11, ha84z11⟩, ⟨F85z11, hm85z11, ha85z11⟩, ⟨F86z11, hm86z11, ha86z11⟩, ⟨F87z11, hm87z11⟩, ⟨F88z11, hm88z11⟩, ⟨F89z11, hm89z11⟩, ⟨F90z11, hm90z11⟩⟩ := id hmd11
    have hwnz11 := hwf.n
    refine z_ifb_eq (tgt := 35) hx hb dX8_edits_15 (by decide) (fun h_15 => ?_) (fun h_15 => ?_)
    · refine lv_iconst (v := zI (0)) hx hb dX8_edits_35 rfl ?_
      have hcd : cd_edits S cc a b = cd_lines S cc b := cd_edits_2 h_6
      exact kret _ _ _ _ _ _ _ _ (⟨(fun z9 => absurd (hcd.symm.trans z9) (h_15)), by rw [hcd]; exact hmd11, fun k' i' h => (hf12 k' i' (by omega)).trans ((hf6 k' i' (by omega)))⟩) hW hS (Nat.le_of_ble_eq_true rfl) (Nat.le_of_ble_eq_true rfl) dX8_edits_36
    · have hk1 := cd_lines_0 h_15
      refine lv_aload_n hx hb dX8_edits_18 rfl (lv_at hl 0 rfl) ?_
      refine lv_iload_n hx hb dX8_edits_19 rfl (lv_at hl 1 rfl) ?_
      refine lv_iload_n hx hb dX8_edits_20 rfl (lv_at hl 2 rfl) ?_
      refine g_ci (g_runS X (k_X8_slot (a := cc) (b := a)) (va_cwS 2 hts gX8_edits_X8_slot rfl rfl rfl ds_X8_slot ⟨Nat.le_of_ble_eq_true rfl, Nat.le_of_ble_eq_true rfl⟩) hW hS rfl hl.1 rfl (Nat.le_of_ble_eq_true rfl) dX8_edits_21 ⟨Nat.le_of_ble_eq_true rfl, Nat.le_of_ble_eq_true rfl⟩) hS (fun r15 C13 H locs hp14 hW hS => ?_)
      obtain ⟨rfl, ehp14⟩ := hp14
      rw [ehp14] at hW
      refine lv_iload_n hx hb dX8_edits_24 rfl (lv_at hl 1 rfl) ?_
      refine lv_iload_n hx hb dX8_edits_25 rfl (lv_at hl 3 rfl) ?_
      refine g_ci (g_runS X (k_X8_slot (a := cc) (b := b)) (va_cwS 2 hts gX8_edits_X8_slot rfl rfl rfl ds_X8_slot ⟨Nat.le_of_ble_eq_true rfl, Nat.le_of_ble_eq_true rfl⟩) hW hS rfl hl.1 rfl (Nat.le_of_ble_eq_true rfl) dX8_edits_26 ⟨Nat.le_of_ble_eq_true rfl, Nat.le_of_ble_eq_true rfl⟩) hS (fun r18 C16 H locs hp17 hW hS => ?_)
      obtain ⟨rfl, ehp17⟩ := hp17
      rw [ehp17] at hW
      rw [show zI (9 + 4 * cc + a) = zI (((9 + 4 * cc.toNat + a.toNat : Nat) : Nat) : Int) from congrArg zI (by omega)]
      rw [show zI (9 + 4 * cc + b) = zI (((9 + 4 * cc.toNat + b.toNat : Nat) : Nat) : Int) from congrArg zI (by omega)]
      refine g_ci (g_runV X (k_X8_scripts (sa := (9 + 4 * cc.toNat + a.toNat)) (sb := (9 + 4 * cc.toNat + b.toNat)) (A := T (9 + 4 * cc.toNat + a.toNat)) (D := T (9 + 4 * cc.toNat + b.toNat)) hm70z11 hm71z11 hm72z11 hm87z11 hm88z11 hm89z11 (hmtz11.1 _ (by omega)) (hmtz11.1 _ (by omega)) (hmtz11.2 _ (by omega)) (hmtz11.2 _ (by omega)) (hwf.tx _) (hwf.tx _) (hwf.tc _) (hwf.tc _) (by omega) (by omega)) (cwV 2 hts gX8_edits_X8_scripts rfl rfl rfl ⟨rfl, ds_X8_scripts⟩ ⟨Nat.le_of_ble_eq_true rfl, Nat.le_of_ble_eq_true rfl⟩) hW hS hm70z11 rfl rfl hl.1 rfl (Nat.le_of_ble_eq_true rfl) dX8_edits_29 ⟨Nat.le_of_ble_eq_true rfl, Nat.le_of_ble_eq_true rfl⟩) hS (fun r21 C19 H locs hp20 hW hS => ?_)
      obtain ⟨e22, ⟨⟨K23, hk24, hkv25⟩, ⟨M26, hm27, hmv28⟩⟩, ⟨R29, hr30⟩, hf31⟩ := hp20
      rw [e22]
      have hmd32 : md Z B C19 S T ((cd_lines S cc b : Nat) : Int) := md.work hmd11 ⟨_, hr30⟩ ⟨_, hk24⟩ ⟨_, hm27⟩ ((md.rows hmd11).kept (hf31 90 0 (by omega))) (fun k' z1 z2 => hf31 k' 0 (by omega))
      refine lv_goto (tgt := 36) hx hb dX8_edits_32 (by decide) ?_
      exact kret _ _ _ _ _ _ _ _ (⟨fun _ => rfl, by rw [cd_edits_2 h_6]; exact hmd32, fun k' i' h => (hf31 k' i' (by omega)).trans ((hf12 k' i' (by omega)).trans ((hf6 k' i' (by omega))))⟩) hW hS (Nat.le_of_ble_eq_true rfl) (Nat.le_of_ble_eq_true rfl) dX8_edits_36

theorem ds_X8_editsByWays : yX8_editsByWays.cls ≠ "java/lang/invoke/MethodHandle" ∧ yX8_editsByWays.cls ≠ "java/lang/invoke/VarHandle" ∧ (parseMethodDescriptor yX8_editsByWays.desc).map (fun d => d.parameters.length) = some 3 := by decide +kernel
def rX8_editsByWays : Room := { frames := 4, cells := 0, slots := 0, locals := 88 }
set_option maxHeartbeats 4000000 in
set_option maxRecDepth 100000 in
theorem k_X8_editsByWays {l : Launch} {Z : gZ} {B : gB} {C0 : gC} {S : gS} {T : gTx} {th : Int} {cc a b : Int} (hmd : md Z B C0 S T th) (hwf : wf S T) (rcc : zr cc) (ra : zr a) (rb : zr b) : Met l yX8_editsByWays wsX8_editsByWays rX8_editsByWays (gPc Z B C0 [.ref (B 70 0), .int (zI cc), .int (zI a), .int (zI b)]) (gQi Z B (fun r C1 => (cd_edits S cc a b = 0 → r = zI (ed (rdt T cc.toNat a.toNat) (rdt T cc.toNat b.toNat) : Int)) ∧ md Z B C1 S T (cd_edits S cc a b : Int) ∧ fmd C0 C1)) 0 0 (gA Z) := by
  refine g_ofI (cc := cX8_editsByWays) (maxL := 4) (by decide) rfl (Nat.le_of_ble_eq_true rfl) ?_
  intro p e s m args below meth c Q X kret hW hS ls hl
  have hx := X.1.1
  have hb := X.1.2.1
  have hts := X.1.2.2.2.2
  have hl : lv_has ls 4 [(0, .ref (B 70 0)), (1, .int (zI cc)), (2, .int (zI a)), (3, .int (zI b))] := hl
  obtain ⟨⟨mg, hm70⟩, ⟨F71, F72, hm71, hm72, hmt⟩, ⟨F73, hm73, ha73⟩, ⟨F74, hm74, ha74⟩, ⟨F75, hm75, ha75⟩, ⟨F76, hm76, ha76⟩, ⟨F77, hm77, ha77⟩, ⟨F78, hm78, ha78⟩, ⟨F79, hm79, ha79⟩, ⟨F80, hm80, ha80⟩, ⟨F81, hm81, ha81⟩, ⟨F82, hm82, ha82⟩, ⟨F83, hm83, ha83⟩, ⟨F84, hm84, ha84⟩, ⟨F85, hm85, ha85⟩, ⟨F86, hm86, ha86⟩, ⟨F87, hm87⟩, ⟨F88, hm88⟩, ⟨F89, hm89⟩, ⟨F90, hm90⟩⟩ := id hmd
  have hwn := hwf.n
  refine lv_aload_n hx hb dX8_editsByWays_0 rfl (lv_at hl 0 rfl) ?_
  refine lv_iload_n hx hb dX8_editsByWays_1 rfl (lv_at hl 1 rfl) ?_
  refine lv_iload_n hx hb dX8_editsByWays_2 rfl (lv_at hl 2 rfl) ?_
  refine lv_iload_n hx hb dX8_editsByWays_3 rfl (lv_at hl 3 rfl) ?_
  refine g_ci (g_runV X (k_X8_edits (cc := cc) (a := a) (b := b) hmd hwf rcc ra rb) (cwV 3 hts gX8_editsByWays_X8_edits rfl rfl rfl ⟨rfl, ds_X8_edits⟩ ⟨Nat.le_of_ble_eq_true rfl, Nat.le_of_ble_eq_true rfl⟩) hW hS hm70 rfl rfl hl.1 rfl (Nat.le_of_ble_eq_true rfl) dX8_editsByWays_4 ⟨Nat.le_of_ble_eq_true rfl, Nat.le_of_ble_eq_true rfl⟩) hS (fun r3 C1 H locs hp2 hW hS => ?_)
  obtain ⟨e4, hmd5, hf6⟩ := hp2
  obtain ⟨⟨mgz5, hm70z5⟩, ⟨F71z5, F72z5, hm71z5, hm72z5, hmtz5⟩, ⟨F73z5, hm73z5, ha73z5⟩, ⟨F74z5, hm74z5, ha74z5⟩, ⟨F75z5, hm75z5, ha75z5⟩, ⟨F76z5, hm76z5, ha76z5⟩, ⟨F77z5, hm77z5, ha77z5⟩, ⟨F78z5, hm78z5, ha78z5⟩, ⟨F79z5, hm79z5, ha79z5⟩, ⟨F80z5, hm80z5, ha80z5⟩, ⟨F81z5, hm81z5, ha81z5⟩, ⟨F82z5, hm82z5, ha82z5⟩, ⟨F83z5, hm83z5, ha83z5⟩, ⟨F84z5, hm84z5, ha84z5⟩, ⟨F85z5, hm85z5, ha85z5⟩, ⟨F86z5, hm86z5, ha86z5⟩, ⟨F87z5, hm87z5⟩, ⟨F88z5, hm88z5⟩, ⟨F89z5, hm89z5⟩, ⟨F90z5, hm90z5⟩⟩ := id hmd5
  have hwnz5 := hwf.n
  exact kret _ _ _ _ _ _ _ _ (⟨e4, hmd5, fun k' i' h => (hf6 k' i' (by omega))⟩) hW hS (Nat.le_of_ble_eq_true rfl) (Nat.le_of_ble_eq_true rfl) dX8_editsByWays_7

theorem ds_X8_ownerOf : yX8_ownerOf.cls ≠ "java/lang/invoke/MethodHandle" ∧ yX8_ownerOf.cls ≠ "java/lang/invoke/VarHandle" ∧ (parseMethodDescriptor yX8_ownerOf.desc).map (fun d => d.parameters.length) = some 1 := by decide +kernel
theorem in_X8_ownerOf_8 : ∀ w ∈ wsX80, w ∈ wsX8_ownerOf := by decide +kernel
def rX8_ownerOf : Room := { frames := 1, cells := 0, slots := 0, locals := 22 }
set_option maxHeartbeats 4000000 in
set_option maxRecDepth 100000 in
theorem k_X8_ownerOf {l : Launch} {Z : gZ} {B : gB} {C0 : gC} {S : gS} {T : gTx} {th : Int} {a : Int} (hmd : md Z B C0 S T th) (hwf : wf S T) (ra : zr a) : Met l yX8_ownerOf wsX8_ownerOf rX8_ownerOf (gPc Z B C0 [.ref (B 70 0), .int (zI a)]) (gQi Z B (fun r C1 => (cd_ownerOf S a = 0 → r = zI (ownf S a)) ∧ md Z B C1 S T (cd_ownerOf S a : Int) ∧ fmd C0 C1)) 0 0 (gA Z) := by
  refine g_ofI (cc := cX8_ownerOf) (maxL := 3) (by decide) rfl (Nat.le_of_ble_eq_true rfl) ?_
  intro p e s m args below meth c Q X kret hW hS ls hl
  have hx := X.1.1
  have hb := X.1.2.1
  have hts := X.1.2.2.2.2
  have hl : lv_has ls 3 [(0, .ref (B 70 0)), (1, .int (zI a))] := hl
  obtain ⟨⟨mg, hm70⟩, ⟨F71, F72, hm71, hm72, hmt⟩, ⟨F73, hm73, ha73⟩, ⟨F74, hm74, ha74⟩, ⟨F75, hm75, ha75⟩, ⟨F76, hm76, ha76⟩, ⟨F77, hm77, ha77⟩, ⟨F78, hm78, ha78⟩, ⟨F79, hm79, ha79⟩, ⟨F80, hm80, ha80⟩, ⟨F81, hm81, ha81⟩, ⟨F82, hm82, ha82⟩, ⟨F83, hm83, ha83⟩, ⟨F84, hm84, ha84⟩, ⟨F85, hm85, ha85⟩, ⟨F86, hm86, ha86⟩, ⟨F87, hm87⟩, ⟨F88, hm88⟩, ⟨F89, hm89⟩, ⟨F90, hm90⟩⟩ := id hmd
  have hwn := hwf.n
  refine lv_iload_n hx hb dX8_ownerOf_0 rfl (lv_at hl 1 rfl) ?_
  refine lv_iconst (v := zI (0)) hx hb dX8_ownerOf_1 rfl ?_
  refine lv_bipush (v := zI (99)) hx hb dX8_ownerOf_2 (by decide) ?_
  refine g_ci (g_runS X (k_X8_isIn (B := B) (C0 := C0) (x := a) (a := 0) (b := 99) (ra) (⟨by omega, by omega⟩) (⟨by omega, by omega⟩)) (va_cwS 3 hts gX8_ownerOf_X8_isIn rfl rfl rfl ds_X8_isIn ⟨Nat.le_of_ble_eq_true rfl, Nat.le_of_ble_eq_true rfl⟩) hW hS rfl hl.1 rfl (Nat.le_of_ble_eq_true rfl) dX8_ownerOf_4 ⟨Nat.le_of_ble_eq_true rfl, Nat.le_of_ble_eq_true rfl⟩) hS (fun r3 C1 H locs hp2 hW hS => ?_)
  obtain ⟨rfl, ehp2⟩ := hp2
  rw [ehp2] at hW
  refine z_ifb_ne (tgt := 16) hx hb dX8_ownerOf_7 (by decide) (fun h_7 => ?_) (fun h_7 => ?_)
  · refine lv_aload_n hx hb dX8_ownerOf_16 rfl (lv_at hl 0 rfl) ?_
    refine lv_iload_n hx hb dX8_ownerOf_17 rfl (lv_at hl 1 rfl) ?_
    refine g_ci (g_runV X (k_X8_ownerFor (x := a) hmd hwf (ra)) (cwV 1 hts gX8_ownerOf_X8_ownerFor rfl rfl rfl ⟨rfl, ds_X8_ownerFor⟩ ⟨Nat.le_of_ble_eq_true rfl, Nat.le_of_ble_eq_true rfl⟩) hW hS hm70 rfl rfl hl.1 rfl (Nat.le_of_ble_eq_true rfl) dX8_ownerOf_18 ⟨Nat.le_of_ble_eq_true rfl, Nat.le_of_ble_eq_true rfl⟩) hS (fun r6 C4 H locs hp5 hW hS => ?_)
    obtain ⟨rfl, ehp5⟩ := hp5
    rw [ehp5] at hW
    have hor : -1 ≤ ownf S a ∧ ownf S a < 5 := ownr_rng (S := S) (S 0 1) hwf.rg a
    refine lv_istore_n (lv' := [(2, .int (zI (ownf S a))), (0, .ref (B 70 0)), (1, .int (zI a))]) hx hb dX8_ownerOf_21 rfl hl (by decide) rfl (fun ls hl => ?_)
    refine lv_aload_n hx hb dX8_ownerOf_22 rfl (lv_at hl 1 rfl) ?_
    refine lv_iload_n hx hb dX8_ownerOf_23 rfl (lv_at hl 0 rfl) ?_
    refine z_if_ge (tgt := 31) hx hb dX8_ownerOf_24 (by decide) (⟨by omega, by omega⟩) (fun h_24 => ?_) (fun h_24 => ?_)
    · refine lv_iconst (v := zI (0)) hx hb dX8_ownerOf_31 rfl ?_
      refine g_put (ci := 8) (ty := .int) X in_X8_ownerOf_8 tyX8 tyX8_ok nmX8 rfl hW hS hm70 0 (by decide) (hts _ (List.mem_of_getElem? (i := 1) rfl)) rfl (by decide +kernel) (rfl) (rfl) (Nat.le_of_ble_eq_true rfl) dX8_ownerOf_32 (fun C7 H locs hs8 hn9 hW hS => ?_)
      refine lv_iload_n hx hb dX8_ownerOf_35 rfl (lv_at hl 0 rfl) ?_
      refine z_if_ge (tgt := 43) hx hb dX8_ownerOf_36 (by decide) (⟨by omega, by omega⟩) (fun h_36 => ?_) (fun h_36 => absurd h_36 (by omega))
      refine lv_iload_n hx hb dX8_ownerOf_43 rfl (lv_at hl 0 rfl) ?_
      have hcd : cd_ownerOf S a = 0 := by unfold cd_ownerOf; rw [if_neg (by omega), if_neg (by omega)]
      have hmd10 := md.thrown hmd hs8 (fun k' h1 h2 => ((hn9 (k') 0 (by omega)).trans rfl))
      exact kret _ _ _ _ _ _ _ _ (⟨(fun _ => rfl), by rw [hcd]; exact hmd10, fun k' i' h => (hn9 k' i' (by omega))⟩) hW hS (Nat.le_of_ble_eq_true rfl) (Nat.le_of_ble_eq_true rfl) dX8_ownerOf_44
    · refine lv_iconst (v := zI (2)) hx hb dX8_ownerOf_27 rfl ?_
      refine lv_goto (tgt := 32) hx hb dX8_ownerOf_28 (by decide) ?_
      refine g_put (ci := 8) (ty := .int) X in_X8_ownerOf_8 tyX8 tyX8_ok nmX8 rfl hW hS hm70 0 (by decide) (hts _ (List.mem_of_getElem? (i := 1) rfl)) rfl (by decide +kernel) (rfl) (rfl) (Nat.le_of_ble_eq_true rfl) dX8_ownerOf_32 (fun C11 H locs hs12 hn13 hW hS => ?_)
      refine lv_iload_n hx hb dX8_ownerOf_35 rfl (lv_at hl 0 rfl) ?_
      refine z_if_ge (tgt := 43) hx hb dX8_ownerOf_36 (by decide) (⟨by omega, by omega⟩) (fun h_36 => absurd h_36 (by omega)) (fun h_36 => ?_)
      refine lv_iconst (v := zI (0)) hx hb dX8_ownerOf_39 rfl ?_
      refine lv_goto (tgt := 44) hx hb dX8_ownerOf_40 (by decide) ?_
      have hcd : cd_ownerOf S a = 2 := by unfold cd_ownerOf; rw [if_neg (by omega), if_pos (by omega)]
      have hmd14 := md.thrown hmd hs12 (fun k' h1 h2 => ((hn13 (k') 0 (by omega)).trans rfl))
      exact kret _ _ _ _ _ _ _ _ (⟨(fun z9 => by rw [hcd] at z9; cases z9), by rw [hcd]; exact hmd14, fun k' i' h => (hn13 k' i' (by omega))⟩) hW hS (Nat.le_of_ble_eq_true rfl) (Nat.le_of_ble_eq_true rfl) dX8_ownerOf_44
  · refine lv_aload_n hx hb dX8_ownerOf_10 rfl (lv_at hl 0 rfl) ?_
    refine lv_iconst (v := zI (1)) hx hb dX8_ownerOf_11 rfl ?_
    refine g_ci (g_runV X (k_X8_fail (v := 1) hmd) (cwV 1 hts gX8_ownerOf_X8_fail rfl rfl rfl ⟨rfl, ds_X8_fail⟩ ⟨Nat.le_of_ble_eq_true rfl, Nat.le_of_ble_eq_true rfl⟩) hW hS hm70 rfl rfl hl.1 rfl (Nat.le_of_ble_eq_true rfl) dX8_ownerOf_12 ⟨Nat.le_of_ble_eq_true rfl, Nat.le_of_ble_eq_true rfl⟩) hS (fun r17 C15 H locs hp16 hW hS => ?_)
    obtain ⟨e18, hmd19, hf20⟩ := hp16
    rw [e18]
    obtain ⟨⟨mgz19, hm70z19⟩, ⟨F71z19, F72z19, hm71z19, hm72z19, hmtz19⟩, ⟨F73z19, hm73z19, ha73z19⟩, ⟨F74z19, hm74z19, ha74z19⟩, ⟨F75z19, hm75z19, ha75z19⟩, ⟨F76z19, hm76z19, ha76z19⟩, ⟨F77z19, hm77z19, ha77z19⟩, ⟨F78z19, hm78z19, ha78z19⟩, ⟨F79z19, hm79z19, ha79z19⟩, ⟨F80z19, hm80z19, ha80z19⟩, ⟨F81z19, hm81z19, ha81z19⟩, ⟨F82z19, hm82z19, ha82z19⟩, ⟨F83z19, hm83z19, ha83z19⟩, ⟨F84z19, hm84z19, ha84z19⟩, ⟨F85z19, hm85z19, ha85z19⟩, ⟨F86z19, hm86z19, ha86z19⟩, ⟨F87z19, hm87z19⟩, ⟨F88z19, hm88z19⟩, ⟨F89z19, hm89z19⟩, ⟨F90z19, hm90z19⟩⟩ := id hmd19
    have hwnz19 := hwf.n
    have hcd : cd_ownerOf S a = 1 := by unfold cd_ownerOf; rw [if_pos (by omega)]
    exact kret _ _ _ _ _ _ _ _ (⟨(fun z9 => by rw [hcd] at z9; cases z9), by rw [hcd]; exact hmd19, fun k' i' h => (hf20 k' i' (by omega))⟩) hW hS (Nat.le_of_ble_eq_true rfl) (Nat.le_of_ble_eq_true rfl) dX8_ownerOf_15

theorem ds_X8_needs : yX8_needs.cls ≠ "java/lang/invoke/MethodHandle" ∧ yX8_needs.cls ≠ "java/lang/invoke/VarHandle" ∧ (parseMethodDescriptor yX8_needs.desc).map (fun d => d.parameters.length) = some 2 := by decide +kernel
theorem in_X8_needs_8 : ∀ w ∈ wsX80, w ∈ wsX8_needs := by decide +kernel
def rX8_needs : Room := { frames := 4, cells := 0, slots := 0, locals := 95 }
set_option maxHeartbeats 4000000 in
set_option maxRecDepth 100000 in
theorem k_X8_needs {l : Launch} {Z : gZ} {B : gB} {C0 : gC} {S : gS} {T : gTx} {th : Int} {cc a : Int} (hmd : md Z B C0 S T th) (hwf : wf S T) (rcc : zr cc) (ra : zr a) : Met l yX8_needs wsX8_needs rX8_needs (gPc Z B C0 [.ref (B 70 0), .int (zI cc), .int (zI a)]) (gQi Z B (fun r C1 => (cd_CU S cc a = 0 → r = zI (if (nee S T cc.toNat).testBit a.toNat = true then 1 else 0)) ∧ md Z B C1 S T (cd_CU S cc a : Int) ∧ fmd C0 C1 ∧ (r = zI 0 ∨ r = zI 1))) 0 0 (gA Z) := by
  refine g_ofZ (cc := cX8_needs) (maxL := 3) (by decide) rfl (Nat.le_of_ble_eq_true rfl) (fun r C1 h => by rcases h.2.2.2 with h | h <;> rw [h] <;> rfl) ?_
  intro p e s m args below meth c Q X kret hW hS ls hl
  have hx := X.1.1
  have hb := X.1.2.1
  have hts := X.1.2.2.2.2
  have hl : lv_has ls 3 [(0, .ref (B 70 0)), (1, .int (zI cc)), (2, .int (zI a))] := hl
  obtain ⟨⟨mg, hm70⟩, ⟨F71, F72, hm71, hm72, hmt⟩, ⟨F73, hm73, ha73⟩, ⟨F74, hm74, ha74⟩, ⟨F75, hm75, ha75⟩, ⟨F76, hm76, ha76⟩, ⟨F77, hm77, ha77⟩, ⟨F78, hm78, ha78⟩, ⟨F79, hm79, ha79⟩, ⟨F80, hm80, ha80⟩, ⟨F81, hm81, ha81⟩, ⟨F82, hm82, ha82⟩, ⟨F83, hm83, ha83⟩, ⟨F84, hm84, ha84⟩, ⟨F85, hm85, ha85⟩, ⟨F86, hm86, ha86⟩, ⟨F87, hm87⟩, ⟨F88, hm88⟩, ⟨F89, hm89⟩, ⟨F90, hm90⟩⟩ := id hmd
  have hwn := hwf.n
  refine lv_aload_n hx hb dX8_needs_0 rfl (lv_at hl 0 rfl) ?_
  refine lv_aload_n hx hb dX8_needs_1 rfl (lv_at hl 0 rfl) ?_
  refine lv_iload_n hx hb dX8_needs_2 rfl (lv_at hl 1 rfl) ?_
  refine g_ci (g_runV X (k_X8_isChange (a := cc) hmd hwf (rcc)) (cwV 1 hts gX8_needs_X8_isChange rfl rfl rfl ⟨rfl, ds_X8_isChange⟩ ⟨Nat.le_of_ble_eq_true rfl, Nat.le_of_ble_eq_true rfl⟩) hW hS hm70 rfl rfl hl.1 rfl (Nat.le_of_ble_eq_true rfl) dX8_needs_3 ⟨Nat.le_of_ble_eq_true rfl, Nat.le_of_ble_eq_true rfl⟩) hS (fun r3 C1 H locs hp2 hW hS => ?_)
  obtain ⟨rfl, ehp2⟩ := hp2
  rw [ehp2] at hW
  refine z_ifb_eq (tgt := 20) hx hb dX8_needs_6 (by decide) (fun h_6 => ?_) (fun h_6 => ?_)
  · refine lv_iconst (v := zI (1)) hx hb dX8_needs_20 rfl ?_
    refine g_put (ci := 8) (ty := .int) X in_X8_needs_8 tyX8 tyX8_ok nmX8 rfl hW hS hm70 0 (by decide) (hts _ (List.mem_of_getElem? (i := 1) rfl)) rfl (by decide +kernel) (rfl) (rfl) (Nat.le_of_ble_eq_true rfl) dX8_needs_21 (fun C4 H locs hs5 hn6 hW hS => ?_)
    have hmd7 := md.thrown hmd hs5 (fun k' h1 h2 => ((hn6 (k') 0 (by omega)).trans rfl))
    refine lv_aload_n hx hb dX8_needs_24 rfl (lv_at hl 0 rfl) ?_
    refine g_get (ci := 8) X in_X8_needs_8 rfl hW hs5 0 (by decide) (hts _ (List.mem_of_getElem? (i := 1) rfl)) rfl dX8_needs_25 ?_
    refine z_if_ne (tgt := 44) hx hb dX8_needs_28 (by decide) (⟨by omega, by omega⟩) (fun h_28 => ?_) (fun h_28 => absurd h_28 (by omega))
    refine lv_iconst (v := zI (0)) hx hb dX8_needs_44 rfl ?_
    have hcd : cd_CU S cc a = 1 := by unfold cd_CU; rw [if_pos (fun z => h_6 z.1)]
    exact kret _ _ _ _ _ _ _ _ (⟨(fun z9 => by rw [hcd] at z9; cases z9), by rw [hcd]; exact hmd7, fun k' i' h => (hn6 k' i' (by omega)), Or.inl rfl⟩) hW hS (Nat.le_of_ble_eq_true rfl) (Nat.le_of_ble_eq_true rfl) dX8_needs_45
  · refine lv_iload_n hx hb dX8_needs_9 rfl (lv_at hl 2 rfl) ?_
    refine g_ci (g_runS X (k_X8_isUser (B := B) (C0 := C0) (a := a) (ra)) (va_cwS 1 hts gX8_needs_X8_isUser rfl rfl rfl ds_X8_isUser ⟨Nat.le_of_ble_eq_true rfl, Nat.le_of_ble_eq_true rfl⟩) hW hS rfl hl.1 rfl (Nat.le_of_ble_eq_true rfl) dX8_needs_10 ⟨Nat.le_of_ble_eq_true rfl, Nat.le_of_ble_eq_true rfl⟩) hS (fun r10 C8 H locs hp9 hW hS => ?_)
    obtain ⟨rfl, ehp9⟩ := hp9
    rw [ehp9] at hW
    refine z_ifb_eq (tgt := 20) hx hb dX8_needs_13 (by decide) (fun h_13 => ?_) (fun h_13 => ?_)
    · refine lv_iconst (v := zI (1)) hx hb dX8_needs_20 rfl ?_
      refine g_put (ci := 8) (ty := .int) X in_X8_needs_8 tyX8 tyX8_ok nmX8 rfl hW hS hm70 0 (by decide) (hts _ (List.mem_of_getElem? (i := 1) rfl)) rfl (by decide +kernel) (rfl) (rfl) (Nat.le_of_ble_eq_true rfl) dX8_needs_21 (fun C11 H locs hs12 hn13 hW hS => ?_)
      have hmd14 := md.thrown hmd hs12 (fun k' h1 h2 => ((hn13 (k') 0 (by omega)).trans rfl))
      refine lv_aload_n hx hb dX8_needs_24 rfl (lv_at hl 0 rfl) ?_
      refine g_get (ci := 8) X in_X8_needs_8 rfl hW hs12 0 (by decide) (hts _ (List.mem_of_getElem? (i := 1) rfl)) rfl dX8_needs_25 ?_
      refine z_if_ne (tgt := 44) hx hb dX8_needs_28 (by decide) (⟨by omega, by omega⟩) (fun h_28 => ?_) (fun h_28 => absurd h_28 (by omega))
      refine lv_iconst (v := zI (0)) hx hb dX8_needs_44 rfl ?_
      have hcd : cd_CU S cc a = 1 := by unfold cd_CU; rw [if_pos (fun z => h_13 z.2)]
      exact kret _ _ _ _ _ _ _ _ (⟨(fun z9 => by rw [hcd] at z9; cases z9), by rw [hcd]; exact hmd14, fun k' i' h => (hn13 k' i' (by omega)), Or.inl rfl⟩) hW hS (Nat.le_of_ble_eq_true rfl) (Nat.le_of_ble_eq_true rfl) dX8_needs_45
    · refine lv_iconst (v := zI (0)) hx hb dX8_needs_16 rfl ?_
      refine lv_goto (tgt := 21) hx hb dX8_needs_17 (by decide) ?_
      refine g_put (ci := 8) (ty := .int) X in_X8_needs_8 tyX8 tyX8_ok nmX8 rfl hW hS hm70 0 (by decide) (hts _ (List.mem_of_getElem? (i := 1) rfl)) rfl (by decide +kernel) (rfl) (rfl) (Nat.le_of_ble_eq_true rfl) dX8_needs_21 (fun C15 H locs hs16 hn17 hW hS => ?_)
      have hmd18 := md.thrown hmd hs16 (fun k' h1 h2 => ((hn17 (k') 0 (by omega)).trans rfl))
      refine lv_aload_n hx hb dX8_needs_24 rfl (lv_at hl 0 rfl) ?_
      refine g_get (ci := 8) X in_X8_needs_8 rfl hW hs16 0 (by decide) (hts _ (List.mem_of_getElem? (i := 1) rfl)) rfl dX8_needs_25 ?_
      refine z_if_ne (tgt := 44) hx hb dX8_needs_28 (by decide) (⟨by omega, by omega⟩) (fun h_28 => absurd h_28 (by omega)) (fun h_28 => ?_)
      refine lv_aload_n hx hb dX8_needs_31 rfl (lv_at hl 0 rfl) ?_
      refine lv_iload_n hx hb dX8_needs_32 rfl (lv_at hl 1 rfl) ?_
      refine lv_iload_n hx hb dX8_needs_33 rfl (lv_at hl 2 rfl) ?_
      rw [show zI cc = zI ((cc.toNat : Nat) : Int) from congrArg zI (by omega)]
      rw [show zI a = zI ((a.toNat : Nat) : Int) from congrArg zI (by omega)]
      refine g_ci (g_runV X (k_X8_isNeeded (i := (cc.toNat)) (u := (a.toNat)) hmd18 hwf (show cc.toNat < S 0 0 by omega) (by omega)) (cwV 2 hts gX8_needs_X8_isNeeded rfl rfl rfl ⟨rfl, ds_X8_isNeeded⟩ ⟨Nat.le_of_ble_eq_true rfl, Nat.le_of_ble_eq_true rfl⟩) hW hS hs16 rfl rfl hl.1 rfl (Nat.le_of_ble_eq_true rfl) dX8_needs_34 ⟨Nat.le_of_ble_eq_true rfl, Nat.le_of_ble_eq_true rfl⟩) hS (fun r21 C19 H locs hp20 hW hS => ?_)
      obtain ⟨e22, hmd23, hf24⟩ := hp20
      rw [e22]
      obtain ⟨⟨mgz23, hm70z23⟩, ⟨F71z23, F72z23, hm71z23, hm72z23, hmtz23⟩, ⟨F73z23, hm73z23, ha73z23⟩, ⟨F74z23, hm74z23, ha74z23⟩, ⟨F75z23, hm75z23, ha75z23⟩, ⟨F76z23, hm76z23, ha76z23⟩, ⟨F77z23, hm77z23, ha77z23⟩, ⟨F78z23, hm78z23, ha78z23⟩, ⟨F79z23, hm79z23, ha79z23⟩, ⟨F80z23, hm80z23, ha80z23⟩, ⟨F81z23, hm81z23, ha81z23⟩, ⟨F82z23, hm82z23, ha82z23⟩, ⟨F83z23, hm83z23, ha83z23⟩, ⟨F84z23, hm84z23, ha84z23⟩, ⟨F85z23, hm85z23, ha85z23⟩, ⟨F86z23, hm86z23, ha86z23⟩, ⟨F87z23, hm87z23⟩, ⟨F88z23, hm88z23⟩, ⟨F89z23, hm89z23⟩, ⟨F90z23, hm90z23⟩⟩ := id hmd23
      have hwnz23 := hwf.n
      refine z_ifb_eq (tgt := 44) hx hb dX8_needs_37 (by decide) (fun h_37 => ?_) (fun h_37 => ?_)
      · refine lv_iconst (v := zI (0)) hx hb dX8_needs_44 rfl ?_
        have hcd : cd_CU S cc a = 0 := by unfold cd_CU; rw [if_neg (fun z => z ⟨h_6, h_13⟩)]
        exact kret _ _ _ _ _ _ _ _ (⟨(fun _ => by rw [if_neg h_37]), by rw [hcd]; exact hmd23, fun k' i' h => (hf24 k' i' (by omega)).trans ((hn17 k' i' (by omega))), Or.inl rfl⟩) hW hS (Nat.le_of_ble_eq_true rfl) (Nat.le_of_ble_eq_true rfl) dX8_needs_45
      · refine lv_iconst (v := zI (1)) hx hb dX8_needs_40 rfl ?_
        refine lv_goto (tgt := 45) hx hb dX8_needs_41 (by decide) ?_
        have hcd : cd_CU S cc a = 0 := by unfold cd_CU; rw [if_neg (fun z => z ⟨h_6, h_13⟩)]
        exact kret _ _ _ _ _ _ _ _ (⟨(fun _ => by rw [if_pos h_37]), by rw [hcd]; exact hmd23, fun k' i' h => (hf24 k' i' (by omega)).trans ((hn17 k' i' (by omega))), Or.inr rfl⟩) hW hS (Nat.le_of_ble_eq_true rfl) (Nat.le_of_ble_eq_true rfl) dX8_needs_45

theorem ds_X8_isStale : yX8_isStale.cls ≠ "java/lang/invoke/MethodHandle" ∧ yX8_isStale.cls ≠ "java/lang/invoke/VarHandle" ∧ (parseMethodDescriptor yX8_isStale.desc).map (fun d => d.parameters.length) = some 2 := by decide +kernel
theorem in_X8_isStale_8 : ∀ w ∈ wsX80, w ∈ wsX8_isStale := by decide +kernel
def rX8_isStale : Room := { frames := 4, cells := 0, slots := 0, locals := 96 }
set_option maxHeartbeats 4000000 in
set_option maxRecDepth 100000 in
theorem k_X8_isStale {l : Launch} {Z : gZ} {B : gB} {C0 : gC} {S : gS} {T : gTx} {th : Int} {cc a : Int} (hmd : md Z B C0 S T th) (hwf : wf S T) (rcc : zr cc) (ra : zr a) : Met l yX8_isStale wsX8_isStale rX8_isStale (gPc Z B C0 [.ref (B 70 0), .int (zI cc), .int (zI a)]) (gQi Z B (fun r C1 => (cd_isStale S cc a = 0 → r = zI (if (fre S T cc.toNat).testBit a.toNat = true then 0 else 1)) ∧ md Z B C1 S T (cd_isStale S cc a : Int) ∧ fmd C0 C1 ∧ (r = zI 0 ∨ r = zI 1))) 0 0 (gA Z) := by
  refine g_ofZ (cc := cX8_isStale) (maxL := 3) (by decide) rfl (Nat.le_of_ble_eq_true rfl) (fun r C1 h => by rcases h.2.2.2 with h | h <;> rw [h] <;> rfl) ?_
  intro p e s m args below meth c Q X kret hW hS ls hl
  have hx := X.1.1
  have hb := X.1.2.1
  have hts := X.1.2.2.2.2
  have hl : lv_has ls 3 [(0, .ref (B 70 0)), (1, .int (zI cc)), (2, .int (zI a))] := hl
  obtain ⟨⟨mg, hm70⟩, ⟨F71, F72, hm71, hm72, hmt⟩, ⟨F73, hm73, ha73⟩, ⟨F74, hm74, ha74⟩, ⟨F75, hm75, ha75⟩, ⟨F76, hm76, ha76⟩, ⟨F77, hm77, ha77⟩, ⟨F78, hm78, ha78⟩, ⟨F79, hm79, ha79⟩, ⟨F80, hm80, ha80⟩, ⟨F81, hm81, ha81⟩, ⟨F82, hm82, ha82⟩, ⟨F83, hm83, ha83⟩, ⟨F84, hm84, ha84⟩, ⟨F85, hm85, ha85⟩, ⟨F86, hm86, ha86⟩, ⟨F87, hm87⟩, ⟨F88, hm88⟩, ⟨F89, hm89⟩, ⟨F90, hm90⟩⟩ := id hmd
  have hwn := hwf.n
  refine lv_aload_n hx hb dX8_isStale_0 rfl (lv_at hl 0 rfl) ?_
  refine lv_aload_n hx hb dX8_isStale_1 rfl (lv_at hl 0 rfl) ?_
  refine lv_iload_n hx hb dX8_isStale_2 rfl (lv_at hl 1 rfl) ?_
  refine g_ci (g_runV X (k_X8_isChange (a := cc) hmd hwf (rcc)) (cwV 1 hts gX8_isStale_X8_isChange rfl rfl rfl ⟨rfl, ds_X8_isChange⟩ ⟨Nat.le_of_ble_eq_true rfl, Nat.le_of_ble_eq_true rfl⟩) hW hS hm70 rfl rfl hl.1 rfl (Nat.le_of_ble_eq_true rfl) dX8_isStale_3 ⟨Nat.le_of_ble_eq_true rfl, Nat.le_of_ble_eq_true rfl⟩) hS (fun r3 C1 H locs hp2 hW hS => ?_)
  obtain ⟨rfl, ehp2⟩ := hp2
  rw [ehp2] at hW
  refine z_ifb_eq (tgt := 16) hx hb dX8_isStale_6 (by decide) (fun h_6 => ?_) (fun h_6 => ?_)
  · refine lv_iconst (v := zI (1)) hx hb dX8_isStale_16 rfl ?_
    refine lv_goto (tgt := 34) hx hb dX8_isStale_17 (by decide) ?_
    refine g_put (ci := 8) (ty := .int) X in_X8_isStale_8 tyX8 tyX8_ok nmX8 rfl hW hS hm70 0 (by decide) (hts _ (List.mem_of_getElem? (i := 1) rfl)) rfl (by decide +kernel) (rfl) (rfl) (Nat.le_of_ble_eq_true rfl) dX8_isStale_34 (fun C4 H locs hs5 hn6 hW hS => ?_)
    have hmd7 := md.thrown hmd hs5 (fun k' h1 h2 => ((hn6 (k') 0 (by omega)).trans rfl))
    refine lv_aload_n hx hb dX8_isStale_37 rfl (lv_at hl 0 rfl) ?_
    refine g_get (ci := 8) X in_X8_isStale_8 rfl hW hs5 0 (by decide) (hts _ (List.mem_of_getElem? (i := 1) rfl)) rfl dX8_isStale_38 ?_
    refine z_if_ne (tgt := 57) hx hb dX8_isStale_41 (by decide) (⟨by omega, by omega⟩) (fun h_41 => ?_) (fun h_41 => absurd h_41 (by omega))
    refine lv_iconst (v := zI (0)) hx hb dX8_isStale_57 rfl ?_
    have hcd : cd_isStale S cc a = 1 := by unfold cd_isStale; rw [if_pos (fun z => h_6 z.1)]
    exact kret _ _ _ _ _ _ _ _ (⟨(fun z9 => by rw [hcd] at z9; cases z9), by rw [hcd]; exact hmd7, fun k' i' h => (hn6 k' i' (by omega)), Or.inl rfl⟩) hW hS (Nat.le_of_ble_eq_true rfl) (Nat.le_of_ble_eq_true rfl) dX8_isStale_58
  · refine lv_iload_n hx hb dX8_isStale_9 rfl (lv_at hl 2 rfl) ?_
    refine g_ci (g_runS X (k_X8_isUser (B := B) (C0 := C0) (a := a) (ra)) (va_cwS 1 hts gX8_isStale_X8_isUser rfl rfl rfl ds_X8_isUser ⟨Nat.le_of_ble_eq_true rfl, Nat.le_of_ble_eq_true rfl⟩) hW hS rfl hl.1 rfl (Nat.le_of_ble_eq_true rfl) dX8_isStale_10 ⟨Nat.le_of_ble_eq_true rfl, Nat.le_of_ble_eq_true rfl⟩) hS (fun r10 C8 H locs hp9 hW hS => ?_)
    obtain ⟨rfl, ehp9⟩ := hp9
    rw [ehp9] at hW
    refine z_ifb_ne (tgt := 20) hx hb dX8_isStale_13 (by decide) (fun h_13 => ?_) (fun h_13 => ?_)
    · refine lv_aload_n hx hb dX8_isStale_20 rfl (lv_at hl 0 rfl) ?_
      refine lv_iload_n hx hb dX8_isStale_21 rfl (lv_at hl 1 rfl) ?_
      refine lv_iload_n hx hb dX8_isStale_22 rfl (lv_at hl 2 rfl) ?_
      rw [show zI cc = zI ((cc.toNat : Nat) : Int) from congrArg zI (by omega)]
      rw [show zI a = zI ((a.toNat : Nat) : Int) from congrArg zI (by omega)]
      refine g_ci (g_runV X (k_X8_given (i := (cc.toNat)) (u := (a.toNat)) hmd hwf (show cc.toNat < S 0 0 by omega) (by omega)) (cwV 2 hts gX8_isStale_X8_given rfl rfl rfl ⟨rfl, ds_X8_given⟩ ⟨Nat.le_of_ble_eq_true rfl, Nat.le_of_ble_eq_true rfl⟩) hW hS hm70 rfl rfl hl.1 rfl (Nat.le_of_ble_eq_true rfl) dX8_isStale_23 ⟨Nat.le_of_ble_eq_true rfl, Nat.le_of_ble_eq_true rfl⟩) hS (fun r13 C11 H locs hp12 hW hS => ?_)
      obtain ⟨rfl, ehp12⟩ := hp12
      rw [ehp12] at hW
      have hwi := hwf.ch (show cc.toNat < S 0 0 by omega)
      have hw7 := hwi.2.2.2.2.2 a.toNat (by omega)
      refine z_if_ge (tgt := 33) hx hb dX8_isStale_26 (by decide) (⟨by omega, by omega⟩) (fun h_26 => ?_) (fun h_26 => ?_)
      · refine lv_iconst (v := zI (0)) hx hb dX8_isStale_33 rfl ?_
        refine g_put (ci := 8) (ty := .int) X in_X8_isStale_8 tyX8 tyX8_ok nmX8 rfl hW hS hm70 0 (by decide) (hts _ (List.mem_of_getElem? (i := 1) rfl)) rfl (by decide +kernel) (rfl) (rfl) (Nat.le_of_ble_eq_true rfl) dX8_isStale_34 (fun C14 H locs hs15 hn16 hW hS => ?_)
        have hmd17 := md.thrown hmd hs15 (fun k' h1 h2 => ((hn16 (k') 0 (by omega)).trans rfl))
        refine lv_aload_n hx hb dX8_isStale_37 rfl (lv_at hl 0 rfl) ?_
        refine g_get (ci := 8) X in_X8_isStale_8 rfl hW hs15 0 (by decide) (hts _ (List.mem_of_getElem? (i := 1) rfl)) rfl dX8_isStale_38 ?_
        refine z_if_ne (tgt := 57) hx hb dX8_isStale_41 (by decide) (⟨by omega, by omega⟩) (fun h_41 => absurd h_41 (by omega)) (fun h_41 => ?_)
        refine lv_aload_n hx hb dX8_isStale_44 rfl (lv_at hl 0 rfl) ?_
        refine lv_iload_n hx hb dX8_isStale_45 rfl (lv_at hl 1 rfl) ?_
        refine lv_iload_n hx hb dX8_isStale_46 rfl (lv_at hl 2 rfl) ?_
        rw [show zI cc = zI ((cc.toNat : Nat) : Int) from congrArg zI (by omega)]
        rw [show zI a = zI ((a.toNat : Nat) : Int) from congrArg zI (by omega)]
        refine g_ci (g_runV X (k_X8_isOld (i := (cc.toNat)) (u := (a.toNat)) hmd17 hwf (show cc.toNat < S 0 0 by omega) (by omega) (by omega)) (cwV 2 hts gX8_isStale_X8_isOld rfl rfl rfl ⟨rfl, ds_X8_isOld⟩ ⟨Nat.le_of_ble_eq_true rfl, Nat.le_of_ble_eq_true rfl⟩) hW hS hs15 rfl rfl hl.1 rfl (Nat.le_of_ble_eq_true rfl) dX8_isStale_47 ⟨Nat.le_of_ble_eq_true rfl, Nat.le_of_ble_eq_true rfl⟩) hS (fun r20 C18 H locs hp19 hW hS => ?_)
        obtain ⟨e21, hmd22, hf23⟩ := hp19
        rw [e21]
        obtain ⟨⟨mgz22, hm70z22⟩, ⟨F71z22, F72z22, hm71z22, hm72z22, hmtz22⟩, ⟨F73z22, hm73z22, ha73z22⟩, ⟨F74z22, hm74z22, ha74z22⟩, ⟨F75z22, hm75z22, ha75z22⟩, ⟨F76z22, hm76z22, ha76z22⟩, ⟨F77z22, hm77z22, ha77z22⟩, ⟨F78z22, hm78z22, ha78z22⟩, ⟨F79z22, hm79z22, ha79z22⟩, ⟨F80z22, hm80z22, ha80z22⟩, ⟨F81z22, hm81z22, ha81z22⟩, ⟨F82z22, hm82z22, ha82z22⟩, ⟨F83z22, hm83z22, ha83z22⟩, ⟨F84z22, hm84z22, ha84z22⟩, ⟨F85z22, hm85z22, ha85z22⟩, ⟨F86z22, hm86z22, ha86z22⟩, ⟨F87z22, hm87z22⟩, ⟨F88z22, hm88z22⟩, ⟨F89z22, hm89z22⟩, ⟨F90z22, hm90z22⟩⟩ := id hmd22
        have hwnz22 := hwf.n
        refine z_ifb_eq (tgt := 57) hx hb dX8_isStale_50 (by decide) (fun h_50 => ?_) (fun h_50 => ?_)
        · refine lv_iconst (v := zI (0)) hx hb dX8_isStale_57 rfl ?_
          have hcd : cd_isStale S cc a = 0 := by unfold cd_isStale; rw [if_neg (fun z => z ⟨h_6, h_13⟩), if_neg (by omega)]
          exact kret _ _ _ _ _ _ _ _ (⟨(fun _ => by rw [fre_bit (by omega), frb, decide_eq_true (show 1 ≤ S 7 (5 * cc.toNat + a.toNat) by omega), show old S T cc.toNat a.toNat (S 7 (5 * cc.toNat + a.toNat)) = false by simpa using h_50]; rfl), by rw [hcd]; exact hmd22, fun k' i' h => (hf23 k' i' (by omega)).trans ((hn16 k' i' (by omega))), Or.inl rfl⟩) hW hS (Nat.le_of_ble_eq_true rfl) (Nat.le_of_ble_eq_true rfl) dX8_isStale_58
        · refine lv_iconst (v := zI (1)) hx hb dX8_isStale_53 rfl ?_
          refine lv_goto (tgt := 58) hx hb dX8_isStale_54 (by decide) ?_
          have hcd : cd_isStale S cc a = 0 := by unfold cd_isStale; rw [if_neg (fun z => z ⟨h_6, h_13⟩), if_neg (by omega)]
          exact kret _ _ _ _ _ _ _ _ (⟨(fun _ => by rw [fre_bit (by omega), frb, decide_eq_true (show 1 ≤ S 7 (5 * cc.toNat + a.toNat) by omega), h_50]; rfl), by rw [hcd]; exact hmd22, fun k' i' h => (hf23 k' i' (by omega)).trans ((hn16 k' i' (by omega))), Or.inr rfl⟩) hW hS (Nat.le_of_ble_eq_true rfl) (Nat.le_of_ble_eq_true rfl) dX8_isStale_58
      · refine lv_iconst (v := zI (2)) hx hb dX8_isStale_29 rfl ?_
        refine lv_goto (tgt := 34) hx hb dX8_isStale_30 (by decide) ?_
        refine g_put (ci := 8) (ty := .int) X in_X8_isStale_8 tyX8 tyX8_ok nmX8 rfl hW hS hm70 0 (by decide) (hts _ (List.mem_of_getElem? (i := 1) rfl)) rfl (by decide +kernel) (rfl) (rfl) (Nat.le_of_ble_eq_true rfl) dX8_isStale_34 (fun C24 H locs hs25 hn26 hW hS => ?_)
        have hmd27 := md.thrown hmd hs25 (fun k' h1 h2 => ((hn26 (k') 0 (by omega)).trans rfl))
        refine lv_aload_n hx hb dX8_isStale_37 rfl (lv_at hl 0 rfl) ?_
        refine g_get (ci := 8) X in_X8_isStale_8 rfl hW hs25 0 (by decide) (hts _ (List.mem_of_getElem? (i := 1) rfl)) rfl dX8_isStale_38 ?_
        refine z_if_ne (tgt := 57) hx hb dX8_isStale_41 (by decide) (⟨by omega, by omega⟩) (fun h_41 => ?_) (fun h_41 => absurd h_41 (by omega))
        refine lv_iconst (v := zI (0)) hx hb dX8_isStale_57 rfl ?_
        have hcd : cd_isStale S cc a = 2 := by unfold cd_isStale; rw [if_neg (fun z => z ⟨h_6, h_13⟩), if_pos (by omega)]
        exact kret _ _ _ _ _ _ _ _ (⟨(fun z9 => by rw [hcd] at z9; cases z9), by rw [hcd]; exact hmd27, fun k' i' h => (hn26 k' i' (by omega)), Or.inl rfl⟩) hW hS (Nat.le_of_ble_eq_true rfl) (Nat.le_of_ble_eq_true rfl) dX8_isStale_58
    · refine lv_iconst (v := zI (1)) hx hb dX8_isStale_16 rfl ?_
      refine lv_goto (tgt := 34) hx hb dX8_isStale_17 (by decide) ?_
      refine g_put (ci := 8) (ty := .int) X in_X8_isStale_8 tyX8 tyX8_ok nmX8 rfl hW hS hm70 0 (by decide) (hts _ (List.mem_of_getElem? (i := 1) rfl)) rfl (by decide +kernel) (rfl) (rfl) (Nat.le_of_ble_eq_true rfl) dX8_isStale_34 (fun C28 H locs hs29 hn30 hW hS => ?_)
      have hmd31 := md.thrown hmd hs29 (fun k' h1 h2 => ((hn30 (k') 0 (by omega)).trans rfl))
      refine lv_aload_n hx hb dX8_isStale_37 rfl (lv_at hl 0 rfl) ?_
      refine g_get (ci := 8) X in_X8_isStale_8 rfl hW hs29 0 (by decide) (hts _ (List.mem_of_getElem? (i := 1) rfl)) rfl dX8_isStale_38 ?_
      refine z_if_ne (tgt := 57) hx hb dX8_isStale_41 (by decide) (⟨by omega, by omega⟩) (fun h_41 => ?_) (fun h_41 => absurd h_41 (by omega))
      refine lv_iconst (v := zI (0)) hx hb dX8_isStale_57 rfl ?_
      have hcd : cd_isStale S cc a = 1 := by unfold cd_isStale; rw [if_pos (fun z => h_13 z.2)]
      exact kret _ _ _ _ _ _ _ _ (⟨(fun z9 => by rw [hcd] at z9; cases z9), by rw [hcd]; exact hmd31, fun k' i' h => (hn30 k' i' (by omega)), Or.inl rfl⟩) hW hS (Nat.le_of_ble_eq_true rfl) (Nat.le_of_ble_eq_true rfl) dX8_isStale_58

theorem ds_X8_missingUser : yX8_missingUser.cls ≠ "java/lang/invoke/MethodHandle" ∧ yX8_missingUser.cls ≠ "java/lang/invoke/VarHandle" ∧ (parseMethodDescriptor yX8_missingUser.desc).map (fun d => d.parameters.length) = some 1 := by decide +kernel
theorem in_X8_missingUser_8 : ∀ w ∈ wsX80, w ∈ wsX8_missingUser := by decide +kernel
def rX8_missingUser : Room := { frames := 5, cells := 0, slots := 0, locals := 118 }
set_option maxHeartbeats 4000000 in
set_option maxRecDepth 100000 in
theorem k_X8_missingUser {l : Launch} {Z : gZ} {B : gB} {C0 : gC} {S : gS} {T : gTx} {th : Int} {cc : Int} (hmd : md Z B C0 S T th) (hwf : wf S T) (rcc : zr cc) : Met l yX8_missingUser wsX8_missingUser rX8_missingUser (gPc Z B C0 [.ref (B 70 0), .int (zI cc)]) (gQi Z B (fun r C1 => (cd_missing S T cc = 0 → r = zI (((mis S T cc.toNat).getD 0 : Nat) : Int)) ∧ md Z B C1 S T (cd_missing S T cc : Int) ∧ fmd C0 C1)) 0 0 (gA Z) := by
  refine g_ofI (cc := cX8_missingUser) (maxL := 3) (by decide) rfl (Nat.le_of_ble_eq_true rfl) ?_
  intro p e s m args below meth c Q X kret hW hS ls hl
  have hx := X.1.1
  have hb := X.1.2.1
  have hts := X.1.2.2.2.2
  have hl : lv_has ls 3 [(0, .ref (B 70 0)), (1, .int (zI cc))] := hl
  obtain ⟨⟨mg, hm70⟩, ⟨F71, F72, hm71, hm72, hmt⟩, ⟨F73, hm73, ha73⟩, ⟨F74, hm74, ha74⟩, ⟨F75, hm75, ha75⟩, ⟨F76, hm76, ha76⟩, ⟨F77, hm77, ha77⟩, ⟨F78, hm78, ha78⟩, ⟨F79, hm79, ha79⟩, ⟨F80, hm80, ha80⟩, ⟨F81, hm81, ha81⟩, ⟨F82, hm82, ha82⟩, ⟨F83, hm83, ha83⟩, ⟨F84, hm84, ha84⟩, ⟨F85, hm85, ha85⟩, ⟨F86, hm86, ha86⟩, ⟨F87, hm87⟩, ⟨F88, hm88⟩, ⟨F89, hm89⟩, ⟨F90, hm90⟩⟩ := id hmd
  have hwn := hwf.n
  refine lv_aload_n hx hb dX8_missingUser_0 rfl (lv_at hl 0 rfl) ?_
  refine lv_iload_n hx hb dX8_missingUser_1 rfl (lv_at hl 1 rfl) ?_
  refine g_ci (g_runV X (k_X8_isChange (a := cc) hmd hwf (rcc)) (cwV 1 hts gX8_missingUser_X8_isChange rfl rfl rfl ⟨rfl, ds_X8_isChange⟩ ⟨Nat.le_of_ble_eq_true rfl, Nat.le_of_ble_eq_true rfl⟩) hW hS hm70 rfl rfl hl.1 rfl (Nat.le_of_ble_eq_true rfl) dX8_missingUser_2 ⟨Nat.le_of_ble_eq_true rfl, Nat.le_of_ble_eq_true rfl⟩) hS (fun r3 C1 H locs hp2 hW hS => ?_)
  obtain ⟨rfl, ehp2⟩ := hp2
  rw [ehp2] at hW
  refine z_ifb_ne (tgt := 14) hx hb dX8_missingUser_5 (by decide) (fun h_5 => ?_) (fun h_5 => ?_)
  · refine lv_aload_n hx hb dX8_missingUser_14 rfl (lv_at hl 0 rfl) ?_
    refine lv_iload_n hx hb dX8_missingUser_15 rfl (lv_at hl 1 rfl) ?_
    rw [show zI cc = zI ((cc.toNat : Nat) : Int) from congrArg zI (by omega)]
    refine g_ci (g_runV X (k_X8_lacking (i := (cc.toNat)) hmd hwf (show cc.toNat < S 0 0 by omega)) (cwV 1 hts gX8_missingUser_X8_lacking rfl rfl rfl ⟨rfl, ds_X8_lacking⟩ ⟨Nat.le_of_ble_eq_true rfl, Nat.le_of_ble_eq_true rfl⟩) hW hS hm70 rfl rfl hl.1 rfl (Nat.le_of_ble_eq_true rfl) dX8_missingUser_16 ⟨Nat.le_of_ble_eq_true rfl, Nat.le_of_ble_eq_true rfl⟩) hS (fun r6 C4 H locs hp5 hW hS => ?_)
    obtain ⟨e7, hmd8, hf9⟩ := hp5
    rw [e7]
    obtain ⟨⟨mgz8, hm70z8⟩, ⟨F71z8, F72z8, hm71z8, hm72z8, hmtz8⟩, ⟨F73z8, hm73z8, ha73z8⟩, ⟨F74z8, hm74z8, ha74z8⟩, ⟨F75z8, hm75z8, ha75z8⟩, ⟨F76z8, hm76z8, ha76z8⟩, ⟨F77z8, hm77z8, ha77z8⟩, ⟨F78z8, hm78z8, ha78z8⟩, ⟨F79z8, hm79z8, ha79z8⟩, ⟨F80z8, hm80z8, ha80z8⟩, ⟨F81z8, hm81z8, ha81z8⟩, ⟨F82z8, hm82z8, ha82z8⟩, ⟨F83z8, hm83z8, ha83z8⟩, ⟨F84z8, hm84z8, ha84z8⟩, ⟨F85z8, hm85z8, ha85z8⟩, ⟨F86z8, hm86z8, ha86z8⟩, ⟨F87z8, hm87z8⟩, ⟨F88z8, hm88z8⟩, ⟨F89z8, hm89z8⟩, ⟨F90z8, hm90z8⟩⟩ := id hmd8
    have hwnz8 := hwf.n
    have hms := mis_r S T cc.toNat
    refine lv_istore_n (lv' := [(2, .int (zI (enc (mis S T (cc.toNat))))), (0, .ref (B 70 0)), (1, .int (zI cc))]) hx hb dX8_missingUser_19 rfl hl (by decide) rfl (fun ls hl => ?_)
    refine lv_aload_n hx hb dX8_missingUser_20 rfl (lv_at hl 1 rfl) ?_
    refine lv_iload_n hx hb dX8_missingUser_21 rfl (lv_at hl 0 rfl) ?_
    refine z_if_ge (tgt := 29) hx hb dX8_missingUser_22 (by decide) (hms) (fun h_22 => ?_) (fun h_22 => ?_)
    · refine lv_iconst (v := zI (0)) hx hb dX8_missingUser_29 rfl ?_
      refine g_put (ci := 8) (ty := .int) X in_X8_missingUser_8 tyX8 tyX8_ok nmX8 rfl hW hS hm70z8 0 (by decide) (hts _ (List.mem_of_getElem? (i := 1) rfl)) rfl (by decide +kernel) (rfl) (rfl) (Nat.le_of_ble_eq_true rfl) dX8_missingUser_30 (fun C10 H locs hs11 hn12 hW hS => ?_)
      refine lv_iload_n hx hb dX8_missingUser_33 rfl (lv_at hl 0 rfl) ?_
      refine z_if_ge (tgt := 41) hx hb dX8_missingUser_34 (by decide) (hms) (fun h_34 => ?_) (fun h_34 => absurd h_34 (by omega))
      refine lv_iload_n hx hb dX8_missingUser_41 rfl (lv_at hl 0 rfl) ?_
      have hcd : cd_missing S T cc = 0 := by unfold cd_missing; rw [if_neg (fun z => z h_5), if_neg (enc_pos (by omega))]
      have hmd13 := md.thrown hmd8 hs11 (fun k' h1 h2 => ((hn12 (k') 0 (by omega)).trans rfl))
      exact kret _ _ _ _ _ _ _ _ (⟨(fun _ => congrArg zI (enc_getD (by omega))), by rw [hcd]; exact hmd13, fun k' i' h => (hn12 k' i' (by omega)).trans ((hf9 k' i' (by omega)))⟩) hW hS (Nat.le_of_ble_eq_true rfl) (Nat.le_of_ble_eq_true rfl) dX8_missingUser_42
    · refine lv_iconst (v := zI (2)) hx hb dX8_missingUser_25 rfl ?_
      refine lv_goto (tgt := 30) hx hb dX8_missingUser_26 (by decide) ?_
      refine g_put (ci := 8) (ty := .int) X in_X8_missingUser_8 tyX8 tyX8_ok nmX8 rfl hW hS hm70z8 0 (by decide) (hts _ (List.mem_of_getElem? (i := 1) rfl)) rfl (by decide +kernel) (rfl) (rfl) (Nat.le_of_ble_eq_true rfl) dX8_missingUser_30 (fun C14 H locs hs15 hn16 hW hS => ?_)
      refine lv_iload_n hx hb dX8_missingUser_33 rfl (lv_at hl 0 rfl) ?_
      refine z_if_ge (tgt := 41) hx hb dX8_missingUser_34 (by decide) (hms) (fun h_34 => absurd h_34 (by omega)) (fun h_34 => ?_)
      refine lv_iconst (v := zI (0)) hx hb dX8_missingUser_37 rfl ?_
      refine lv_goto (tgt := 42) hx hb dX8_missingUser_38 (by decide) ?_
      have hcd : cd_missing S T cc = 2 := by unfold cd_missing; rw [if_neg (fun z => z h_5), if_pos (enc_neg (by omega))]
      have hmd17 := md.thrown hmd8 hs15 (fun k' h1 h2 => ((hn16 (k') 0 (by omega)).trans rfl))
      exact kret _ _ _ _ _ _ _ _ (⟨(fun z9 => by rw [hcd] at z9; cases z9), by rw [hcd]; exact hmd17, fun k' i' h => (hn16 k' i' (by omega)).trans ((hf9 k' i' (by omega)))⟩) hW hS (Nat.le_of_ble_eq_true rfl) (Nat.le_of_ble_eq_true rfl) dX8_missingUser_42
  · refine lv_aload_n hx hb dX8_missingUser_8 rfl (lv_at hl 0 rfl) ?_
    refine lv_iconst (v := zI (1)) hx hb dX8_missingUser_9 rfl ?_
    refine g_ci (g_runV X (k_X8_fail (v := 1) hmd) (cwV 1 hts gX8_missingUser_X8_fail rfl rfl rfl ⟨rfl, ds_X8_fail⟩ ⟨Nat.le_of_ble_eq_true rfl, Nat.le_of_ble_eq_true rfl⟩) hW hS hm70 rfl rfl hl.1 rfl (Nat.le_of_ble_eq_true rfl) dX8_missingUser_10 ⟨Nat.le_of_ble_eq_true rfl, Nat.le_of_ble_eq_true rfl⟩) hS (fun r20 C18 H locs hp19 hW hS => ?_)
    obtain ⟨e21, hmd22, hf23⟩ := hp19
    rw [e21]
    obtain ⟨⟨mgz22, hm70z22⟩, ⟨F71z22, F72z22, hm71z22, hm72z22, hmtz22⟩, ⟨F73z22, hm73z22, ha73z22⟩, ⟨F74z22, hm74z22, ha74z22⟩, ⟨F75z22, hm75z22, ha75z22⟩, ⟨F76z22, hm76z22, ha76z22⟩, ⟨F77z22, hm77z22, ha77z22⟩, ⟨F78z22, hm78z22, ha78z22⟩, ⟨F79z22, hm79z22, ha79z22⟩, ⟨F80z22, hm80z22, ha80z22⟩, ⟨F81z22, hm81z22, ha81z22⟩, ⟨F82z22, hm82z22, ha82z22⟩, ⟨F83z22, hm83z22, ha83z22⟩, ⟨F84z22, hm84z22, ha84z22⟩, ⟨F85z22, hm85z22, ha85z22⟩, ⟨F86z22, hm86z22, ha86z22⟩, ⟨F87z22, hm87z22⟩, ⟨F88z22, hm88z22⟩, ⟨F89z22, hm89z22⟩, ⟨F90z22, hm90z22⟩⟩ := id hmd22
    have hwnz22 := hwf.n
    have hcd : cd_missing S T cc = 1 := by unfold cd_missing; rw [if_pos (h_5)]
    exact kret _ _ _ _ _ _ _ _ (⟨(fun z9 => by rw [hcd] at z9; cases z9), by rw [hcd]; exact hmd22, fun k' i' h => (hf23 k' i' (by omega))⟩) hW hS (Nat.le_of_ble_eq_true rfl) (Nat.le_of_ble_eq_true rfl) dX8_missingUser_13

theorem ds_X8_reasonAgainst : yX8_reasonAgainst.cls ≠ "java/lang/invoke/MethodHandle" ∧ yX8_reasonAgainst.cls ≠ "java/lang/invoke/VarHandle" ∧ (parseMethodDescriptor yX8_reasonAgainst.desc).map (fun d => d.parameters.length) = some 1 := by decide +kernel
theorem in_X8_reasonAgainst_8 : ∀ w ∈ wsX80, w ∈ wsX8_reasonAgainst := by decide +kernel
def rX8_reasonAgainst : Room := { frames := 6, cells := 0, slots := 0, locals := 140 }
set_option maxHeartbeats 4000000 in
set_option maxRecDepth 100000 in
theorem k_X8_reasonAgainst {l : Launch} {Z : gZ} {B : gB} {C0 : gC} {S : gS} {T : gTx} {th : Int} {cc : Int} (hmd : md Z B C0 S T th) (hwf : wf S T) (rcc : zr cc) : Met l yX8_reasonAgainst wsX8_reasonAgainst rX8_reasonAgainst (gPc Z B C0 [.ref (B 70 0), .int (zI cc)]) (gQi Z B (fun r C1 => (cd_reason S T cc = 0 → r = zI (rsn S T cc.toNat : Int)) ∧ md Z B C1 S T (cd_reason S T cc : Int) ∧ fmd C0 C1 ∧ narrow .char (.int r) = .int r)) 0 0 (gA Z) := by
  refine g_ofZ (cc := cX8_reasonAgainst) (maxL := 3) (by decide) rfl (Nat.le_of_ble_eq_true rfl) (fun r C1 h => h.2.2.2) ?_
  intro p e s m args below meth c Q X kret hW hS ls hl
  have hx := X.1.1
  have hb := X.1.2.1
  have hts := X.1.2.2.2.2
  have hl : lv_has ls 3 [(0, .ref (B 70 0)), (1, .int (zI cc))] := hl
  obtain ⟨⟨mg, hm70⟩, ⟨F71, F72, hm71, hm72, hmt⟩, ⟨F73, hm73, ha73⟩, ⟨F74, hm74, ha74⟩, ⟨F75, hm75, ha75⟩, ⟨F76, hm76, ha76⟩, ⟨F77, hm77, ha77⟩, ⟨F78, hm78, ha78⟩, ⟨F79, hm79, ha79⟩, ⟨F80, hm80, ha80⟩, ⟨F81, hm81, ha81⟩, ⟨F82, hm82, ha82⟩, ⟨F83, hm83, ha83⟩, ⟨F84, hm84, ha84⟩, ⟨F85, hm85, ha85⟩, ⟨F86, hm86, ha86⟩, ⟨F87, hm87⟩, ⟨F88, hm88⟩, ⟨F89, hm89⟩, ⟨F90, hm90⟩⟩ := id hmd
  have hwn := hwf.n
  refine lv_aload_n hx hb dX8_reasonAgainst_0 rfl (lv_at hl 0 rfl) ?_
  refine lv_aload_n hx hb dX8_reasonAgainst_1 rfl (lv_at hl 0 rfl) ?_
  refine lv_iload_n hx hb dX8_reasonAgainst_2 rfl (lv_at hl 1 rfl) ?_
  refine g_ci (g_runV X (k_X8_isChange (a := cc) hmd hwf (rcc)) (cwV 1 hts gX8_reasonAgainst_X8_isChange rfl rfl rfl ⟨rfl, ds_X8_isChange⟩ ⟨Nat.le_of_ble_eq_true rfl, Nat.le_of_ble_eq_true rfl⟩) hW hS hm70 rfl rfl hl.1 rfl (Nat.le_of_ble_eq_true rfl) dX8_reasonAgainst_3 ⟨Nat.le_of_ble_eq_true rfl, Nat.le_of_ble_eq_true rfl⟩) hS (fun r3 C1 H locs hp2 hW hS => ?_)
  obtain ⟨rfl, ehp2⟩ := hp2
  rw [ehp2] at hW
  refine z_ifb_eq (tgt := 13) hx hb dX8_reasonAgainst_6 (by decide) (fun h_6 => ?_) (fun h_6 => ?_)
  · refine lv_iconst (v := zI (1)) hx hb dX8_reasonAgainst_13 rfl ?_
    refine g_put (ci := 8) (ty := .int) X in_X8_reasonAgainst_8 tyX8 tyX8_ok nmX8 rfl hW hS hm70 0 (by decide) (hts _ (List.mem_of_getElem? (i := 1) rfl)) rfl (by decide +kernel) (rfl) (rfl) (Nat.le_of_ble_eq_true rfl) dX8_reasonAgainst_14 (fun C4 H locs hs5 hn6 hW hS => ?_)
    have hmd7 := md.thrown hmd hs5 (fun k' h1 h2 => ((hn6 (k') 0 (by omega)).trans rfl))
    refine lv_aload_n hx hb dX8_reasonAgainst_17 rfl (lv_at hl 0 rfl) ?_
    refine g_get (ci := 8) X in_X8_reasonAgainst_8 rfl hW hs5 0 (by decide) (hts _ (List.mem_of_getElem? (i := 1) rfl)) rfl dX8_reasonAgainst_18 ?_
    refine z_if_eq (tgt := 27) hx hb dX8_reasonAgainst_21 (by decide) (⟨by omega, by omega⟩) (fun h_21 => absurd h_21 (by omega)) (fun h_21 => ?_)
    refine lv_bipush (v := zI (108)) hx hb dX8_reasonAgainst_24 (by decide) ?_
    have hcd : cd_reason S T cc = 1 := by unfold cd_reason; rw [if_pos (h_6)]
    exact kret _ _ _ _ _ _ _ _ (⟨(fun z9 => by rw [hcd] at z9; cases z9), by rw [hcd]; exact hmd7, fun k' i' h => (hn6 k' i' (by omega)), rfl⟩) hW hS (Nat.le_of_ble_eq_true rfl) (Nat.le_of_ble_eq_true rfl) dX8_reasonAgainst_26
  · refine lv_iconst (v := zI (0)) hx hb dX8_reasonAgainst_9 rfl ?_
    refine lv_goto (tgt := 14) hx hb dX8_reasonAgainst_10 (by decide) ?_
    refine g_put (ci := 8) (ty := .int) X in_X8_reasonAgainst_8 tyX8 tyX8_ok nmX8 rfl hW hS hm70 0 (by decide) (hts _ (List.mem_of_getElem? (i := 1) rfl)) rfl (by decide +kernel) (rfl) (rfl) (Nat.le_of_ble_eq_true rfl) dX8_reasonAgainst_14 (fun C8 H locs hs9 hn10 hW hS => ?_)
    have hmd11 := md.thrown hmd hs9 (fun k' h1 h2 => ((hn10 (k') 0 (by omega)).trans rfl))
    refine lv_aload_n hx hb dX8_reasonAgainst_17 rfl (lv_at hl 0 rfl) ?_
    refine g_get (ci := 8) X in_X8_reasonAgainst_8 rfl hW hs9 0 (by decide) (hts _ (List.mem_of_getElem? (i := 1) rfl)) rfl dX8_reasonAgainst_18 ?_
    refine z_if_eq (tgt := 27) hx hb dX8_reasonAgainst_21 (by decide) (⟨by omega, by omega⟩) (fun h_21 => ?_) (fun h_21 => absurd h_21 (by omega))
    refine lv_aload_n hx hb dX8_reasonAgainst_27 rfl (lv_at hl 0 rfl) ?_
    refine lv_iload_n hx hb dX8_reasonAgainst_28 rfl (lv_at hl 1 rfl) ?_
    rw [show zI cc = zI ((cc.toNat : Nat) : Int) from congrArg zI (by omega)]
    refine g_ci (g_runV X (k_X8_against (i := (cc.toNat)) hmd11 hwf (show cc.toNat < S 0 0 by omega)) (cwV 1 hts gX8_reasonAgainst_X8_against rfl rfl rfl ⟨rfl, ds_X8_against⟩ ⟨Nat.le_of_ble_eq_true rfl, Nat.le_of_ble_eq_true rfl⟩) hW hS hs9 rfl rfl hl.1 rfl (Nat.le_of_ble_eq_true rfl) dX8_reasonAgainst_29 ⟨Nat.le_of_ble_eq_true rfl, Nat.le_of_ble_eq_true rfl⟩) hS (fun r14 C12 H locs hp13 hW hS => ?_)
    obtain ⟨e15, hmd16, hf17, hq18⟩ := hp13
    rw [e15]
    obtain ⟨⟨mgz16, hm70z16⟩, ⟨F71z16, F72z16, hm71z16, hm72z16, hmtz16⟩, ⟨F73z16, hm73z16, ha73z16⟩, ⟨F74z16, hm74z16, ha74z16⟩, ⟨F75z16, hm75z16, ha75z16⟩, ⟨F76z16, hm76z16, ha76z16⟩, ⟨F77z16, hm77z16, ha77z16⟩, ⟨F78z16, hm78z16, ha78z16⟩, ⟨F79z16, hm79z16, ha79z16⟩, ⟨F80z16, hm80z16, ha80z16⟩, ⟨F81z16, hm81z16, ha81z16⟩, ⟨F82z16, hm82z16, ha82z16⟩, ⟨F83z16, hm83z16, ha83z16⟩, ⟨F84z16, hm84z16, ha84z16⟩, ⟨F85z16, hm85z16, ha85z16⟩, ⟨F86z16, hm86z16, ha86z16⟩, ⟨F87z16, hm87z16⟩, ⟨F88z16, hm88z16⟩, ⟨F89z16, hm89z16⟩, ⟨F90z16, hm90z16⟩⟩ := id hmd16
    have hwnz16 := hwf.n
    have hag := ags_cases S T cc.toNat
    refine lv_istore_n (lv' := [(2, .int (zI ((ags S T (cc.toNat) : Nat) : Int))), (0, .ref (B 70 0)), (1, .int (zI cc))]) hx hb dX8_reasonAgainst_32 rfl hl (by decide) rfl (fun ls hl => ?_)
    refine lv_aload_n hx hb dX8_reasonAgainst_33 rfl (lv_at hl 1 rfl) ?_
    refine lv_iload_n hx hb dX8_reasonAgainst_34 rfl (lv_at hl 0 rfl) ?_
    refine z_if_ne (tgt := 42) hx hb dX8_reasonAgainst_35 (by decide) (⟨by omega, by omega⟩) (fun h_35 => ?_) (fun h_35 => ?_)
    · refine lv_iconst (v := zI (0)) hx hb dX8_reasonAgainst_42 rfl ?_
      refine g_put (ci := 8) (ty := .int) X in_X8_reasonAgainst_8 tyX8 tyX8_ok nmX8 rfl hW hS hm70z16 0 (by decide) (hts _ (List.mem_of_getElem? (i := 1) rfl)) rfl (by decide +kernel) (rfl) (rfl) (Nat.le_of_ble_eq_true rfl) dX8_reasonAgainst_43 (fun C19 H locs hs20 hn21 hW hS => ?_)
      have hmd22 := md.thrown hmd16 hs20 (fun k' h1 h2 => ((hn21 (k') 0 (by omega)).trans rfl))
      refine lv_iload_n hx hb dX8_reasonAgainst_46 rfl (lv_at hl 0 rfl) ?_
      refine z_if_ne (tgt := 55) hx hb dX8_reasonAgainst_47 (by decide) (⟨by omega, by omega⟩) (fun h_47 => ?_) (fun h_47 => absurd h_47 (by omega))
      refine lv_iload_n hx hb dX8_reasonAgainst_55 rfl (lv_at hl 0 rfl) ?_
      refine lv_i2c (v := zI ((ags S T cc.toNat : Nat) : Int)) hx hb dX8_reasonAgainst_56 (ags_i2c S T _) ?_
      have hcd : cd_reason S T cc = 0 := by unfold cd_reason; rw [if_neg (fun z => z h_6), if_neg (ags_nz (by omega))]
      exact kret _ _ _ _ _ _ _ _ (⟨(fun _ => by rw [ags_r (by omega)]), by rw [hcd]; exact hmd22, fun k' i' h => (hn21 k' i' (by omega)).trans ((hf17 k' i' (by omega)).trans ((hn10 k' i' (by omega)))), ags_nar S T _⟩) hW hS (Nat.le_of_ble_eq_true rfl) (Nat.le_of_ble_eq_true rfl) dX8_reasonAgainst_57
    · refine lv_iconst (v := zI (2)) hx hb dX8_reasonAgainst_38 rfl ?_
      refine lv_goto (tgt := 43) hx hb dX8_reasonAgainst_39 (by decide) ?_
      refine g_put (ci := 8) (ty := .int) X in_X8_reasonAgainst_8 tyX8 tyX8_ok nmX8 rfl hW hS hm70z16 0 (by decide) (hts _ (List.mem_of_getElem? (i := 1) rfl)) rfl (by decide +kernel) (rfl) (rfl) (Nat.le_of_ble_eq_true rfl) dX8_reasonAgainst_43 (fun C23 H locs hs24 hn25 hW hS => ?_)
      have hmd26 := md.thrown hmd16 hs24 (fun k' h1 h2 => ((hn25 (k') 0 (by omega)).trans rfl))
      refine lv_iload_n hx hb dX8_reasonAgainst_46 rfl (lv_at hl 0 rfl) ?_
      refine z_if_ne (tgt := 55) hx hb dX8_reasonAgainst_47 (by decide) (⟨by omega, by omega⟩) (fun h_47 => absurd h_47 (by omega)) (fun h_47 => ?_)
      refine lv_bipush (v := zI (108)) hx hb dX8_reasonAgainst_50 (by decide) ?_
      refine lv_goto (tgt := 57) hx hb dX8_reasonAgainst_52 (by decide) ?_
      have hcd : cd_reason S T cc = 2 := by unfold cd_reason; rw [if_neg (fun z => z h_6), if_pos (ags_z (by omega))]
      exact kret _ _ _ _ _ _ _ _ (⟨(fun z9 => by rw [hcd] at z9; cases z9), by rw [hcd]; exact hmd26, fun k' i' h => (hn25 k' i' (by omega)).trans ((hf17 k' i' (by omega)).trans ((hn10 k' i' (by omega)))), rfl⟩) hW hS (Nat.le_of_ble_eq_true rfl) (Nat.le_of_ble_eq_true rfl) dX8_reasonAgainst_57

theorem ds_X8_placeIn : yX8_placeIn.cls ≠ "java/lang/invoke/MethodHandle" ∧ yX8_placeIn.cls ≠ "java/lang/invoke/VarHandle" ∧ (parseMethodDescriptor yX8_placeIn.desc).map (fun d => d.parameters.length) = some 2 := by decide +kernel
theorem in_X8_placeIn_8 : ∀ w ∈ wsX80, w ∈ wsX8_placeIn := by decide +kernel
def rX8_placeIn : Room := { frames := 2, cells := 0, slots := 0, locals := 48 }
set_option maxHeartbeats 4000000 in
set_option maxRecDepth 100000 in
theorem k_X8_placeIn {l : Launch} {Z : gZ} {B : gB} {C0 : gC} {S : gS} {T : gTx} {th : Int} {qq a : Int} (hmd : md Z B C0 S T th) (hwf : wf S T) (rqq : zr qq) (ra : zr a) : Met l yX8_placeIn wsX8_placeIn rX8_placeIn (gPc Z B C0 [.ref (B 70 0), .int (zI qq), .int (zI a)]) (gQi Z B (fun r C1 => (cd_placeIn S T qq a = 0 → r = zI (enc (plq S T qq.toNat a.toNat))) ∧ md Z B C1 S T (cd_placeIn S T qq a : Int) ∧ fmd C0 C1)) 0 0 (gA Z) := by
  refine g_ofI (cc := cX8_placeIn) (maxL := 7) (by decide) rfl (Nat.le_of_ble_eq_true rfl) ?_
  intro p e s m args below meth c Q X kret hW hS ls hl
  have hx := X.1.1
  have hb := X.1.2.1
  have hts := X.1.2.2.2.2
  have hl : lv_has ls 7 [(0, .ref (B 70 0)), (1, .int (zI qq)), (2, .int (zI a))] := hl
  obtain ⟨⟨mg, hm70⟩, ⟨F71, F72, hm71, hm72, hmt⟩, ⟨F73, hm73, ha73⟩, ⟨F74, hm74, ha74⟩, ⟨F75, hm75, ha75⟩, ⟨F76, hm76, ha76⟩, ⟨F77, hm77, ha77⟩, ⟨F78, hm78, ha78⟩, ⟨F79, hm79, ha79⟩, ⟨F80, hm80, ha80⟩, ⟨F81, hm81, ha81⟩, ⟨F82, hm82, ha82⟩, ⟨F83, hm83, ha83⟩, ⟨F84, hm84, ha84⟩, ⟨F85, hm85, ha85⟩, ⟨F86, hm86, ha86⟩, ⟨F87, hm87⟩, ⟨F88, hm88⟩, ⟨F89, hm89⟩, ⟨F90, hm90⟩⟩ := id hmd
  have hwn := hwf.n
  refine lv_iload_n hx hb dX8_placeIn_0 rfl (lv_at hl 1 rfl) ?_
  refine lv_iconst (v := zI (0)) hx hb dX8_placeIn_1 rfl ?_
  refine lv_aload_n hx hb dX8_placeIn_2 rfl (lv_at hl 0 rfl) ?_
  refine g_get (ci := 8) X in_X8_placeIn_8 rfl hW hm70 3 (by decide) (hts _ (List.mem_of_getElem? (i := 1) rfl)) rfl dX8_placeIn_3 ?_
  refine lv_iconst (v := zI (1)) hx hb dX8_placeIn_6 rfl ?_
  refine z_isub hx hb dX8_placeIn_7 ?_
  refine g_ci (g_runS X (k_X8_isIn (B := B) (C0 := C0) (x := qq) (a := 0) (b := ((S 0 2 : Int) - 1)) (rqq) (⟨by omega, by omega⟩) (⟨by omega, by omega⟩)) (va_cwS 3 hts gX8_placeIn_X8_isIn rfl rfl rfl ds_X8_isIn ⟨Nat.le_of_ble_eq_true rfl, Nat.le_of_ble_eq_true rfl⟩) hW hS rfl hl.1 rfl (Nat.le_of_ble_eq_true rfl) dX8_placeIn_8 ⟨Nat.le_of_ble_eq_true rfl, Nat.le_of_ble_eq_true rfl⟩) hS (fun r3 C1 H locs hp2 hW hS => ?_)
  obtain ⟨rfl, ehp2⟩ := hp2
  rw [ehp2] at hW
  refine z_ifb_ne (tgt := 20) hx hb dX8_placeIn_11 (by decide) (fun h_11 => ?_) (fun h_11 => ?_)
  · refine lv_aload_n hx hb dX8_placeIn_20 rfl (lv_at hl 0 rfl) ?_
    refine g_get (ci := 8) X in_X8_placeIn_8 rfl hW hm70 17 (by decide) (hts _ (List.mem_of_getElem? (i := 2) rfl)) rfl dX8_placeIn_21 ?_
    refine lv_iload_n hx hb dX8_placeIn_24 rfl (lv_at hl 1 rfl) ?_
    refine z_iald X hW hm83 (by omega) (by omega) (by omega) dX8_placeIn_25 ?_
    rw [show F83 (qq).toNat = (S 11 qq.toNat : Int) from by rw [show (qq).toNat = qq.toNat by omega]; exact ha83 _ (by omega)]
    have hwq := hwf.rm (show qq.toNat < S 0 2 by omega)
    refine lv_istore_n (lv' := [(3, .int (zI (S 11 qq.toNat : Int))), (0, .ref (B 70 0)), (1, .int (zI qq)), (2, .int (zI a))]) hx hb dX8_placeIn_26 rfl hl (by decide) rfl (fun ls hl => ?_)
    refine lv_aload_n hx hb dX8_placeIn_27 rfl (lv_at hl 1 rfl) ?_
    refine g_get (ci := 8) X in_X8_placeIn_8 rfl hW hm70 19 (by decide) (hts _ (List.mem_of_getElem? (i := 3) rfl)) rfl dX8_placeIn_28 ?_
    refine lv_iload_n hx hb dX8_placeIn_31 rfl (lv_at hl 2 rfl) ?_
    refine z_iald X hW hm85 (by omega) (by omega) (by omega) dX8_placeIn_32 ?_
    rw [show F85 (qq).toNat = (S 13 qq.toNat : Int) from by rw [show (qq).toNat = qq.toNat by omega]; exact ha85 _ (by omega)]
    refine lv_istore (lv' := [(4, .int (zI (S 13 qq.toNat : Int))), (3, .int (zI (S 11 qq.toNat : Int))), (0, .ref (B 70 0)), (1, .int (zI qq)), (2, .int (zI a))]) hx hb dX8_placeIn_33 hl (by decide) rfl (fun ls hl => ?_)
    refine lv_iload_n hx hb dX8_placeIn_35 rfl (lv_at hl 4 rfl) ?_
    refine lv_aload_n hx hb dX8_placeIn_36 rfl (lv_at hl 2 rfl) ?_
    refine g_get (ci := 8) X in_X8_placeIn_8 rfl hW hm70 18 (by decide) (hts _ (List.mem_of_getElem? (i := 4) rfl)) rfl dX8_placeIn_37 ?_
    refine lv_iload_n hx hb dX8_placeIn_40 rfl (lv_at hl 3 rfl) ?_
    refine z_iald X hW hm84 (by omega) (by omega) (by omega) dX8_placeIn_41 ?_
    rw [show F84 (qq).toNat = (S 12 qq.toNat : Int) from by rw [show (qq).toNat = qq.toNat by omega]; exact ha84 _ (by omega)]
    refine lv_aload_n hx hb dX8_placeIn_42 rfl (lv_at hl 2 rfl) ?_
    refine g_get (ci := 8) X in_X8_placeIn_8 rfl hW hm70 11 (by decide) (hts _ (List.mem_of_getElem? (i := 5) rfl)) rfl dX8_placeIn_43 ?_
    refine lv_iload_n hx hb dX8_placeIn_46 rfl (lv_at hl 1 rfl) ?_
    refine z_iald X hW hm77 (by omega) (by omega) (by omega) dX8_placeIn_47 ?_
    rw [show F77 (S 11 qq.toNat : Int).toNat = (S 2 (S 11 qq.toNat) : Int) from by rw [show (S 11 qq.toNat : Int).toNat = S 11 qq.toNat by omega]; exact ha77 _ (by omega)]
    have hwo := hwf.ch hwq.1
    refine lv_iconst (v := zI (1)) hx hb dX8_placeIn_48 rfl ?_
    refine z_isub hx hb dX8_placeIn_49 ?_
    refine g_ci (g_runS X (k_X8_isIn (B := B) (C0 := C0) (x := a) (a := (S 12 qq.toNat : Int)) (b := ((S 2 (S 11 qq.toNat) : Int) - 1)) (ra) (⟨by omega, by omega⟩) (⟨by omega, by omega⟩)) (va_cwS 3 hts gX8_placeIn_X8_isIn rfl rfl rfl ds_X8_isIn ⟨Nat.le_of_ble_eq_true rfl, Nat.le_of_ble_eq_true rfl⟩) hW hS rfl hl.1 rfl (Nat.le_of_ble_eq_true rfl) dX8_placeIn_50 ⟨Nat.le_of_ble_eq_true rfl, Nat.le_of_ble_eq_true rfl⟩) hS (fun r6 C4 H locs hp5 hW hS => ?_)
    obtain ⟨rfl, ehp5⟩ := hp5
    rw [ehp5] at hW
    refine z_ifb_ne (tgt := 62) hx hb dX8_placeIn_53 (by decide) (fun h_53 => ?_) (fun h_53 => ?_)
    · refine lv_aload_n hx hb dX8_placeIn_62 rfl (lv_at hl 2 rfl) ?_
      refine g_get (ci := 8) X in_X8_placeIn_8 rfl hW hm70 18 (by decide) (hts _ (List.mem_of_getElem? (i := 4) rfl)) rfl dX8_placeIn_63 ?_
      refine lv_iload_n hx hb dX8_placeIn_66 rfl (lv_at hl 3 rfl) ?_
      refine z_iald X hW hm84 (by omega) (by omega) (by omega) dX8_placeIn_67 ?_
      rw [show F84 (qq).toNat = (S 12 qq.toNat : Int) from by rw [show (qq).toNat = qq.toNat by omega]; exact ha84 _ (by omega)]
      refine lv_istore (lv' := [(5, .int (zI (S 12 qq.toNat : Int))), (4, .int (zI (S 13 qq.toNat : Int))), (3, .int (zI (S 11 qq.toNat : Int))), (0, .ref (B 70 0)), (1, .int (zI qq)), (2, .int (zI a))]) hx hb dX8_placeIn_68 hl (by decide) rfl (fun ls hl => ?_)
      have hl : lv_has ls 7 [(5, .int (zI (S 12 qq.toNat : Int))), (4, .int (zI (enc (some (S 13 qq.toNat))))), (3, .int (zI (S 11 qq.toNat : Int))), (0, .ref (B 70 0)), (1, .int (zI qq)), (2, .int (zI a))] := hl
      have lp70 : ∀ (n : Nat) (r0 : Nat) (pp : Option Nat) (Cl : gC) (H : Heap) (locs : List Loc), (a.toNat - r0 < n) → (S 12 qq.toNat ≤ r0 ∧ r0 ≤ a.toNat) → (plc T (S 11 qq.toNat) (a.toNat - r0) r0 pp = plq S T qq.toNat a.toNat) → (∀ x9, pp = some x9 → x9 < (rdt T (S 11 qq.toNat) r0).length) → (md Z B Cl S T th) → (fmd C0 Cl) → gw Z B Cl H → va_S (gA Z) s.heap H locs → ∀ ls : Array Slot, lv_has ls 7 [(0, .ref (B 70 0)), (1, .int (zI qq)), (2, .int (zI a)), (3, .int (zI (S 11 qq.toNat : Int))), (4, .int (zI (enc pp))), (5, .int (zI (r0 : Int)))] → W p l e rX8_placeIn s m args below meth c H locs 0 0 Q (F0 m 70 ls []) := by
        intro n
        induction n with
        | zero =>
          intro r0 pp Cl H locs hm hr0 hpp hpb hmdl hfl hW hS ls hl
          exact absurd hm (by omega)
        | succ n ih70 =>
          intro r0 pp Cl H locs hm hr0 hpp hpb hmdl hfl hW hS ls hl
          obtain ⟨⟨mgl, hm70l⟩, ⟨F71l, F72l, hm71l, hm72l, hmtl⟩, ⟨F73l, hm73l, ha73l⟩, ⟨F74l, hm74l, ha74l⟩, ⟨F75l, hm75l, ha75l⟩, ⟨F76l, hm76l, ha76l⟩, ⟨F77l, hm77l, ha77l⟩, ⟨F78l, hm78l, ha78l⟩, ⟨F79l, hm79l, ha79l⟩, ⟨F80l, hm80l, ha80l⟩, ⟨F81l, hm81l, ha81l⟩, ⟨F82l, hm82l, ha82l⟩, ⟨F83l, hm83l, ha83l⟩, ⟨F84l, hm84l, ha84l⟩, ⟨F85l, hm85l, ha85l⟩, ⟨F86l, hm86l, ha86l⟩, ⟨F87l, hm87l⟩, ⟨F88l, hm88l⟩, ⟨F89l, hm89l⟩, ⟨F90l, hm90l⟩⟩ := id hmdl
          have hwnl := hwf.n
          have hpr : zr (enc pp) := encp_r (fun x9 z9 => by have := hpb x9 z9; have h9 : (rdt T (S 11 qq.toNat) r0).length ≤ 12 := hwf.tx _; omega)
          refine lv_iload hx hb dX8_placeIn_70 (lv_at hl 5 rfl) ?_
          refine lv_iload_n hx hb dX8_placeIn_72 rfl (lv_at hl 2 rfl) ?_
          refine z_icmp_ge (tgt := 116) hx hb dX8_placeIn_73 (by decide) (⟨by omega, by omega⟩) (ra) (fun h_73 => ?_) (fun h_73 => ?_)
          · have hpe : pp = plq S T qq.toNat a.toNat := by rw [← hpp, show a.toNat - r0 = 0 by omega]; rfl
            refine lv_aload_n hx hb dX8_placeIn_116 rfl (lv_at hl 0 rfl) ?_
            refine lv_iload hx hb dX8_placeIn_117 (lv_at hl 4 rfl) ?_
            refine z_if_ge (tgt := 126) hx hb dX8_placeIn_119 (by decide) (hpr) (fun h_119 => ?_) (fun h_119 => ?_)
            · refine lv_iconst (v := zI (0)) hx hb dX8_placeIn_126 rfl ?_
              refine g_put (ci := 8) (ty := .int) X in_X8_placeIn_8 tyX8 tyX8_ok nmX8 rfl hW hS hm70l 0 (by decide) (hts _ (List.mem_of_getElem? (i := 7) rfl)) rfl (by decide +kernel) (rfl) (rfl) (Nat.le_of_ble_eq_true rfl) dX8_placeIn_127 (fun C7 H locs hs8 hn9 hW hS => ?_)
              have hmd10 := md.thrown hmdl hs8 (fun k' h1 h2 => ((hn9 (k') 0 (by omega)).trans rfl))
              refine lv_iload hx hb dX8_placeIn_130 (lv_at hl 4 rfl) ?_
              refine z_if_ge (tgt := 139) hx hb dX8_placeIn_132 (by decide) (hpr) (fun h_132 => ?_) (fun h_132 => absurd h_132 (by omega))
              refine lv_iload hx hb dX8_placeIn_139 (lv_at hl 4 rfl) ?_
              have hcd : cd_placeIn S T qq a = 0 := by unfold cd_placeIn; rw [if_neg (fun z => z ⟨by omega, by omega⟩), if_neg (by omega), if_neg (by rw [← hpe]; exact enc_pos (by omega))]
              exact kret _ _ _ _ _ _ _ _ (⟨(fun _ => congrArg zI (congrArg enc hpe)), by rw [hcd]; exact hmd10, (fmd.trans hfl (fun k' i' h => (hn9 k' i' (by omega))))⟩) hW hS (Nat.le_of_ble_eq_true rfl) (Nat.le_of_ble_eq_true rfl) dX8_placeIn_141
            · refine lv_iconst (v := zI (2)) hx hb dX8_placeIn_122 rfl ?_
              refine lv_goto (tgt := 127) hx hb dX8_placeIn_123 (by decide) ?_
              refine g_put (ci := 8) (ty := .int) X in_X8_placeIn_8 tyX8 tyX8_ok nmX8 rfl hW hS hm70l 0 (by decide) (hts _ (List.mem_of_getElem? (i := 7) rfl)) rfl (by decide +kernel) (rfl) (rfl) (Nat.le_of_ble_eq_true rfl) dX8_placeIn_127 (fun C11 H locs hs12 hn13 hW hS => ?_)
              have hmd14 := md.thrown hmdl hs12 (fun k' h1 h2 => ((hn13 (k') 0 (by omega)).trans rfl))
              refine lv_iload hx hb dX8_placeIn_130 (lv_at hl 4 rfl) ?_
              refine z_if_ge (tgt := 139) hx hb dX8_placeIn_132 (by decide) (hpr) (fun h_132 => absurd h_132 (by omega)) (fun h_132 => ?_)
              refine lv_iconst (v := zI (0)) hx hb dX8_placeIn_135 rfl ?_
              refine lv_goto (tgt := 141) hx hb dX8_placeIn_136 (by decide) ?_
              have hcd : cd_placeIn S T qq a = 2 := by unfold cd_placeIn; rw [if_neg (fun z => z ⟨by omega, by omega⟩), if_neg (by omega), if_pos (by rw [← hpe]; exact enc_neg (by omega))]
              exact kret _ _ _ _ _ _ _ _ (⟨(fun z9 => by rw [hcd] at z9; cases z9), by rw [hcd]; exact hmd14, (fmd.trans hfl (fun k' i' h => (hn13 k' i' (by omega))))⟩) hW hS (Nat.le_of_ble_eq_true rfl) (Nat.le_of_ble_eq_true rfl) dX8_placeIn_141
          · refine lv_iload hx hb dX8_placeIn_76 (lv_at hl 4 rfl) ?_
            refine z_if_lt (tgt := 116) hx hb dX8_placeIn_78 (by decide) (hpr) (fun h_78 => ?_) (fun h_78 => ?_)
            · have hpe : pp = plq S T qq.toNat a.toNat := by rw [← hpp, enc_neg h_78, plc_none]
              refine lv_aload_n hx hb dX8_placeIn_116 rfl (lv_at hl 0 rfl) ?_
              refine lv_iload hx hb dX8_placeIn_117 (lv_at hl 4 rfl) ?_
              refine z_if_ge (tgt := 126) hx hb dX8_placeIn_119 (by decide) (hpr) (fun h_119 => ?_) (fun h_119 => ?_)
              · refine lv_iconst (v := zI (0)) hx hb dX8_placeIn_126 rfl ?_
                refine g_put (ci := 8) (ty := .int) X in_X8_placeIn_8 tyX8 tyX8_ok nmX8 rfl hW hS hm70l 0 (by decide) (hts _ (List.mem_of_getElem? (i := 7) rfl)) rfl (by decide +kernel) (rfl) (rfl) (Nat.le_of_ble_eq_true rfl) dX8_placeIn_127 (fun C15 H locs hs16 hn17 hW hS => ?_)
                have hmd18 := md.thrown hmdl hs16 (fun k' h1 h2 => ((hn17 (k') 0 (by omega)).trans rfl))
                refine lv_iload hx hb dX8_placeIn_130 (lv_at hl 4 rfl) ?_
                refine z_if_ge (tgt := 139) hx hb dX8_placeIn_132 (by decide) (hpr) (fun h_132 => ?_) (fun h_132 => absurd h_132 (by omega))
                refine lv_iload hx hb dX8_placeIn_139 (lv_at hl 4 rfl) ?_
                have hcd : cd_placeIn S T qq a = 0 := by unfold cd_placeIn; rw [if_neg (fun z => z ⟨by omega, by omega⟩), if_neg (by omega), if_neg (by rw [← hpe]; exact enc_pos (by omega))]
                exact kret _ _ _ _ _ _ _ _ (⟨(fun _ => congrArg zI (congrArg enc hpe)), by rw [hcd]; exact hmd18, (fmd.trans hfl (fun k' i' h => (hn17 k' i' (by omega))))⟩) hW hS (Nat.le_of_ble_eq_true rfl) (Nat.le_of_ble_eq_true rfl) dX8_placeIn_141
              · refine lv_iconst (v := zI (2)) hx hb dX8_placeIn_122 rfl ?_
                refine lv_goto (tgt := 127) hx hb dX8_placeIn_123 (by decide) ?_
                refine g_put (ci := 8) (ty := .int) X in_X8_placeIn_8 tyX8 tyX8_ok nmX8 rfl hW hS hm70l 0 (by decide) (hts _ (List.mem_of_getElem? (i := 7) rfl)) rfl (by decide +kernel) (rfl) (rfl) (Nat.le_of_ble_eq_true rfl) dX8_placeIn_127 (fun C19 H locs hs20 hn21 hW hS => ?_)
                have hmd22 := md.thrown hmdl hs20 (fun k' h1 h2 => ((hn21 (k') 0 (by omega)).trans rfl))
                refine lv_iload hx hb dX8_placeIn_130 (lv_at hl 4 rfl) ?_
                refine z_if_ge (tgt := 139) hx hb dX8_placeIn_132 (by decide) (hpr) (fun h_132 => absurd h_132 (by omega)) (fun h_132 => ?_)
                refine lv_iconst (v := zI (0)) hx hb dX8_placeIn_135 rfl ?_
                refine lv_goto (tgt := 141) hx hb dX8_placeIn_136 (by decide) ?_
                have hcd : cd_placeIn S T qq a = 2 := by unfold cd_placeIn; rw [if_neg (fun z => z ⟨by omega, by omega⟩), if_neg (by omega), if_pos (by rw [← hpe]; exact enc_neg (by omega))]
                exact kret _ _ _ _ _ _ _ _ (⟨(fun z9 => by rw [hcd] at z9; cases z9), by rw [hcd]; exact hmd22, (fmd.trans hfl (fun k' i' h => (hn21 k' i' (by omega))))⟩) hW hS (Nat.le_of_ble_eq_true rfl) (Nat.le_of_ble_eq_true rfl) dX8_placeIn_141
            · obtain ⟨x8, rfl⟩ : ∃ x8, pp = some x8 := encp_s (by omega)
              have hx8 := hpb x8 rfl
              have h912 : (rdt T (S 11 qq.toNat) r0).length ≤ 12 := hwf.tx _
              refine lv_aload_n hx hb dX8_placeIn_81 rfl (lv_at hl 0 rfl) ?_
              refine lv_iload_n hx hb dX8_placeIn_82 rfl (lv_at hl 3 rfl) ?_
              refine lv_iload hx hb dX8_placeIn_83 (lv_at hl 5 rfl) ?_
              refine g_ci (g_runS X (k_X8_slot (a := (S 11 qq.toNat : Int)) (b := (r0 : Int))) (va_cwS 2 hts gX8_placeIn_X8_slot rfl rfl rfl ds_X8_slot ⟨Nat.le_of_ble_eq_true rfl, Nat.le_of_ble_eq_true rfl⟩) hW hS rfl hl.1 rfl (Nat.le_of_ble_eq_true rfl) dX8_placeIn_85 ⟨Nat.le_of_ble_eq_true rfl, Nat.le_of_ble_eq_true rfl⟩) hS (fun r25 C23 H locs hp24 hW hS => ?_)
              obtain ⟨rfl, ehp24⟩ := hp24
              rw [ehp24] at hW
              refine lv_iload_n hx hb dX8_placeIn_88 rfl (lv_at hl 3 rfl) ?_
              refine lv_iload hx hb dX8_placeIn_89 (lv_at hl 5 rfl) ?_
              refine lv_iconst (v := zI (1)) hx hb dX8_placeIn_91 rfl ?_
              refine z_iadd hx hb dX8_placeIn_92 ?_
              refine g_ci (g_runS X (k_X8_slot (a := (S 11 qq.toNat : Int)) (b := ((r0 : Int) + 1))) (va_cwS 2 hts gX8_placeIn_X8_slot rfl rfl rfl ds_X8_slot ⟨Nat.le_of_ble_eq_true rfl, Nat.le_of_ble_eq_true rfl⟩) hW hS rfl hl.1 rfl (Nat.le_of_ble_eq_true rfl) dX8_placeIn_93 ⟨Nat.le_of_ble_eq_true rfl, Nat.le_of_ble_eq_true rfl⟩) hS (fun r28 C26 H locs hp27 hW hS => ?_)
              obtain ⟨rfl, ehp27⟩ := hp27
              rw [ehp27] at hW
              rw [show zI (9 + 4 * (S 11 qq.toNat : Int) + (r0 : Int)) = zI (((9 + 4 * S 11 qq.toNat + r0 : Nat) : Nat) : Int) from congrArg zI (by omega)]
              rw [show zI (9 + 4 * (S 11 qq.toNat : Int) + ((r0 : Int) + 1)) = zI (((9 + 4 * S 11 qq.toNat + (r0 + 1) : Nat) : Nat) : Int) from congrArg zI (by omega)]
              refine g_ci (g_runV X (k_X8_scripts (sa := (9 + 4 * S 11 qq.toNat + r0)) (sb := (9 + 4 * S 11 qq.toNat + (r0 + 1))) (A := T (9 + 4 * S 11 qq.toNat + r0)) (D := T (9 + 4 * S 11 qq.toNat + (r0 + 1))) hm70l hm71l hm72l hm87l hm88l hm89l (hmtl.1 _ (by omega)) (hmtl.1 _ (by omega)) (hmtl.2 _ (by omega)) (hmtl.2 _ (by omega)) (hwf.tx _) (hwf.tx _) (hwf.tc _) (hwf.tc _) (by omega) (by omega)) (cwV 2 hts gX8_placeIn_X8_scripts rfl rfl rfl ⟨rfl, ds_X8_scripts⟩ ⟨Nat.le_of_ble_eq_true rfl, Nat.le_of_ble_eq_true rfl⟩) hW hS hm70l rfl rfl hl.1 rfl (Nat.le_of_ble_eq_true rfl) dX8_placeIn_96 ⟨Nat.le_of_ble_eq_true rfl, Nat.le_of_ble_eq_true rfl⟩) hS (fun r31 C29 H locs hp30 hW hS => ?_)
              obtain ⟨e32, ⟨⟨K33, hk34, hkv35⟩, ⟨M36, hm37, hmv38⟩⟩, ⟨R39, hr40⟩, hf41⟩ := hp30
              rw [e32]
              have hmd42 : md Z B C29 S T th := md.work hmdl ⟨_, hr40⟩ ⟨_, hk34⟩ ⟨_, hm37⟩ ((md.rows hmdl).kept (hf41 90 0 (by omega))) (fun k' z1 z2 => hf41 k' 0 (by omega))
              refine lv_istore (lv' := [(6, .int (zI (ed (T (9 + 4 * S 11 qq.toNat + r0)) (T (9 + 4 * S 11 qq.toNat + (r0 + 1))) : Int))), (0, .ref (B 70 0)), (1, .int (zI qq)), (2, .int (zI a)), (3, .int (zI (S 11 qq.toNat : Int))), (4, .int (zI (enc (some x8)))), (5, .int (zI (r0 : Int)))]) hx hb dX8_placeIn_99 hl (by decide) rfl (fun ls hl => ?_)
              refine lv_aload_n hx hb dX8_placeIn_101 rfl (lv_at hl 1 rfl) ?_
              have f43 : C29 70 0 = some (.inr (8, [.int (zI th), .int (zI (S 0 0 : Int)), .int (zI (S 0 1 : Int)), .int (zI (S 0 2 : Int)), .int (zI (S 0 3 : Int)), .ref (B 71 0), .ref (B 72 0), .ref (B 73 0), .ref (B 74 0), .ref (B 75 0), .ref (B 76 0), .ref (B 77 0), .ref (B 78 0), .ref (B 79 0), .ref (B 80 0), .ref (B 81 0), .ref (B 82 0), .ref (B 83 0), .ref (B 84 0), .ref (B 85 0), .ref (B 86 0), .ref (B 87 0), .ref (B 88 0), .ref (B 89 0), .ref (B 90 0), .int (zI mgl)])) := ((hf41 70 0 (by omega)).trans hm70l)
              refine g_get (ci := 8) X in_X8_placeIn_8 rfl hW f43 22 (by decide) (hts _ (List.mem_of_getElem? (i := 6) rfl)) rfl dX8_placeIn_102 ?_
              refine lv_iload hx hb dX8_placeIn_105 (lv_at hl 5 rfl) ?_
              refine z_iald X hW hk34 (by exact Int.ofNat_nonneg x8) (by have : enc (some x8) = (x8 : Int) := rfl; omega) (by omega) dX8_placeIn_107 ?_
              rw [show K33 (enc (some x8)).toNat = enc (kt (rdt T (S 11 qq.toNat) r0) (rdt T (S 11 qq.toNat) (r0 + 1)) x8) from by rw [show (enc (some x8)).toNat = x8 from rfl]; exact hkv35 x8 (by omega)]
              refine lv_istore (lv' := [(4, .int (zI (enc (kt (rdt T (S 11 qq.toNat) r0) (rdt T (S 11 qq.toNat) (r0 + 1)) x8)))), (6, .int (zI (ed (T (9 + 4 * S 11 qq.toNat + r0)) (T (9 + 4 * S 11 qq.toNat + (r0 + 1))) : Int))), (0, .ref (B 70 0)), (1, .int (zI qq)), (2, .int (zI a)), (3, .int (zI (S 11 qq.toNat : Int))), (5, .int (zI (r0 : Int)))]) hx hb dX8_placeIn_108 hl (by decide) rfl (fun ls hl => ?_)
              refine z_iinc (lv' := [(5, .int (zI ((r0 : Int) + 1))), (4, .int (zI (enc (kt (rdt T (S 11 qq.toNat) r0) (rdt T (S 11 qq.toNat) (r0 + 1)) x8)))), (6, .int (zI (ed (T (9 + 4 * S 11 qq.toNat + r0)) (T (9 + 4 * S 11 qq.toNat + (r0 + 1))) : Int))), (0, .ref (B 70 0)), (1, .int (zI qq)), (2, .int (zI a)), (3, .int (zI (S 11 qq.toNat : Int)))]) hx hb dX8_placeIn_110 hl (q := 6) rfl (by decide) rfl (fun ls hl => ?_)
              refine lv_goto (tgt := 70) hx hb dX8_placeIn_113 (by decide) ?_
              exact ih70 (r0 + 1) (kt (rdt T (S 11 qq.toNat) r0) (rdt T (S 11 qq.toNat) (r0 + 1)) x8) _ _ _ (by omega) (by omega) (by rw [← hpp, show a.toNat - r0 = (a.toNat - (r0 + 1)) + 1 by omega]; rfl) (fun x9 z9 => (kt_lt _ _ _ _ z9).2) hmd42 (fmd.trans hfl (fun k' i' h => (hf41 k' i' (by omega)))) hW hS _ (lv_sub hl [3, 4, 5, 6, 1, 0] rfl)
      exact lp70 (a.toNat + 1) (S 12 qq.toNat) (some (S 13 qq.toNat)) _ _ _ (by omega) (by omega) rfl (fun x9 z9 => by cases z9; exact hwq.2.2.1) hmd fmd.rfl' hW hS _ (lv_sub hl [3, 4, 5, 2, 1, 0] rfl)
    · refine lv_aload_n hx hb dX8_placeIn_56 rfl (lv_at hl 2 rfl) ?_
      refine lv_iconst (v := zI (2)) hx hb dX8_placeIn_57 rfl ?_
      refine g_ci (g_runV X (k_X8_fail (v := 2) hmd) (cwV 1 hts gX8_placeIn_X8_fail rfl rfl rfl ⟨rfl, ds_X8_fail⟩ ⟨Nat.le_of_ble_eq_true rfl, Nat.le_of_ble_eq_true rfl⟩) hW hS hm70 rfl rfl hl.1 rfl (Nat.le_of_ble_eq_true rfl) dX8_placeIn_58 ⟨Nat.le_of_ble_eq_true rfl, Nat.le_of_ble_eq_true rfl⟩) hS (fun r46 C44 H locs hp45 hW hS => ?_)
      obtain ⟨e47, hmd48, hf49⟩ := hp45
      rw [e47]
      obtain ⟨⟨mgz48, hm70z48⟩, ⟨F71z48, F72z48, hm71z48, hm72z48, hmtz48⟩, ⟨F73z48, hm73z48, ha73z48⟩, ⟨F74z48, hm74z48, ha74z48⟩, ⟨F75z48, hm75z48, ha75z48⟩, ⟨F76z48, hm76z48, ha76z48⟩, ⟨F77z48, hm77z48, ha77z48⟩, ⟨F78z48, hm78z48, ha78z48⟩, ⟨F79z48, hm79z48, ha79z48⟩, ⟨F80z48, hm80z48, ha80z48⟩, ⟨F81z48, hm81z48, ha81z48⟩, ⟨F82z48, hm82z48, ha82z48⟩, ⟨F83z48, hm83z48, ha83z48⟩, ⟨F84z48, hm84z48, ha84z48⟩, ⟨F85z48, hm85z48, ha85z48⟩, ⟨F86z48, hm86z48, ha86z48⟩, ⟨F87z48, hm87z48⟩, ⟨F88z48, hm88z48⟩, ⟨F89z48, hm89z48⟩, ⟨F90z48, hm90z48⟩⟩ := id hmd48
      have hwnz48 := hwf.n
      have hcd : cd_placeIn S T qq a = 2 := by unfold cd_placeIn; rw [if_neg (fun z => z ⟨by omega, by omega⟩), if_pos (by omega)]
      exact kret _ _ _ _ _ _ _ _ (⟨(fun z9 => by rw [hcd] at z9; cases z9), by rw [hcd]; exact hmd48, fun k' i' h => (hf49 k' i' (by omega))⟩) hW hS (Nat.le_of_ble_eq_true rfl) (Nat.le_of_ble_eq_true rfl) dX8_placeIn_61
  · refine lv_aload_n hx hb dX8_placeIn_14 rfl (lv_at hl 0 rfl) ?_
    refine lv_iconst (v := zI (1)) hx hb dX8_placeIn_15 rfl ?_
    refine g_ci (g_runV X (k_X8_fail (v := 1) hmd) (cwV 1 hts gX8_placeIn_X8_fail rfl rfl rfl ⟨rfl, ds_X8_fail⟩ ⟨Nat.le_of_ble_eq_true rfl, Nat.le_of_ble_eq_true rfl⟩) hW hS hm70 rfl rfl hl.1 rfl (Nat.le_of_ble_eq_true rfl) dX8_placeIn_16 ⟨Nat.le_of_ble_eq_true rfl, Nat.le_of_ble_eq_true rfl⟩) hS (fun r52 C50 H locs hp51 hW hS => ?_)
    obtain ⟨e53, hmd54, hf55⟩ := hp51
    rw [e53]
    obtain ⟨⟨mgz54, hm70z54⟩, ⟨F71z54, F72z54, hm71z54, hm72z54, hmtz54⟩, ⟨F73z54, hm73z54, ha73z54⟩, ⟨F74z54, hm74z54, ha74z54⟩, ⟨F75z54, hm75z54, ha75z54⟩, ⟨F76z54, hm76z54, ha76z54⟩, ⟨F77z54, hm77z54, ha77z54⟩, ⟨F78z54, hm78z54, ha78z54⟩, ⟨F79z54, hm79z54, ha79z54⟩, ⟨F80z54, hm80z54, ha80z54⟩, ⟨F81z54, hm81z54, ha81z54⟩, ⟨F82z54, hm82z54, ha82z54⟩, ⟨F83z54, hm83z54, ha83z54⟩, ⟨F84z54, hm84z54, ha84z54⟩, ⟨F85z54, hm85z54, ha85z54⟩, ⟨F86z54, hm86z54, ha86z54⟩, ⟨F87z54, hm87z54⟩, ⟨F88z54, hm88z54⟩, ⟨F89z54, hm89z54⟩, ⟨F90z54, hm90z54⟩⟩ := id hmd54
    have hwnz54 := hwf.n
    have hcd : cd_placeIn S T qq a = 1 := by unfold cd_placeIn; rw [if_pos (by omega)]
    exact kret _ _ _ _ _ _ _ _ (⟨(fun z9 => by rw [hcd] at z9; cases z9), by rw [hcd]; exact hmd54, fun k' i' h => (hf55 k' i' (by omega))⟩) hW hS (Nat.le_of_ble_eq_true rfl) (Nat.le_of_ble_eq_true rfl) dX8_placeIn_19

theorem ds_X8_placeByComparing : yX8_placeByComparing.cls ≠ "java/lang/invoke/MethodHandle" ∧ yX8_placeByComparing.cls ≠ "java/lang/invoke/VarHandle" ∧ (parseMethodDescriptor yX8_placeByComparing.desc).map (fun d => d.parameters.length) = some 2 := by decide +kernel
def rX8_placeByComparing : Room := { frames := 3, cells := 0, slots := 0, locals := 74 }
set_option maxHeartbeats 4000000 in
set_option maxRecDepth 100000 in
theorem k_X8_placeByComparing {l : Launch} {Z : gZ} {B : gB} {C0 : gC} {S : gS} {T : gTx} {th : Int} {qq a : Int} (hmd : md Z B C0 S T th) (hwf : wf S T) (rqq : zr qq) (ra : zr a) : Met l yX8_placeByComparing wsX8_placeByComparing rX8_placeByComparing (gPc Z B C0 [.ref (B 70 0), .int (zI qq), .int (zI a)]) (gQi Z B (fun r C1 => (cd_placeIn S T qq a = 0 → r = zI (enc (plq S T qq.toNat a.toNat))) ∧ md Z B C1 S T (cd_placeIn S T qq a : Int) ∧ fmd C0 C1)) 0 0 (gA Z) := by
  refine g_ofI (cc := cX8_placeByComparing) (maxL := 3) (by decide) rfl (Nat.le_of_ble_eq_true rfl) ?_
  intro p e s m args below meth c Q X kret hW hS ls hl
  have hx := X.1.1
  have hb := X.1.2.1
  have hts := X.1.2.2.2.2
  have hl : lv_has ls 3 [(0, .ref (B 70 0)), (1, .int (zI qq)), (2, .int (zI a))] := hl
  obtain ⟨⟨mg, hm70⟩, ⟨F71, F72, hm71, hm72, hmt⟩, ⟨F73, hm73, ha73⟩, ⟨F74, hm74, ha74⟩, ⟨F75, hm75, ha75⟩, ⟨F76, hm76, ha76⟩, ⟨F77, hm77, ha77⟩, ⟨F78, hm78, ha78⟩, ⟨F79, hm79, ha79⟩, ⟨F80, hm80, ha80⟩, ⟨F81, hm81, ha81⟩, ⟨F82, hm82, ha82⟩, ⟨F83, hm83, ha83⟩, ⟨F84, hm84, ha84⟩, ⟨F85, hm85, ha85⟩, ⟨F86, hm86, ha86⟩, ⟨F87, hm87⟩, ⟨F88, hm88⟩, ⟨F89, hm89⟩, ⟨F90, hm90⟩⟩ := id hmd
  have hwn := hwf.n
  refine lv_aload_n hx hb dX8_placeByComparing_0 rfl (lv_at hl 0 rfl) ?_
  refine lv_iload_n hx hb dX8_placeByComparing_1 rfl (lv_at hl 1 rfl) ?_
  refine lv_iload_n hx hb dX8_placeByComparing_2 rfl (lv_at hl 2 rfl) ?_
  refine g_ci (g_runV X (k_X8_placeIn (qq := qq) (a := a) hmd hwf rqq ra) (cwV 2 hts gX8_placeByComparing_X8_placeIn rfl rfl rfl ⟨rfl, ds_X8_placeIn⟩ ⟨Nat.le_of_ble_eq_true rfl, Nat.le_of_ble_eq_true rfl⟩) hW hS hm70 rfl rfl hl.1 rfl (Nat.le_of_ble_eq_true rfl) dX8_placeByComparing_3 ⟨Nat.le_of_ble_eq_true rfl, Nat.le_of_ble_eq_true rfl⟩) hS (fun r3 C1 H locs hp2 hW hS => ?_)
  obtain ⟨e4, hmd5, hf6⟩ := hp2
  obtain ⟨⟨mgz5, hm70z5⟩, ⟨F71z5, F72z5, hm71z5, hm72z5, hmtz5⟩, ⟨F73z5, hm73z5, ha73z5⟩, ⟨F74z5, hm74z5, ha74z5⟩, ⟨F75z5, hm75z5, ha75z5⟩, ⟨F76z5, hm76z5, ha76z5⟩, ⟨F77z5, hm77z5, ha77z5⟩, ⟨F78z5, hm78z5, ha78z5⟩, ⟨F79z5, hm79z5, ha79z5⟩, ⟨F80z5, hm80z5, ha80z5⟩, ⟨F81z5, hm81z5, ha81z5⟩, ⟨F82z5, hm82z5, ha82z5⟩, ⟨F83z5, hm83z5, ha83z5⟩, ⟨F84z5, hm84z5, ha84z5⟩, ⟨F85z5, hm85z5, ha85z5⟩, ⟨F86z5, hm86z5, ha86z5⟩, ⟨F87z5, hm87z5⟩, ⟨F88z5, hm88z5⟩, ⟨F89z5, hm89z5⟩, ⟨F90z5, hm90z5⟩⟩ := id hmd5
  have hwnz5 := hwf.n
  exact kret _ _ _ _ _ _ _ _ (⟨e4, hmd5, fun k' i' h => (hf6 k' i' (by omega))⟩) hW hS (Nat.le_of_ble_eq_true rfl) (Nat.le_of_ble_eq_true rfl) dX8_placeByComparing_6
