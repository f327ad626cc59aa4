theorem fst5_z' : ∀ n : Fin 32, fst5 n.val 5 = none → n.val = 0 := by decide +kernel
theorem fst5_0 : fst5 0 5 = none := by decide +kernel
theorem mis_n {S : gS} {T : gTx} {i : Nat} (hwf : wf S T) (hi : i < S 0 0) (h : mis S T i = none) : bdif (nee S T i) (fre S T i) = 0 := fst5_z' ⟨_, bdif_lt (nee_lt hwf.rg (hwf.ch hi).1) fre_lt⟩ h
theorem mis_s {S : gS} {T : gTx} {i : Nat} (h : ¬ mis S T i = none) : bdif (nee S T i) (fre S T i) ≠ 0 := fun z => h (by unfold mis; rw [z]; exact fst5_0)
/-- the reason against landing, or 0 -/
def ags (S : gS) (T : gTx) (i : Nat) : Nat := if rsn S T i = 32 then 0 else rsn S T i
theorem ags_v {S : gS} {T : gTx} {i v : Nat} (h : rsn S T i = v) (h2 : ¬ v = 32) : ags S T i = v := by
  unfold ags; rw [h, if_neg h2]
theorem ags_0 {S : gS} {T : gTx} {i : Nat} (h : rsn S T i = 32) : ags S T i = 0 := if_pos h
/-- the merged text lies -/
def lies (Z : gZ) (B : gB) (C : gC) (S : gS) (T : gTx) (th : Int) (x : List Int) : Prop := C 70 0 = mdO B th (S 0 0 : Int) (S 0 1 : Int) (S 0 2 : Int) (S 0 3 : Int) ((x.length : Nat) : Int) ∧ ∃ F Fs : Nat → Int, C 71 0 = some (gJ Z 312 F) ∧ mac F x ∧ C 72 0 = some (gJ Z 26 Fs) ∧ mtx F Fs T

theorem mis_r (S : gS) (T : gTx) (i : Nat) : zr (enc (mis S T i)) := by
  have h : ∀ n k, ∀ u, fst5 n k = some u → u ≤ 5 := fun n k => by
    induction k with
    | zero => intro u h; cases h
    | succ k ih =>
      intro u h
      unfold fst5 at h
      split at h
      · cases h; omega
      · exact ih u h
  cases e : mis S T i with
  | none => exact ⟨by decide, by decide⟩
  | some u => have := h _ _ u e; simp only [enc]; exact ⟨by omega, by omega⟩
theorem mrow_len {bs ms rs x : List Int} (h : mrow bs ms rs = some x) : x.length ≤ ms.length + rs.length := by
  rcases mrow_mem h with e | e <;> subst e <;> omega
theorem seg_le (t : List Int) (a b : Nat) : (seg t a b).length ≤ t.length := by
  unfold seg
  rw [List.length_take, List.length_drop]
  omega
theorem mg_len {a b w : List Int} : ∀ n k f im ir acc x, mg a b w n k f im ir acc = some x → x.length ≤ acc.length + (n + 1) * (b.length + w.length + 1)
  | 0, k, f, im, ir, acc, x, h => by
    unfold mg at h
    cases hm : mrow (seg a f a.length) (seg b im b.length) (seg w ir w.length) with
    | none => rw [hm] at h; cases h
    | some y =>
      rw [hm] at h
      cases h
      have := mrow_len hm
      have := seg_le b im b.length
      have := seg_le w ir w.length
      rw [List.length_append]
      omega
  | n + 1, k, f, im, ir, acc, x, h => by
    have e : (n + 1 + 1) * (b.length + w.length + 1) = (n + 1) * (b.length + w.length + 1) + (b.length + w.length + 1) := by rw [Nat.succ_mul]
    unfold mg at h
    split at h
    · rename_i p q hp hq
      cases hm : mrow (seg a f k) (seg b im p) (seg w ir q) with
      | none => rw [hm] at h; cases h
      | some y =>
        rw [hm] at h
        have h1 := mg_len n _ _ _ _ _ x h
        have := mrow_len hm
        have := seg_le b im p
        have := seg_le w ir q
        rw [List.length_append, List.length_append, List.length_singleton] at h1
        omega
    · have h1 := mg_len n _ _ _ _ _ x h
      omega
theorem mg3_len {a b w x : List Int} (h : mg3 a b w = some x) : x.length ≤ (a.length + 1) * (b.length + w.length + 1) := by
  have := mg_len _ _ _ _ _ _ _ h
  simpa using this

theorem ds_X8_against : yX8_against.cls ≠ "java/lang/invoke/MethodHandle" ∧ yX8_against.cls ≠ "java/lang/invoke/VarHandle" ∧ (parseMethodDescriptor yX8_against.desc).map (fun d => d.parameters.length) = some 1 := by decide +kernel
theorem in_X8_against_8 : ∀ w ∈ wsX80, w ∈ wsX8_against := by decide +kernel
def rX8_against : Room := { frames := 5, cells := 0, slots := 0, locals := 118 }
set_option maxHeartbeats 4000000 in
set_option maxRecDepth 100000 in
theorem k_X8_against {l : Launch} {Z : gZ} {B : gB} {C0 : gC} {S : gS} {T : gTx} {th : Int} {i : Nat} (hmd : md Z B C0 S T th) (hwf : wf S T) (hi : i < S 0 0) : Met l yX8_against wsX8_against rX8_against (gPc Z B C0 [.ref (B 70 0), .int (zI (i : Int))]) (gQi Z B (fun r C1 => r = zI (ags S T i : Int) ∧ md Z B C1 S T th ∧ fmd C0 C1 ∧ (rsn S T i = 32 → ∃ x, mg3 (T (1 + i)) (T 0) (prs S T i) = some x ∧ x.length ≤ 12 ∧ lies Z B C1 S T th x))) 0 0 (gA Z) := by
  refine g_ofI (cc := cX8_against) (maxL := 3) (by decide) rfl (Nat.le_of_ble_eq_true rfl) ?_
  intro p e s m args below meth c Q X kret hW hS ls hl
  have hx := X.1.1
  have hb := X.1.2.1
  have hts := X.1.2.2.2.2
  have hl : lv_has ls 3 [(0, .ref (B 70 0)), (1, .int (zI (i : Int)))] := hl
  obtain ⟨⟨mg, hm70⟩, ⟨F71, F72, hm71, hm72, hmt⟩, ⟨F73, hm73, ha73⟩, ⟨F74, hm74, ha74⟩, ⟨F75, hm75, ha75⟩, ⟨F76, hm76, ha76⟩, ⟨F77, hm77, ha77⟩, ⟨F78, hm78, ha78⟩, ⟨F79, hm79, ha79⟩, ⟨F80, hm80, ha80⟩, ⟨F81, hm81, ha81⟩, ⟨F82, hm82, ha82⟩, ⟨F83, hm83, ha83⟩, ⟨F84, hm84, ha84⟩, ⟨F85, hm85, ha85⟩, ⟨F86, hm86, ha86⟩, ⟨F87, hm87⟩, ⟨F88, hm88⟩, ⟨F89, hm89⟩, ⟨F90, hm90⟩⟩ := id hmd
  have hwn := hwf.n
  have hwi := hwf.ch hi
  refine lv_aload_n hx hb dX8_against_0 rfl (lv_at hl 0 rfl) ?_
  refine g_get (ci := 8) X in_X8_against_8 rfl hW hm70 14 (by decide) (hts _ (List.mem_of_getElem? (i := 1) rfl)) rfl dX8_against_1 ?_
  refine lv_iload_n hx hb dX8_against_4 rfl (lv_at hl 1 rfl) ?_
  refine z_iald X hW hm80 (by omega) (by omega) (by omega) dX8_against_5 ?_
  rw [show F80 (i : Int).toNat = (S 5 i : Int) from by rw [show (i : Int).toNat = i by omega]; exact ha80 _ (by omega)]
  refine lv_iconst (v := zI (1)) hx hb dX8_against_6 rfl ?_
  refine z_icmp_ne (tgt := 13) hx hb dX8_against_7 (by decide) (⟨by omega, by omega⟩) (⟨by omega, by omega⟩) (fun h_7 => ?_) (fun h_7 => ?_)
  · refine lv_aload_n hx hb dX8_against_13 rfl (lv_at hl 0 rfl) ?_
    refine g_get (ci := 8) X in_X8_against_8 rfl hW hm70 11 (by decide) (hts _ (List.mem_of_getElem? (i := 2) rfl)) rfl dX8_against_14 ?_
    refine lv_iload_n hx hb dX8_against_17 rfl (lv_at hl 1 rfl) ?_
    refine z_iald X hW hm77 (by omega) (by omega) (by omega) dX8_against_18 ?_
    rw [show F77 (i : Int).toNat = (S 2 i : Int) from by rw [show (i : Int).toNat = i by omega]; exact ha77 _ (by omega)]
    refine z_if_ne (tgt := 25) hx hb dX8_against_19 (by decide) (⟨by omega, by omega⟩) (fun h_19 => ?_) (fun h_19 => ?_)
    · refine lv_iconst (v := zI (0)) hx hb dX8_against_25 rfl ?_
      refine lv_istore_n (lv' := [(2, .int (zI 0)), (0, .ref (B 70 0)), (1, .int (zI (i : Int)))]) hx hb dX8_against_26 rfl hl (by decide) rfl (fun ls hl => ?_)
      have lp27 : ∀ (n : Nat) (k : Nat) (H : Heap) (locs : List Loc), (S 0 0 - k < n) → (k ≤ S 0 0) → (wai S i k = false) → gw Z B C0 H → va_S (gA Z) s.heap H locs → ∀ ls : Array Slot, lv_has ls 3 [(0, .ref (B 70 0)), (1, .int (zI (i : Int))), (2, .int (zI (k : Int)))] → W p l e rX8_against s m args below meth c H locs 0 0 Q (F0 m 27 ls []) := by
        intro n
        induction n with
        | zero =>
          intro k  H locs hm hkn hwv hW hS ls hl
          exact absurd hm (by omega)
        | succ n ih27 =>
          intro k  H locs hm hkn hwv hW hS ls hl
          refine lv_iload_n hx hb dX8_against_27 rfl (lv_at hl 2 rfl) ?_
          refine lv_aload_n hx hb dX8_against_28 rfl (lv_at hl 0 rfl) ?_
          refine g_get (ci := 8) X in_X8_against_8 rfl hW hm70 1 (by decide) (hts _ (List.mem_of_getElem? (i := 3) rfl)) rfl dX8_against_29 ?_
          refine z_icmp_ge (tgt := 67) hx hb dX8_against_32 (by decide) (⟨by omega, by omega⟩) (⟨by omega, by omega⟩) (fun h_32 => ?_) (fun h_32 => ?_)
          · refine lv_aload_n hx hb dX8_against_67 rfl (lv_at hl 0 rfl) ?_
            refine lv_iload_n hx hb dX8_against_68 rfl (lv_at hl 1 rfl) ?_
            refine g_ci (g_runV X (k_X8_opens (i := i) hmd hwf hi) (cwV 1 hts gX8_against_X8_opens rfl rfl rfl ⟨rfl, ds_X8_opens⟩ ⟨Nat.le_of_ble_eq_true rfl, Nat.le_of_ble_eq_true rfl⟩) hW hS hm70 rfl rfl hl.1 rfl (Nat.le_of_ble_eq_true rfl) dX8_against_69 ⟨Nat.le_of_ble_eq_true rfl, Nat.le_of_ble_eq_true rfl⟩) hS (fun r3 C1 H locs hp2 hW hS => ?_)
            obtain ⟨rfl, ehp2⟩ := hp2
            rw [ehp2] at hW
            have hol : opn S i ≤ S 0 2 := opnr_le S i (S 0 2)
            refine z_if_le (tgt := 78) hx hb dX8_against_72 (by decide) (⟨by omega, by omega⟩) (fun h_72 => ?_) (fun h_72 => ?_)
            · refine lv_aload_n hx hb dX8_against_78 rfl (lv_at hl 0 rfl) ?_
              refine lv_iload_n hx hb dX8_against_79 rfl (lv_at hl 1 rfl) ?_
              refine g_ci (g_runV X (k_X8_lacking (i := i) hmd hwf hi) (cwV 1 hts gX8_against_X8_lacking rfl rfl rfl ⟨rfl, ds_X8_lacking⟩ ⟨Nat.le_of_ble_eq_true rfl, Nat.le_of_ble_eq_true rfl⟩) hW hS hm70 rfl rfl hl.1 rfl (Nat.le_of_ble_eq_true rfl) dX8_against_80 ⟨Nat.le_of_ble_eq_true rfl, Nat.le_of_ble_eq_true rfl⟩) hS (fun r6 C4 H locs hp5 hW hS => ?_)
              obtain ⟨e7, hmd8, hf9⟩ := hp5
              rw [e7]
              obtain ⟨⟨mgz8, hm70z8⟩, ⟨F71z8, F72z8, hm71z8, hm72z8, hmtz8⟩, ⟨F73z8, hm73z8, ha73z8⟩, ⟨F74z8, hm74z8, ha74z8⟩, ⟨F75z8, hm75z8, ha75z8⟩, ⟨F76z8, hm76z8, ha76z8⟩, ⟨F77z8, hm77z8, ha77z8⟩, ⟨F78z8, hm78z8, ha78z8⟩, ⟨F79z8, hm79z8, ha79z8⟩, ⟨F80z8, hm80z8, ha80z8⟩, ⟨F81z8, hm81z8, ha81z8⟩, ⟨F82z8, hm82z8, ha82z8⟩, ⟨F83z8, hm83z8, ha83z8⟩, ⟨F84z8, hm84z8, ha84z8⟩, ⟨F85z8, hm85z8, ha85z8⟩, ⟨F86z8, hm86z8, ha86z8⟩, ⟨F87z8, hm87z8⟩, ⟨F88z8, hm88z8⟩, ⟨F89z8, hm89z8⟩, ⟨F90z8, hm90z8⟩⟩ := id hmd8
              have hwnz8 := hwf.n
              have hms := mis_r S T i
              refine z_if_lt (tgt := 89) hx hb dX8_against_83 (by decide) (⟨by omega, by omega⟩) (fun h_83 => ?_) (fun h_83 => ?_)
              · refine lv_aload_n hx hb dX8_against_89 rfl (lv_at hl 0 rfl) ?_
                refine lv_iload_n hx hb dX8_against_90 rfl (lv_at hl 1 rfl) ?_
                refine g_ci (g_runV X (k_X8_merges (i := i) hmd8 hwf hi (by omega)) (cwV 1 hts gX8_against_X8_merges rfl rfl rfl ⟨rfl, ds_X8_merges⟩ ⟨Nat.le_of_ble_eq_true rfl, Nat.le_of_ble_eq_true rfl⟩) hW hS hm70z8 rfl rfl hl.1 rfl (Nat.le_of_ble_eq_true rfl) dX8_against_91 ⟨Nat.le_of_ble_eq_true rfl, Nat.le_of_ble_eq_true rfl⟩) hS (fun r12 C10 H locs hp11 hW hS => ?_)
                obtain ⟨hor13, hmd14, hf15⟩ := hp11
                rcases hor13 with ⟨x, hgx, rfl, hob, hFF⟩ | ⟨hgx, rfl⟩
                · refine z_if_ne (tgt := 102) hx hb dX8_against_94 (by decide) (⟨by omega, by omega⟩) (fun h_94 => ?_) (fun h_94 => absurd h_94 (by omega))
                  refine lv_aload_n hx hb dX8_against_102 rfl (lv_at hl 0 rfl) ?_
                  refine g_get (ci := 8) X in_X8_against_8 rfl hW hob 25 (by decide) (hts _ (List.mem_of_getElem? (i := 5) rfl)) rfl dX8_against_103 ?_
                  refine lv_bipush (v := zI (12)) hx hb dX8_against_106 (by decide) ?_
                  refine z_icmp_le (tgt := 116) hx hb dX8_against_108 (by decide) (⟨by omega, by have h6 := mg3_len hgx; have h7 := Nat.mul_le_mul (show (T (1 + i)).length + 1 ≤ 13 from by have := hwf.tx (1 + i); omega) (show (T 0).length + (prs S T i).length + 1 ≤ 25 from by have := hwf.tx 0; have h5 : (prs S T i).length ≤ 12 := hwf.tx _; omega); omega⟩) (⟨by omega, by omega⟩) (fun h_108 => ?_) (fun h_108 => ?_)
                  · refine lv_iconst (v := zI (0)) hx hb dX8_against_116 rfl ?_
                    have hrv : rsn S T i = 32 := rsn_k (by omega) (by omega) (by rw [show k = S 0 0 by omega] at hwv; rw [hwv]; decide) (by omega) (mis_n hwf hi (enc_neg (by omega))) hgx (by omega)
                    exact kret _ _ _ _ _ _ _ _ (⟨by rw [ags_0 hrv]; rfl, hmd14, (fun k' i' h => ((hf15 k' i' (by omega)).trans ((hf9 k' i' (by omega)).trans rfl))), fun _ => ⟨x, hgx, by omega, hob, hFF⟩⟩) hW hS (Nat.le_of_ble_eq_true rfl) (Nat.le_of_ble_eq_true rfl) dX8_against_117
                  · refine lv_bipush (v := zI (115)) hx hb dX8_against_111 (by decide) ?_
                    refine lv_goto (tgt := 117) hx hb dX8_against_113 (by decide) ?_
                    have hrv : rsn S T i = 115 := rsn_s (by omega) (by omega) (by rw [show k = S 0 0 by omega] at hwv; rw [hwv]; decide) (by omega) (mis_n hwf hi (enc_neg (by omega))) hgx (by omega)
                    exact kret _ _ _ _ _ _ _ _ (⟨by rw [ags_v hrv (by decide)]; rfl, hmd14, (fun k' i' h => ((hf15 k' i' (by omega)).trans ((hf9 k' i' (by omega)).trans rfl))), fun z9 => by rw [hrv] at z9; omega⟩) hW hS (Nat.le_of_ble_eq_true rfl) (Nat.le_of_ble_eq_true rfl) dX8_against_117
                · refine z_if_ne (tgt := 102) hx hb dX8_against_94 (by decide) (⟨by omega, by omega⟩) (fun h_94 => absurd h_94 (by omega)) (fun h_94 => ?_)
                  refine lv_bipush (v := zI (109)) hx hb dX8_against_97 (by decide) ?_
                  refine lv_goto (tgt := 117) hx hb dX8_against_99 (by decide) ?_
                  have hrv : rsn S T i = 109 := rsn_m (by omega) (by omega) (by rw [show k = S 0 0 by omega] at hwv; rw [hwv]; decide) (by omega) (mis_n hwf hi (enc_neg (by omega))) hgx
                  exact kret _ _ _ _ _ _ _ _ (⟨by rw [ags_v hrv (by decide)]; rfl, hmd14, (fun k' i' h => ((hf15 k' i' (by omega)).trans ((hf9 k' i' (by omega)).trans rfl))), fun z9 => by rw [hrv] at z9; omega⟩) hW hS (Nat.le_of_ble_eq_true rfl) (Nat.le_of_ble_eq_true rfl) dX8_against_117
              · refine lv_bipush (v := zI (97)) hx hb dX8_against_86 (by decide) ?_
                have hrv : rsn S T i = 97 := rsn_a (by omega) (by omega) (by rw [show k = S 0 0 by omega] at hwv; rw [hwv]; decide) (by omega) (mis_s (enc_pos (by omega)))
                exact kret _ _ _ _ _ _ _ _ (⟨by rw [ags_v hrv (by decide)]; rfl, hmd8, (fun k' i' h => ((hf9 k' i' (by omega)).trans rfl)), fun z9 => by rw [hrv] at z9; omega⟩) hW hS (Nat.le_of_ble_eq_true rfl) (Nat.le_of_ble_eq_true rfl) dX8_against_88
            · refine lv_bipush (v := zI (99)) hx hb dX8_against_75 (by decide) ?_
              have hrv : rsn S T i = 99 := rsn_c (by omega) (by omega) (by rw [show k = S 0 0 by omega] at hwv; rw [hwv]; decide) (by omega)
              exact kret _ _ _ _ _ _ _ _ (⟨by rw [ags_v hrv (by decide)]; rfl, hmd, fmd.rfl', fun z9 => by rw [hrv] at z9; omega⟩) hW hS (Nat.le_of_ble_eq_true rfl) (Nat.le_of_ble_eq_true rfl) dX8_against_77
          · refine lv_aload_n hx hb dX8_against_35 rfl (lv_at hl 0 rfl) ?_
            refine g_get (ci := 8) X in_X8_against_8 rfl hW hm70 12 (by decide) (hts _ (List.mem_of_getElem? (i := 4) rfl)) rfl dX8_against_36 ?_
            refine lv_iload_n hx hb dX8_against_39 rfl (lv_at hl 1 rfl) ?_
            refine z_iald X hW hm78 (by omega) (by omega) (by omega) dX8_against_40 ?_
            rw [show F78 (i : Int).toNat = (S 3 i : Int) from by rw [show (i : Int).toNat = i by omega]; exact ha78 _ (by omega)]
            refine lv_iload_n hx hb dX8_against_41 rfl (lv_at hl 2 rfl) ?_
            refine lv_ishr hx hb dX8_against_42 ?_
            refine lv_iconst (v := zI (1)) hx hb dX8_against_43 rfl ?_
            refine lv_iand hx hb dX8_against_44 ?_
            rw [show (((zI (S 3 i : Int)) >>> ((zI (k : Int)) &&& 31)) &&& (zI 1)) = zI (if (S 3 i).testBit k = true then 1 else 0) from bitm (by omega) (by omega)]
            refine lv_iconst (v := zI (1)) hx hb dX8_against_45 rfl ?_
            refine z_icmp_ne (tgt := 61) hx hb dX8_against_46 (by decide) (⟨by split <;> omega, by split <;> omega⟩) (⟨by omega, by omega⟩) (fun h_46 => ?_) (fun h_46 => ?_)
            · refine z_iinc (lv' := [(2, .int (zI ((k : Int) + 1))), (0, .ref (B 70 0)), (1, .int (zI (i : Int)))]) hx hb dX8_against_61 hl (q := 2) rfl (by decide) rfl (fun ls hl => ?_)
              refine lv_goto (tgt := 27) hx hb dX8_against_64 (by decide) ?_
              exact ih27 (k + 1) _ _ (by omega) (by omega) (wai_f hwv (fun z9 => h_46 (if_pos z9.1))) hW hS _ (lv_sub hl [1, 2, 0] rfl)
            · refine lv_aload_n hx hb dX8_against_49 rfl (lv_at hl 0 rfl) ?_
              refine g_get (ci := 8) X in_X8_against_8 rfl hW hm70 14 (by decide) (hts _ (List.mem_of_getElem? (i := 1) rfl)) rfl dX8_against_50 ?_
              refine lv_iload_n hx hb dX8_against_53 rfl (lv_at hl 2 rfl) ?_
              refine z_iald X hW hm80 (by omega) (by omega) (by omega) dX8_against_54 ?_
              rw [show F80 (k : Int).toNat = (S 5 k : Int) from by rw [show (k : Int).toNat = k by omega]; exact ha80 _ (by omega)]
              have hwk := hwf.ch (show k < S 0 0 by omega)
              refine z_if_ne (tgt := 61) hx hb dX8_against_55 (by decide) (⟨by omega, by omega⟩) (fun h_55 => ?_) (fun h_55 => ?_)
              · refine z_iinc (lv' := [(2, .int (zI ((k : Int) + 1))), (0, .ref (B 70 0)), (1, .int (zI (i : Int)))]) hx hb dX8_against_61 hl (q := 2) rfl (by decide) rfl (fun ls hl => ?_)
                refine lv_goto (tgt := 27) hx hb dX8_against_64 (by decide) ?_
                exact ih27 (k + 1) _ _ (by omega) (by omega) (wai_f hwv (fun z9 => h_55 (by omega))) hW hS _ (lv_sub hl [1, 2, 0] rfl)
              · refine lv_bipush (v := zI (100)) hx hb dX8_against_58 (by decide) ?_
                have hrv : rsn S T i = 100 := rsn_d (by omega) (by omega) (wai_t _ (show k < S 0 0 by omega) (by by_cases q9 : (S 3 i).testBit k = true; exact q9; rw [if_neg q9] at h_46; omega) (by omega))
                exact kret _ _ _ _ _ _ _ _ (⟨by rw [ags_v hrv (by decide)]; rfl, hmd, fmd.rfl', fun z9 => by rw [hrv] at z9; omega⟩) hW hS (Nat.le_of_ble_eq_true rfl) (Nat.le_of_ble_eq_true rfl) dX8_against_60
      exact lp27 (S 0 0 + 1) 0 _ _ (by omega) (by omega) rfl hW hS _ (lv_sub hl [1, 2, 0] rfl)
    · refine lv_bipush (v := zI (114)) hx hb dX8_against_22 (by decide) ?_
      have hrv : rsn S T i = 114 := rsn_r (by omega) (by omega)
      exact kret _ _ _ _ _ _ _ _ (⟨by rw [ags_v hrv (by decide)]; rfl, hmd, fmd.rfl', fun z9 => by rw [hrv] at z9; omega⟩) hW hS (Nat.le_of_ble_eq_true rfl) (Nat.le_of_ble_eq_true rfl) dX8_against_24
  · refine lv_bipush (v := zI (108)) hx hb dX8_against_10 (by decide) ?_
    have hrv : rsn S T i = 108 := rsn_l (by omega)
    exact kret _ _ _ _ _ _ _ _ (⟨by rw [ags_v hrv (by decide)]; rfl, hmd, fmd.rfl', fun z9 => by rw [hrv] at z9; omega⟩) hW hS (Nat.le_of_ble_eq_true rfl) (Nat.le_of_ble_eq_true rfl) dX8_against_12
