/-! THE REFERENCE'S SCRIPTS -/
theorem tbm_step {a b : List Int} {R : Nat → Int} {i j v : Int} (hi : 0 ≤ i) (hj : 0 ≤ j) (hjb : j ≤ b.length) (hb : b.length ≤ 12) (h : tb a b R i j) (hv : v = (rst a b i.toNat j.toNat : Int)) : tb a b (ju R (13 * i + j).toNat v) i (j + -1) := by
  rw [Int.mul_comm 13 i]
  exact tb_step hi hj hjb hb h hv
theorem tbm_end {a b : List Int} {i j : Int} (hi : 0 ≤ i) (hj : 0 ≤ j) (hia : i ≤ a.length) (hjb : j ≤ b.length) (h : (a.length : Int) - i = 0 ∨ (b.length : Int) - j = 0) : ((a.length : Int) - i) + ((b.length : Int) - j) = (rst a b i.toNat j.toNat : Int) := by
  have := tb_end hi hj hia hjb (by omega)
  omega
theorem tbm_at {a b : List Int} {R : Nat → Int} {i j : Int} (h : tb a b R i j) {x y q : Int} (hx : 0 ≤ x) (hxa : x ≤ a.length) (hy : 0 ≤ y) (hyb : y ≤ b.length) (hr : i < x ∨ (i = x ∧ j < y)) (e : q = x * 13 + y) : R q.toNat = (rst a b x.toNat y.toNat : Int) := by
  rw [e]; exact tb_at h hx hxa hy hyb hr
theorem tbm_rng {a b : List Int} {R : Nat → Int} {i j : Int} (h : tb a b R i j) (ha : a.length ≤ 12) (hb : b.length ≤ 12) {x y q : Int} (hx : 0 ≤ x) (hxa : x ≤ a.length) (hy : 0 ≤ y) (hyb : y ≤ b.length) (hr : i < x ∨ (i = x ∧ j < y)) (e : q = x * 13 + y) : zr (R q.toNat) := by
  have := tb_rng h ha hb hx hxa hy hyb hr
  rw [e]; exact ⟨by omega, by omega⟩
theorem tbm_eq {a b : List Int} {R : Nat → Int} {i j : Int} (h : tb a b R i j) (hi : 0 ≤ i) (hj : 0 ≤ j) (hia : i < a.length) (hjb : j < b.length) (e : ta a i = ta b j) : R (13 * (i + 1) + j + 1).toNat = (rst a b i.toNat j.toNat : Int) := by
  rw [show 13 * (i + 1) + j + 1 = (i + 1) * 13 + (j + 1) by omega]
  exact tb_eq h hi hj hia hjb e
theorem tbm_lt {a b : List Int} {R : Nat → Int} {i j : Int} (h : tb a b R i j) (hi : 0 ≤ i) (hj : 0 ≤ j) (hia : i < a.length) (hjb : j < b.length) (e : ¬ ta a i = ta b j) (hl : R (13 * (i + 1) + j).toNat ≤ R (13 * i + j + 1).toNat) : 1 + R (13 * (i + 1) + j).toNat = (rst a b i.toNat j.toNat : Int) := by
  have := tb_ne h hi hj hia hjb e
  rw [show 13 * (i + 1) + j = (i + 1) * 13 + j by omega, show 13 * i + j + 1 = i * 13 + (j + 1) by omega] at *
  omega
theorem tbm_ge {a b : List Int} {R : Nat → Int} {i j : Int} (h : tb a b R i j) (hi : 0 ≤ i) (hj : 0 ≤ j) (hia : i < a.length) (hjb : j < b.length) (e : ¬ ta a i = ta b j) (hl : R (13 * i + j + 1).toNat ≤ R (13 * (i + 1) + j).toNat) : 1 + R (13 * i + j + 1).toNat = (rst a b i.toNat j.toNat : Int) := by
  have := tb_ne h hi hj hia hjb e
  rw [show 13 * (i + 1) + j = (i + 1) * 13 + j by omega, show 13 * i + j + 1 = i * 13 + (j + 1) by omega] at *
  omega
theorem ml {F : Nat → Int} {t : List Int} {s : Nat} {i : Int} (hT : ∀ k, k < t.length → F (12 * s + k) = t.getD k (-1)) (h0 : 0 ≤ i) (h1 : i < t.length) : F (12 * (s : Int) + i).toNat = ta t i := by
  rw [show (12 * (s : Int) + i).toNat = 12 * s + i.toNat by omega, hT _ (by omega), ta, if_pos h0]
def mrel (Kr K : Nat → Int) (i : Nat) : Prop := (∀ q, q < i → Kr q = K q) ∧ ∀ q, i ≤ q → q < 12 → Kr q = -1
theorem mrel_0 {Kr K : Nat → Int} (h : ∀ q, q < 12 → Kr q = -1) : mrel Kr K 0 := ⟨fun q hq => by omega, fun q _ hq => h q hq⟩
theorem mrel_keep {Kr K : Nat → Int} {i : Nat} {v : Int} (h : mrel Kr K i) : mrel (ju Kr i v) (ju K i v) (i + 1) := by
  refine ⟨fun q hq => ?_, fun q h1 h2 => ?_⟩
  · by_cases e : q = i
    · subst e; rw [ju_s, ju_s]
    · rw [ju_n e, ju_n e]; exact h.1 q (by omega)
  · rw [ju_n (by omega)]; exact h.2 q (by omega) h2
theorem mrel_skip {Kr K : Nat → Int} {i : Nat} (h : mrel Kr K i) (hi : i < 12) : mrel Kr (ju K i (-1)) (i + 1) := by
  refine ⟨fun q hq => ?_, fun q h1 h2 => h.2 q (by omega) h2⟩
  by_cases e : q = i
  · subst e; rw [ju_s]; exact h.2 q (Nat.le_refl _) hi
  · rw [ju_n e]; exact h.1 q (by omega)
theorem mfin {a b : List Int} {i j : Nat} {pre : List Int} {K Fm Kr Fr : Nat → Int} (h : fol a b i j pre K Fm) (he : a.length ≤ i ∨ b.length ≤ j) (hK : mrel Kr K i) (hF : mrel Fr Fm j) : (∀ q, q < 12 → Kr q = enc (kt a b q)) ∧ ∀ q, q < 12 → Fr q = enc (kf a b q) := by
  have hd : a.drop i = [] ∨ b.drop j = [] := he.imp List.drop_eq_nil_of_le List.drop_eq_nil_of_le
  refine ⟨fun q hq => ?_, fun q hq => ?_⟩
  · by_cases e : q < i
    · rw [hK.1 q e, h.1 q e]
    · rw [hK.2 q (by omega) hq]
      have := h.2.2.1 (q - i)
      rw [show i + (q - i) = q by omega] at this
      rcases hd with hd | hd
      · rw [this, hd, show kt [] (b.drop j) (q - i) = none from kt_out (by simp)]; rfl
      · rw [this, hd]
        cases hk : kt (a.drop i) [] (q - i) with
        | none => rfl
        | some z => have := (kt_lt _ _ _ _ hk).2; simp at this
  · by_cases e : q < j
    · rw [hF.1 q e, h.2.1 q e]
    · rw [hF.2 q (by omega) hq]
      have := h.2.2.2.1 (q - j)
      rw [show j + (q - j) = q by omega] at this
      rcases hd with hd | hd
      · rw [this, hd]
        cases hk : kf [] (b.drop j) (q - j) with
        | none => rfl
        | some z => have := (kf_lt _ _ _ _ hk).1; simp at this
      · rw [this, hd, show kf (a.drop i) [] (q - j) = none from kf_out (by simp)]; rfl

theorem ds_X8_scripts : yX8_scripts.cls ≠ "java/lang/invoke/MethodHandle" ∧ yX8_scripts.cls ≠ "java/lang/invoke/VarHandle" ∧ (parseMethodDescriptor yX8_scripts.desc).map (fun d => d.parameters.length) = some 2 := by decide +kernel
theorem in_X8_scripts_8 : ∀ w ∈ wsX80, w ∈ wsX8_scripts := by decide +kernel
def rX8_scripts : Room := { frames := 1, cells := 0, slots := 0, locals := 22 }
set_option maxHeartbeats 4000000 in
set_option maxRecDepth 100000 in
theorem k_X8_scripts {l : Launch} {Z : gZ} {B : gB} {C0 : gC} {sa sb : Nat} {A D : List Int} {FT FS R0 K0 M0 : Nat → Int} {th nc rg cm ld mg : Int} (h0 : C0 70 0 = mdO B th nc rg cm ld mg) (h71 : C0 71 0 = some (gJ Z 312 FT)) (h72 : C0 72 0 = some (gJ Z 26 FS)) (h87 : C0 87 0 = some (gJ Z 169 R0)) (h88 : C0 88 0 = some (gJ Z 12 K0)) (h89 : C0 89 0 = some (gJ Z 12 M0)) (hA : FS sa = (A.length : Int)) (hD : FS sb = (D.length : Int)) (hTA : ∀ k, k < A.length → FT (12 * sa + k) = A.getD k (-1)) (hTD : ∀ k, k < D.length → FT (12 * sb + k) = D.getD k (-1)) (hA12 : A.length ≤ 12) (hD12 : D.length ≤ 12) (hAr : ∀ x ∈ A, 0 ≤ x ∧ x < 100) (hDr : ∀ x ∈ D, 0 ≤ x ∧ x < 100) (hsa : sa < 25) (hsb : sb < 25) : Met l yX8_scripts wsX8_scripts rX8_scripts (gPc Z B C0 [.ref (B 70 0), .int (zI (sa : Int)), .int (zI (sb : Int))]) (gQi Z B (fun r C1 => r = zI (ed A D : Int) ∧ mto Z C1 A D ∧ scr Z C1 87 169 ∧ ∀ k' i', ¬ ((k' = 87 ∨ k' = 88 ∨ k' = 89) ∧ i' = 0) → C1 k' i' = C0 k' i')) 0 0 (gA Z) := by
  refine g_ofI (cc := cX8_scripts) (maxL := 7) (by decide) rfl (Nat.le_of_ble_eq_true rfl) ?_
  intro p e s m args below meth c Q X kret hW hS ls hl
  have hx := X.1.1
  have hb := X.1.2.1
  have hts := X.1.2.2.2.2
  have hl : lv_has ls 7 [(0, .ref (B 70 0)), (1, .int (zI (sa : Int))), (2, .int (zI (sb : Int)))] := hl
  refine lv_aload_n hx hb dX8_scripts_0 rfl (lv_at hl 0 rfl) ?_
  refine g_get (ci := 8) X in_X8_scripts_8 rfl hW h0 6 (by decide) (hts _ (List.mem_of_getElem? (i := 1) rfl)) rfl dX8_scripts_1 ?_
  refine lv_iload_n hx hb dX8_scripts_4 rfl (lv_at hl 1 rfl) ?_
  refine z_iald X hW h72 (by omega) (by omega) (by omega) dX8_scripts_5 ?_
  rw [show FS ((sa : Int)).toNat = (A.length : Int) from by rw [show ((sa : Int)).toNat = sa by omega]; exact hA]
  refine lv_istore_n (lv' := [(3, .int (zI (A.length : Int))), (0, .ref (B 70 0)), (1, .int (zI (sa : Int))), (2, .int (zI (sb : Int)))]) hx hb dX8_scripts_6 rfl hl (by decide) rfl (fun ls hl => ?_)
  have lp7 : ∀ (n : Nat) (i : Int) (R : Nat → Int) (Cl : gC) (H : Heap) (locs : List Loc), (i + 1 < (n : Int)) → (-1 ≤ i ∧ i ≤ A.length) → (tb A D R i D.length) → (Cl 87 0 = some (gJ Z 169 R)) → (Cl 88 0 = some (gJ Z 12 K0)) → (Cl 89 0 = some (gJ Z 12 M0)) → (∀ k' i', ¬ ((k' = 87 ∨ k' = 88 ∨ k' = 89) ∧ i' = 0) → Cl k' i' = C0 k' i') → gw Z B Cl H → va_S (gA Z) s.heap H locs → ∀ ls : Array Slot, lv_has ls 7 [(0, .ref (B 70 0)), (1, .int (zI (sa : Int))), (2, .int (zI (sb : Int))), (3, .int (zI i))] → W p l e rX8_scripts s m args below meth c H locs 0 0 Q (F0 m 7 ls []) := by
    intro n
    induction n with
    | zero =>
      intro i R Cl H locs hm hi hTl hRl hKl hMl hfl hW hS ls hl
      exact absurd hm (by omega)
    | succ n ih7 =>
      intro i R Cl H locs hm hi hTl hRl hKl hMl hfl hW hS ls hl
      refine lv_iload_n hx hb dX8_scripts_7 rfl (lv_at hl 3 rfl) ?_
      refine z_if_lt (tgt := 210) hx hb dX8_scripts_8 (by decide) (⟨by omega, by omega⟩) (fun h_8 => ?_) (fun h_8 => ?_)
      · refine lv_iconst (v := zI (0)) hx hb dX8_scripts_210 rfl ?_
        refine lv_istore_n (lv' := [(3, .int (zI 0)), (0, .ref (B 70 0)), (1, .int (zI (sa : Int))), (2, .int (zI (sb : Int)))]) hx hb dX8_scripts_211 rfl hl (by decide) rfl (fun ls hl => ?_)
        have lp212 : ∀ (n : Nat) (k : Nat) (K M : Nat → Int) (Cl : gC) (H : Heap) (locs : List Loc), (12 - k < n) → (k ≤ 12) → (∀ q, q < k → K q = -1) → (∀ q, q < k → M q = -1) → (Cl 87 0 = some (gJ Z 169 R)) → (Cl 88 0 = some (gJ Z 12 K)) → (Cl 89 0 = some (gJ Z 12 M)) → (∀ k' i', ¬ ((k' = 87 ∨ k' = 88 ∨ k' = 89) ∧ i' = 0) → Cl k' i' = C0 k' i') → gw Z B Cl H → va_S (gA Z) s.heap H locs → ∀ ls : Array Slot, lv_has ls 7 [(0, .ref (B 70 0)), (1, .int (zI (sa : Int))), (2, .int (zI (sb : Int))), (3, .int (zI (k : Int)))] → W p l e rX8_scripts s m args below meth c H locs 0 0 Q (F0 m 212 ls []) := by
          intro n
          induction n with
          | zero =>
            intro k K M Cl H locs hm hk12 hKv hMv hRl hKl hMl hfl hW hS ls hl
            exact absurd hm (by omega)
          | succ n ih212 =>
            intro k K M Cl H locs hm hk12 hKv hMv hRl hKl hMl hfl hW hS ls hl
            refine lv_iload_n hx hb dX8_scripts_212 rfl (lv_at hl 3 rfl) ?_
            refine lv_bipush (v := zI (12)) hx hb dX8_scripts_213 (by decide) ?_
            refine z_icmp_ge (tgt := 238) hx hb dX8_scripts_215 (by decide) (⟨by omega, by omega⟩) (⟨by omega, by omega⟩) (fun h_215 => ?_) (fun h_215 => ?_)
            · refine lv_iconst (v := zI (0)) hx hb dX8_scripts_238 rfl ?_
              refine lv_istore_n (lv' := [(3, .int (zI 0)), (0, .ref (B 70 0)), (1, .int (zI (sa : Int))), (2, .int (zI (sb : Int)))]) hx hb dX8_scripts_239 rfl hl (by decide) rfl (fun ls hl => ?_)
              refine lv_iconst (v := zI (0)) hx hb dX8_scripts_240 rfl ?_
              refine lv_istore (lv' := [(4, .int (zI 0)), (3, .int (zI 0)), (0, .ref (B 70 0)), (1, .int (zI (sa : Int))), (2, .int (zI (sb : Int)))]) hx hb dX8_scripts_241 hl (by decide) rfl (fun ls hl => ?_)
              have lp243 : ∀ (n : Nat) (i j : Nat) (pre : List Int) (K Fm Kr Mr : Nat → Int) (Cl : gC) (H : Heap) (locs : List Loc), (A.length + D.length - (i + j) < n) → (i ≤ A.length ∧ j ≤ D.length) → (fol A D i j pre K Fm) → (mrel Kr K i) → (mrel Mr Fm j) → (Cl 87 0 = some (gJ Z 169 R)) → (Cl 88 0 = some (gJ Z 12 Kr)) → (Cl 89 0 = some (gJ Z 12 Mr)) → (∀ k' i', ¬ ((k' = 87 ∨ k' = 88 ∨ k' = 89) ∧ i' = 0) → Cl k' i' = C0 k' i') → gw Z B Cl H → va_S (gA Z) s.heap H locs → ∀ ls : Array Slot, lv_has ls 7 [(0, .ref (B 70 0)), (1, .int (zI (sa : Int))), (2, .int (zI (sb : Int))), (3, .int (zI (i : Int))), (4, .int (zI (j : Int)))] → W p l e rX8_scripts s m args below meth c H locs 0 0 Q (F0 m 243 ls []) := by
                intro n
                induction n with
                | zero =>
                  intro i j pre K Fm Kr Mr Cl H locs hm hij hfo hrk hrf hRl hKl hMl hfl hW hS ls hl
                  exact absurd hm (by omega)
                | succ n ih243 =>
                  intro i j pre K Fm Kr Mr Cl H locs hm hij hfo hrk hrf hRl hKl hMl hfl hW hS ls hl
                  refine lv_iload_n hx hb dX8_scripts_243 rfl (lv_at hl 3 rfl) ?_
                  refine lv_aload_n hx hb dX8_scripts_244 rfl (lv_at hl 0 rfl) ?_
                  refine g_get (ci := 8) X in_X8_scripts_8 rfl hW ((hfl 70 0 (by omega)).trans h0) 6 (by decide) (hts _ (List.mem_of_getElem? (i := 1) rfl)) rfl dX8_scripts_245 ?_
                  refine lv_iload_n hx hb dX8_scripts_248 rfl (lv_at hl 1 rfl) ?_
                  refine z_iald X hW ((hfl 72 0 (by omega)).trans h72) (by omega) (by omega) (by omega) dX8_scripts_249 ?_
                  rw [show FS ((sa : Int)).toNat = (A.length : Int) from by rw [show ((sa : Int)).toNat = sa by omega]; exact hA]
                  refine z_icmp_ge (tgt := 348) hx hb dX8_scripts_250 (by decide) (⟨by omega, by omega⟩) (⟨by omega, by omega⟩) (fun h_250 => ?_) (fun h_250 => ?_)
                  · refine lv_aload_n hx hb dX8_scripts_348 rfl (lv_at hl 0 rfl) ?_
                    refine g_get (ci := 8) X in_X8_scripts_8 rfl hW ((hfl 70 0 (by omega)).trans h0) 21 (by decide) (hts _ (List.mem_of_getElem? (i := 2) rfl)) rfl dX8_scripts_349 ?_
                    refine lv_iconst (v := zI (0)) hx hb dX8_scripts_352 rfl ?_
                    refine z_iald X hW hRl (by omega) (by omega) (by omega) dX8_scripts_353 ?_
                    obtain ⟨hk9, hf9⟩ := mfin hfo (by omega) hrk hrf
                    have hr0 := hTl 0 0 (by omega) (by omega) (by omega)
                    exact kret _ _ _ _ _ _ _ _ (⟨congrArg zI (hr0.trans (by rfl)), ⟨⟨_, hKl, hk9⟩, ⟨_, hMl, hf9⟩⟩, ⟨_, hRl⟩, hfl⟩) hW hS (Nat.le_of_ble_eq_true rfl) (Nat.le_of_ble_eq_true rfl) dX8_scripts_354
                  · refine lv_iload hx hb dX8_scripts_253 (lv_at hl 4 rfl) ?_
                    refine lv_aload_n hx hb dX8_scripts_255 rfl (lv_at hl 0 rfl) ?_
                    refine g_get (ci := 8) X in_X8_scripts_8 rfl hW ((hfl 70 0 (by omega)).trans h0) 6 (by decide) (hts _ (List.mem_of_getElem? (i := 1) rfl)) rfl dX8_scripts_256 ?_
                    refine lv_iload_n hx hb dX8_scripts_259 rfl (lv_at hl 2 rfl) ?_
                    refine z_iald X hW ((hfl 72 0 (by omega)).trans h72) (by omega) (by omega) (by omega) dX8_scripts_260 ?_
                    rw [show FS ((sb : Int)).toNat = (D.length : Int) from by rw [show ((sb : Int)).toNat = sb by omega]; exact hD]
                    refine z_icmp_ge (tgt := 348) hx hb dX8_scripts_261 (by decide) (⟨by omega, by omega⟩) (⟨by omega, by omega⟩) (fun h_261 => ?_) (fun h_261 => ?_)
                    · refine lv_aload_n hx hb dX8_scripts_348 rfl (lv_at hl 0 rfl) ?_
                      refine g_get (ci := 8) X in_X8_scripts_8 rfl hW ((hfl 70 0 (by omega)).trans h0) 21 (by decide) (hts _ (List.mem_of_getElem? (i := 2) rfl)) rfl dX8_scripts_349 ?_
                      refine lv_iconst (v := zI (0)) hx hb dX8_scripts_352 rfl ?_
                      refine z_iald X hW hRl (by omega) (by omega) (by omega) dX8_scripts_353 ?_
                      obtain ⟨hk9, hf9⟩ := mfin hfo (by omega) hrk hrf
                      have hr0 := hTl 0 0 (by omega) (by omega) (by omega)
                      exact kret _ _ _ _ _ _ _ _ (⟨congrArg zI (hr0.trans (by rfl)), ⟨⟨_, hKl, hk9⟩, ⟨_, hMl, hf9⟩⟩, ⟨_, hRl⟩, hfl⟩) hW hS (Nat.le_of_ble_eq_true rfl) (Nat.le_of_ble_eq_true rfl) dX8_scripts_354
                    · refine lv_aload_n hx hb dX8_scripts_264 rfl (lv_at hl 0 rfl) ?_
                      refine lv_iload_n hx hb dX8_scripts_265 rfl (lv_at hl 1 rfl) ?_
                      refine lv_iload_n hx hb dX8_scripts_266 rfl (lv_at hl 3 rfl) ?_
                      refine g_ci (g_runV X (k_X8_line (a := (sa : Int)) (b := (i : Int)) ((hfl 70 0 (by omega)).trans h0) ((hfl 71 0 (by omega)).trans h71) (⟨by omega, by omega⟩) (⟨by omega, by omega⟩)) (cwV 2 hts gX8_scripts_X8_line rfl rfl rfl ⟨rfl, ds_X8_line⟩ ⟨Nat.le_of_ble_eq_true rfl, Nat.le_of_ble_eq_true rfl⟩) hW hS ((hfl 70 0 (by omega)).trans h0) rfl rfl hl.1 rfl (Nat.le_of_ble_eq_true rfl) dX8_scripts_267 ⟨Nat.le_of_ble_eq_true rfl, Nat.le_of_ble_eq_true rfl⟩) hS (fun r3 C1 H locs hp2 hW hS => ?_)
                      obtain ⟨rfl, ehp2⟩ := hp2
                      rw [ehp2] at hW
                      rw [ml hTA (by omega) (by omega)]
                      refine lv_aload_n hx hb dX8_scripts_270 rfl (lv_at hl 0 rfl) ?_
                      refine lv_iload_n hx hb dX8_scripts_271 rfl (lv_at hl 2 rfl) ?_
                      refine lv_iload hx hb dX8_scripts_272 (lv_at hl 4 rfl) ?_
                      refine g_ci (g_runV X (k_X8_line (a := (sb : Int)) (b := (j : Int)) ((hfl 70 0 (by omega)).trans h0) ((hfl 71 0 (by omega)).trans h71) (⟨by omega, by omega⟩) (⟨by omega, by omega⟩)) (cwV 2 hts gX8_scripts_X8_line rfl rfl rfl ⟨rfl, ds_X8_line⟩ ⟨Nat.le_of_ble_eq_true rfl, Nat.le_of_ble_eq_true rfl⟩) hW hS ((hfl 70 0 (by omega)).trans h0) rfl rfl hl.1 rfl (Nat.le_of_ble_eq_true rfl) dX8_scripts_274 ⟨Nat.le_of_ble_eq_true rfl, Nat.le_of_ble_eq_true rfl⟩) hS (fun r6 C4 H locs hp5 hW hS => ?_)
                      obtain ⟨rfl, ehp5⟩ := hp5
                      rw [ehp5] at hW
                      rw [ml hTD (by omega) (by omega)]
                      refine z_icmp_ne (tgt := 305) hx hb dX8_scripts_277 (by decide) (⟨by have := ta_rng hAr ((i : Int)); omega, by have := ta_rng hAr ((i : Int)); omega⟩) (⟨by have := ta_rng hDr ((j : Int)); omega, by have := ta_rng hDr ((j : Int)); omega⟩) (fun h_277 => ?_) (fun h_277 => ?_)
                      · refine lv_aload_n hx hb dX8_scripts_305 rfl (lv_at hl 0 rfl) ?_
                        refine g_get (ci := 8) X in_X8_scripts_8 rfl hW ((hfl 70 0 (by omega)).trans h0) 21 (by decide) (hts _ (List.mem_of_getElem? (i := 2) rfl)) rfl dX8_scripts_306 ?_
                        refine lv_bipush (v := zI (13)) hx hb dX8_scripts_309 (by decide) ?_
                        refine lv_iload_n hx hb dX8_scripts_311 rfl (lv_at hl 3 rfl) ?_
                        refine lv_iconst (v := zI (1)) hx hb dX8_scripts_312 rfl ?_
                        refine z_iadd hx hb dX8_scripts_313 ?_
                        refine z_imul hx hb dX8_scripts_314 ?_
                        refine lv_iload hx hb dX8_scripts_315 (lv_at hl 4 rfl) ?_
                        refine z_iadd hx hb dX8_scripts_317 ?_
                        refine z_iald X hW hRl (by omega) (by omega) (by omega) dX8_scripts_318 ?_
                        refine lv_aload_n hx hb dX8_scripts_319 rfl (lv_at hl 0 rfl) ?_
                        refine g_get (ci := 8) X in_X8_scripts_8 rfl hW ((hfl 70 0 (by omega)).trans h0) 21 (by decide) (hts _ (List.mem_of_getElem? (i := 2) rfl)) rfl dX8_scripts_320 ?_
                        refine lv_bipush (v := zI (13)) hx hb dX8_scripts_323 (by decide) ?_
                        refine lv_iload_n hx hb dX8_scripts_325 rfl (lv_at hl 3 rfl) ?_
                        refine z_imul hx hb dX8_scripts_326 ?_
                        refine lv_iload hx hb dX8_scripts_327 (lv_at hl 4 rfl) ?_
                        refine z_iadd hx hb dX8_scripts_329 ?_
                        refine lv_iconst (v := zI (1)) hx hb dX8_scripts_330 rfl ?_
                        refine z_iadd hx hb dX8_scripts_331 ?_
                        refine z_iald X hW hRl (by omega) (by omega) (by omega) dX8_scripts_332 ?_
                        refine z_icmp_gt (tgt := 342) hx hb dX8_scripts_333 (by decide) (tbm_rng hTl hA12 hD12 (x := (i : Int) + 1) (y := (j : Int)) (q := 13 * ((i : Int) + 1) + (j : Int)) (by omega) (by omega) (by omega) (by omega) (by omega) (by omega)) (tbm_rng hTl hA12 hD12 (x := (i : Int)) (y := (j : Int) + 1) (q := 13 * (i : Int) + (j : Int) + 1) (by omega) (by omega) (by omega) (by omega) (by omega) (by omega)) (fun h_333 => ?_) (fun h_333 => ?_)
                        · refine z_iinc (lv' := [(4, .int (zI ((j : Int) + 1))), (0, .ref (B 70 0)), (1, .int (zI (sa : Int))), (2, .int (zI (sb : Int))), (3, .int (zI (i : Int)))]) hx hb dX8_scripts_342 hl (q := 4) rfl (by decide) rfl (fun ls hl => ?_)
                          refine lv_goto (tgt := 243) hx hb dX8_scripts_345 (by decide) ?_
                          have hr1 := tbm_at hTl (x := (i : Int) + 1) (y := (j : Int)) (q := 13 * ((i : Int) + 1) + (j : Int)) (by omega) (by omega) (by omega) (by omega) (by omega) (by omega)
                          have hr2 := tbm_at hTl (x := (i : Int)) (y := (j : Int) + 1) (q := 13 * (i : Int) + (j : Int) + 1) (by omega) (by omega) (by omega) (by omega) (by omega) (by omega)
                          rw [show ((i : Int) + 1).toNat = i + 1 by omega, show ((j : Int)).toNat = j by omega] at hr1
                          rw [show ((j : Int) + 1).toNat = j + 1 by omega, show ((i : Int)).toNat = i by omega] at hr2
                          exact ih243 i (j + 1) (pre ++ [D.getD j (-1)]) K (ju Fm j (-1)) _ _ _ _ _ (by omega) (by omega) (fol_add hfo (by omega) (Or.inr ⟨by omega, (by rw [← ta_nat, ← ta_nat]; exact h_277), by omega⟩)) hrk (mrel_skip hrf (by omega)) hRl hKl hMl (hfl) hW hS _ (lv_sub hl [1, 2, 3, 4, 0] rfl)
                        · refine z_iinc (lv' := [(3, .int (zI ((i : Int) + 1))), (0, .ref (B 70 0)), (1, .int (zI (sa : Int))), (2, .int (zI (sb : Int))), (4, .int (zI (j : Int)))]) hx hb dX8_scripts_336 hl (q := 3) rfl (by decide) rfl (fun ls hl => ?_)
                          refine lv_goto (tgt := 243) hx hb dX8_scripts_339 (by decide) ?_
                          have hr1 := tbm_at hTl (x := (i : Int) + 1) (y := (j : Int)) (q := 13 * ((i : Int) + 1) + (j : Int)) (by omega) (by omega) (by omega) (by omega) (by omega) (by omega)
                          have hr2 := tbm_at hTl (x := (i : Int)) (y := (j : Int) + 1) (q := 13 * (i : Int) + (j : Int) + 1) (by omega) (by omega) (by omega) (by omega) (by omega) (by omega)
                          rw [show ((i : Int) + 1).toNat = i + 1 by omega, show ((j : Int)).toNat = j by omega] at hr1
                          rw [show ((j : Int) + 1).toNat = j + 1 by omega, show ((i : Int)).toNat = i by omega] at hr2
                          exact ih243 (i + 1) j (pre ++ [A.getD i (-1)]) (ju K i (-1)) Fm _ _ _ _ _ (by omega) (by omega) (fol_rem hfo (by omega) (Or.inr ⟨by omega, (by rw [← ta_nat, ← ta_nat]; exact h_277), by omega⟩)) (mrel_skip hrk (by omega)) hrf hRl hKl hMl (hfl) hW hS _ (lv_sub hl [1, 2, 3, 0, 4] rfl)
                      · refine lv_aload_n hx hb dX8_scripts_280 rfl (lv_at hl 0 rfl) ?_
                        refine g_get (ci := 8) X in_X8_scripts_8 rfl hW ((hfl 70 0 (by omega)).trans h0) 22 (by decide) (hts _ (List.mem_of_getElem? (i := 3) rfl)) rfl dX8_scripts_281 ?_
                        refine lv_iload_n hx hb dX8_scripts_284 rfl (lv_at hl 3 rfl) ?_
                        refine lv_iload hx hb dX8_scripts_285 (lv_at hl 4 rfl) ?_
                        refine z_iast X hW hS hKl (by omega) (by omega) (by omega) dX8_scripts_287 (fun C7 H locs hs8 hn9 hW hS => ?_)
                        refine lv_aload_n hx hb dX8_scripts_288 rfl (lv_at hl 0 rfl) ?_
                        have f10 : C7 70 0 = some (.inr (8, [.int (zI th), .int (zI nc), .int (zI rg), .int (zI cm), .int (zI ld), .ref (B 71 0), .ref (B 72 0), .ref (B 73 0), .ref (B 74 0), .ref (B 75 0), .ref (B 76 0), .ref (B 77 0), .ref (B 78 0), .ref (B 79 0), .ref (B 80 0), .ref (B 81 0), .ref (B 82 0), .ref (B 83 0), .ref (B 84 0), .ref (B 85 0), .ref (B 86 0), .ref (B 87 0), .ref (B 88 0), .ref (B 89 0), .ref (B 90 0), .int (zI mg)])) := ((hn9 70 0 (gk (by decide))).trans ((hfl 70 0 (by omega)).trans h0))
                        refine g_get (ci := 8) X in_X8_scripts_8 rfl hW f10 23 (by decide) (hts _ (List.mem_of_getElem? (i := 4) rfl)) rfl dX8_scripts_289 ?_
                        refine lv_iload hx hb dX8_scripts_292 (lv_at hl 4 rfl) ?_
                        refine lv_iload_n hx hb dX8_scripts_294 rfl (lv_at hl 3 rfl) ?_
                        have f11 : C7 89 0 = some (gJ Z 12 Mr) := ((hn9 89 0 (gk (by decide))).trans hMl)
                        refine z_iast X hW hS f11 (by omega) (by omega) (by omega) dX8_scripts_295 (fun C12 H locs hs13 hn14 hW hS => ?_)
                        refine z_iinc (lv' := [(3, .int (zI ((i : Int) + 1))), (0, .ref (B 70 0)), (1, .int (zI (sa : Int))), (2, .int (zI (sb : Int))), (4, .int (zI (j : Int)))]) hx hb dX8_scripts_296 hl (q := 3) rfl (by decide) rfl (fun ls hl => ?_)
                        refine z_iinc (lv' := [(4, .int (zI ((j : Int) + 1))), (3, .int (zI ((i : Int) + 1))), (0, .ref (B 70 0)), (1, .int (zI (sa : Int))), (2, .int (zI (sb : Int)))]) hx hb dX8_scripts_299 hl (q := 4) rfl (by decide) rfl (fun ls hl => ?_)
                        refine lv_goto (tgt := 243) hx hb dX8_scripts_302 (by decide) ?_
                        have f15 : C12 87 0 = some (gJ Z 169 R) := ((hn14 87 0 (gk (by decide))).trans ((hn9 87 0 (gk (by decide))).trans hRl))
                        have f16 : C12 88 0 = some (gJ Z 12 (ju Kr (i : Int).toNat (j : Int))) := ((hn14 88 0 (gk (by decide))).trans hs8)
                        exact ih243 (i + 1) (j + 1) pre (ju K i j) (ju Fm j i) _ _ _ _ _ (by omega) (by omega) (fol_keep hfo (by omega) (by omega) (by rw [← ta_nat, ← ta_nat]; exact h_277)) (mrel_keep hrk) (mrel_keep hrf) f15 f16 hs13 (fun k' i' h => (hn14 k' i' (by omega)).trans ((hn9 k' i' (by omega)).trans (hfl k' i' h))) hW hS _ (lv_sub hl [2, 3, 4, 1, 0] rfl)
              exact lp243 (A.length + D.length + 1) 0 0 [] K M K M _ _ _ (by omega) (by omega) (fol_0 A D K M) (mrel_0 (fun q hq => hKv q (by omega))) (mrel_0 (fun q hq => hMv q (by omega))) hRl hKl hMl hfl hW hS _ (lv_sub hl [2, 3, 4, 1, 0] rfl)
            · refine lv_aload_n hx hb dX8_scripts_218 rfl (lv_at hl 0 rfl) ?_
              refine g_get (ci := 8) X in_X8_scripts_8 rfl hW ((hfl 70 0 (by omega)).trans h0) 22 (by decide) (hts _ (List.mem_of_getElem? (i := 3) rfl)) rfl dX8_scripts_219 ?_
              refine lv_iload_n hx hb dX8_scripts_222 rfl (lv_at hl 3 rfl) ?_
              refine lv_iconst (v := zI (-1)) hx hb dX8_scripts_223 rfl ?_
              refine z_iast X hW hS hKl (by omega) (by omega) (by omega) dX8_scripts_224 (fun C17 H locs hs18 hn19 hW hS => ?_)
              refine lv_aload_n hx hb dX8_scripts_225 rfl (lv_at hl 0 rfl) ?_
              have f20 : C17 70 0 = some (.inr (8, [.int (zI th), .int (zI nc), .int (zI rg), .int (zI cm), .int (zI ld), .ref (B 71 0), .ref (B 72 0), .ref (B 73 0), .ref (B 74 0), .ref (B 75 0), .ref (B 76 0), .ref (B 77 0), .ref (B 78 0), .ref (B 79 0), .ref (B 80 0), .ref (B 81 0), .ref (B 82 0), .ref (B 83 0), .ref (B 84 0), .ref (B 85 0), .ref (B 86 0), .ref (B 87 0), .ref (B 88 0), .ref (B 89 0), .ref (B 90 0), .int (zI mg)])) := ((hn19 70 0 (gk (by decide))).trans ((hfl 70 0 (by omega)).trans h0))
              refine g_get (ci := 8) X in_X8_scripts_8 rfl hW f20 23 (by decide) (hts _ (List.mem_of_getElem? (i := 4) rfl)) rfl dX8_scripts_226 ?_
              refine lv_iload_n hx hb dX8_scripts_229 rfl (lv_at hl 3 rfl) ?_
              refine lv_iconst (v := zI (-1)) hx hb dX8_scripts_230 rfl ?_
              have f21 : C17 89 0 = some (gJ Z 12 M) := ((hn19 89 0 (gk (by decide))).trans hMl)
              refine z_iast X hW hS f21 (by omega) (by omega) (by omega) dX8_scripts_231 (fun C22 H locs hs23 hn24 hW hS => ?_)
              refine z_iinc (lv' := [(3, .int (zI ((k : Int) + 1))), (0, .ref (B 70 0)), (1, .int (zI (sa : Int))), (2, .int (zI (sb : Int)))]) hx hb dX8_scripts_232 hl (q := 3) rfl (by decide) rfl (fun ls hl => ?_)
              refine lv_goto (tgt := 212) hx hb dX8_scripts_235 (by decide) ?_
              have f25 : C22 87 0 = some (gJ Z 169 R) := ((hn24 87 0 (gk (by decide))).trans ((hn19 87 0 (gk (by decide))).trans hRl))
              have f26 : C22 88 0 = some (gJ Z 12 (ju K (k : Int).toNat (-1))) := ((hn24 88 0 (gk (by decide))).trans hs18)
              exact ih212 (k + 1) _ _ _ _ _ (by omega) (by omega) (fun q hq => by by_cases e9 : q = k; (rw [e9, show ((k : Int)).toNat = k by omega, ju_s]); (rw [show ((k : Int)).toNat = k by omega, ju_n e9]; exact hKv q (by omega))) (fun q hq => by by_cases e9 : q = k; (rw [e9, show ((k : Int)).toNat = k by omega, ju_s]); (rw [show ((k : Int)).toNat = k by omega, ju_n e9]; exact hMv q (by omega))) f25 f26 hs23 (fun k' i' h => (hn24 k' i' (by omega)).trans ((hn19 k' i' (by omega)).trans (hfl k' i' h))) hW hS _ (lv_sub hl [1, 2, 3, 0] rfl)
        exact lp212 13 0 K0 M0 _ _ _ (by omega) (by omega) (fun q hq => by omega) (fun q hq => by omega) hRl hKl hMl hfl hW hS _ (lv_sub hl [1, 2, 3, 0] rfl)
      · refine lv_aload_n hx hb dX8_scripts_11 rfl (lv_at hl 0 rfl) ?_
        refine g_get (ci := 8) X in_X8_scripts_8 rfl hW ((hfl 70 0 (by omega)).trans h0) 6 (by decide) (hts _ (List.mem_of_getElem? (i := 1) rfl)) rfl dX8_scripts_12 ?_
        refine lv_iload_n hx hb dX8_scripts_15 rfl (lv_at hl 2 rfl) ?_
        refine z_iald X hW ((hfl 72 0 (by omega)).trans h72) (by omega) (by omega) (by omega) dX8_scripts_16 ?_
        rw [show FS ((sb : Int)).toNat = (D.length : Int) from by rw [show ((sb : Int)).toNat = sb by omega]; exact hD]
        refine lv_istore (lv' := [(4, .int (zI (D.length : Int))), (0, .ref (B 70 0)), (1, .int (zI (sa : Int))), (2, .int (zI (sb : Int))), (3, .int (zI i))]) hx hb dX8_scripts_17 hl (by decide) rfl (fun ls hl => ?_)
        have lp19 : ∀ (n : Nat) (j : Int) (R : Nat → Int) (Cl : gC) (H : Heap) (locs : List Loc), (j + 1 < (n : Int)) → (-1 ≤ j ∧ j ≤ D.length) → (tb A D R i j) → (Cl 87 0 = some (gJ Z 169 R)) → (Cl 88 0 = some (gJ Z 12 K0)) → (Cl 89 0 = some (gJ Z 12 M0)) → (∀ k' i', ¬ ((k' = 87 ∨ k' = 88 ∨ k' = 89) ∧ i' = 0) → Cl k' i' = C0 k' i') → gw Z B Cl H → va_S (gA Z) s.heap H locs → ∀ ls : Array Slot, lv_has ls 7 [(0, .ref (B 70 0)), (1, .int (zI (sa : Int))), (2, .int (zI (sb : Int))), (3, .int (zI i)), (4, .int (zI j))] → W p l e rX8_scripts s m args below meth c H locs 0 0 Q (F0 m 19 ls []) := by
          intro n
          induction n with
          | zero =>
            intro j R Cl H locs hm hj hTl hRl hKl hMl hfl hW hS ls hl
            exact absurd hm (by omega)
          | succ n ih19 =>
            intro j R Cl H locs hm hj hTl hRl hKl hMl hfl hW hS ls hl
            refine lv_iload hx hb dX8_scripts_19 (lv_at hl 4 rfl) ?_
            refine z_if_lt (tgt := 204) hx hb dX8_scripts_21 (by decide) (⟨by omega, by omega⟩) (fun h_21 => ?_) (fun h_21 => ?_)
            · refine z_iinc (lv' := [(3, .int (zI (i + (-1)))), (0, .ref (B 70 0)), (1, .int (zI (sa : Int))), (2, .int (zI (sb : Int))), (4, .int (zI j))]) hx hb dX8_scripts_204 hl (q := 3) rfl (by decide) rfl (fun ls hl => ?_)
              refine lv_goto (tgt := 7) hx hb dX8_scripts_207 (by decide) ?_
              exact ih7 (i + -1) R _ _ _ (by omega) (by omega) (tb_row ((show j = -1 by omega) ▸ hTl)) hRl hKl hMl hfl hW hS _ (lv_sub hl [1, 2, 3, 0] rfl)
            · refine lv_aload_n hx hb dX8_scripts_24 rfl (lv_at hl 0 rfl) ?_
              refine g_get (ci := 8) X in_X8_scripts_8 rfl hW ((hfl 70 0 (by omega)).trans h0) 6 (by decide) (hts _ (List.mem_of_getElem? (i := 1) rfl)) rfl dX8_scripts_25 ?_
              refine lv_iload_n hx hb dX8_scripts_28 rfl (lv_at hl 1 rfl) ?_
              refine z_iald X hW ((hfl 72 0 (by omega)).trans h72) (by omega) (by omega) (by omega) dX8_scripts_29 ?_
              rw [show FS ((sa : Int)).toNat = (A.length : Int) from by rw [show ((sa : Int)).toNat = sa by omega]; exact hA]
              refine lv_iload_n hx hb dX8_scripts_30 rfl (lv_at hl 3 rfl) ?_
              refine z_isub hx hb dX8_scripts_31 ?_
              refine lv_istore (lv' := [(5, .int (zI ((A.length : Int) - i))), (0, .ref (B 70 0)), (1, .int (zI (sa : Int))), (2, .int (zI (sb : Int))), (3, .int (zI i)), (4, .int (zI j))]) hx hb dX8_scripts_32 hl (by decide) rfl (fun ls hl => ?_)
              refine lv_aload_n hx hb dX8_scripts_34 rfl (lv_at hl 1 rfl) ?_
              refine g_get (ci := 8) X in_X8_scripts_8 rfl hW ((hfl 70 0 (by omega)).trans h0) 6 (by decide) (hts _ (List.mem_of_getElem? (i := 1) rfl)) rfl dX8_scripts_35 ?_
              refine lv_iload_n hx hb dX8_scripts_38 rfl (lv_at hl 3 rfl) ?_
              refine z_iald X hW ((hfl 72 0 (by omega)).trans h72) (by omega) (by omega) (by omega) dX8_scripts_39 ?_
              rw [show FS ((sb : Int)).toNat = (D.length : Int) from by rw [show ((sb : Int)).toNat = sb by omega]; exact hD]
              refine lv_iload hx hb dX8_scripts_40 (lv_at hl 5 rfl) ?_
              refine z_isub hx hb dX8_scripts_42 ?_
              refine lv_istore (lv' := [(6, .int (zI ((D.length : Int) - j))), (5, .int (zI ((A.length : Int) - i))), (0, .ref (B 70 0)), (1, .int (zI (sa : Int))), (2, .int (zI (sb : Int))), (3, .int (zI i)), (4, .int (zI j))]) hx hb dX8_scripts_43 hl (by decide) rfl (fun ls hl => ?_)
              refine lv_iload hx hb dX8_scripts_45 (lv_at hl 1 rfl) ?_
              refine z_if_eq (tgt := 55) hx hb dX8_scripts_47 (by decide) (⟨by omega, by omega⟩) (fun h_47 => ?_) (fun h_47 => ?_)
              · refine lv_aload_n hx hb dX8_scripts_55 rfl (lv_at hl 2 rfl) ?_
                refine g_get (ci := 8) X in_X8_scripts_8 rfl hW ((hfl 70 0 (by omega)).trans h0) 21 (by decide) (hts _ (List.mem_of_getElem? (i := 2) rfl)) rfl dX8_scripts_56 ?_
                refine lv_bipush (v := zI (13)) hx hb dX8_scripts_59 (by decide) ?_
                refine lv_iload_n hx hb dX8_scripts_61 rfl (lv_at hl 5 rfl) ?_
                refine z_imul hx hb dX8_scripts_62 ?_
                refine lv_iload hx hb dX8_scripts_63 (lv_at hl 6 rfl) ?_
                refine z_iadd hx hb dX8_scripts_65 ?_
                refine lv_iload hx hb dX8_scripts_66 (lv_at hl 1 rfl) ?_
                refine lv_iload hx hb dX8_scripts_68 (lv_at hl 0 rfl) ?_
                refine z_iadd hx hb dX8_scripts_70 ?_
                refine z_iast X hW hS hRl (by omega) (by omega) (by omega) dX8_scripts_71 (fun C27 H locs hs28 hn29 hW hS => ?_)
                refine lv_goto (tgt := 198) hx hb dX8_scripts_72 (by decide) ?_
                refine z_iinc (lv' := [(4, .int (zI (j + (-1)))), (6, .int (zI ((D.length : Int) - j))), (5, .int (zI ((A.length : Int) - i))), (0, .ref (B 70 0)), (1, .int (zI (sa : Int))), (2, .int (zI (sb : Int))), (3, .int (zI i))]) hx hb dX8_scripts_198 hl (q := 6) rfl (by decide) rfl (fun ls hl => ?_)
                refine lv_goto (tgt := 19) hx hb dX8_scripts_201 (by decide) ?_
                have f30 : C27 88 0 = some (gJ Z 12 K0) := ((hn29 88 0 (gk (by decide))).trans hKl)
                have f31 : C27 89 0 = some (gJ Z 12 M0) := ((hn29 89 0 (gk (by decide))).trans hMl)
                exact ih19 (j + -1) _ _ _ _ (by omega) (by omega) (tbm_step h_8 h_21 hj.2 hD12 hTl (tbm_end h_8 h_21 hi.2 hj.2 (Or.inl h_47))) hs28 f30 f31 (fun k' i' h => (hn29 k' i' (by omega)).trans (hfl k' i' h)) hW hS _ (lv_sub hl [3, 4, 5, 6, 0] rfl)
              · refine lv_iload hx hb dX8_scripts_50 (lv_at hl 0 rfl) ?_
                refine z_if_ne (tgt := 75) hx hb dX8_scripts_52 (by decide) (⟨by omega, by omega⟩) (fun h_52 => ?_) (fun h_52 => ?_)
                · refine lv_aload_n hx hb dX8_scripts_75 rfl (lv_at hl 2 rfl) ?_
                  refine lv_iload_n hx hb dX8_scripts_76 rfl (lv_at hl 3 rfl) ?_
                  refine lv_iload_n hx hb dX8_scripts_77 rfl (lv_at hl 5 rfl) ?_
                  refine g_ci (g_runV X (k_X8_line (a := (sa : Int)) (b := i) ((hfl 70 0 (by omega)).trans h0) ((hfl 71 0 (by omega)).trans h71) (⟨by omega, by omega⟩) (⟨by omega, by omega⟩)) (cwV 2 hts gX8_scripts_X8_line rfl rfl rfl ⟨rfl, ds_X8_line⟩ ⟨Nat.le_of_ble_eq_true rfl, Nat.le_of_ble_eq_true rfl⟩) hW hS ((hfl 70 0 (by omega)).trans h0) rfl rfl hl.1 rfl (Nat.le_of_ble_eq_true rfl) dX8_scripts_78 ⟨Nat.le_of_ble_eq_true rfl, Nat.le_of_ble_eq_true rfl⟩) hS (fun r34 C32 H locs hp33 hW hS => ?_)
                  obtain ⟨rfl, ehp33⟩ := hp33
                  rw [ehp33] at hW
                  rw [ml hTA (by omega) (by omega)]
                  refine lv_aload_n hx hb dX8_scripts_81 rfl (lv_at hl 2 rfl) ?_
                  refine lv_iload_n hx hb dX8_scripts_82 rfl (lv_at hl 4 rfl) ?_
                  refine lv_iload hx hb dX8_scripts_83 (lv_at hl 6 rfl) ?_
                  refine g_ci (g_runV X (k_X8_line (a := (sb : Int)) (b := j) ((hfl 70 0 (by omega)).trans h0) ((hfl 71 0 (by omega)).trans h71) (⟨by omega, by omega⟩) (⟨by omega, by omega⟩)) (cwV 2 hts gX8_scripts_X8_line rfl rfl rfl ⟨rfl, ds_X8_line⟩ ⟨Nat.le_of_ble_eq_true rfl, Nat.le_of_ble_eq_true rfl⟩) hW hS ((hfl 70 0 (by omega)).trans h0) rfl rfl hl.1 rfl (Nat.le_of_ble_eq_true rfl) dX8_scripts_85 ⟨Nat.le_of_ble_eq_true rfl, Nat.le_of_ble_eq_true rfl⟩) hS (fun r37 C35 H locs hp36 hW hS => ?_)
                  obtain ⟨rfl, ehp36⟩ := hp36
                  rw [ehp36] at hW
                  rw [ml hTD (by omega) (by omega)]
                  refine z_icmp_ne (tgt := 122) hx hb dX8_scripts_88 (by decide) (⟨by have := ta_rng hAr (i); omega, by have := ta_rng hAr (i); omega⟩) (⟨by have := ta_rng hDr (j); omega, by have := ta_rng hDr (j); omega⟩) (fun h_88 => ?_) (fun h_88 => ?_)
                  · refine lv_aload_n hx hb dX8_scripts_122 rfl (lv_at hl 2 rfl) ?_
                    refine g_get (ci := 8) X in_X8_scripts_8 rfl hW ((hfl 70 0 (by omega)).trans h0) 21 (by decide) (hts _ (List.mem_of_getElem? (i := 2) rfl)) rfl dX8_scripts_123 ?_
                    refine lv_bipush (v := zI (13)) hx hb dX8_scripts_126 (by decide) ?_
                    refine lv_iload_n hx hb dX8_scripts_128 rfl (lv_at hl 5 rfl) ?_
                    refine z_imul hx hb dX8_scripts_129 ?_
                    refine lv_iload hx hb dX8_scripts_130 (lv_at hl 6 rfl) ?_
                    refine z_iadd hx hb dX8_scripts_132 ?_
                    refine lv_iconst (v := zI (1)) hx hb dX8_scripts_133 rfl ?_
                    refine lv_aload_n hx hb dX8_scripts_134 rfl (lv_at hl 2 rfl) ?_
                    refine g_get (ci := 8) X in_X8_scripts_8 rfl hW ((hfl 70 0 (by omega)).trans h0) 21 (by decide) (hts _ (List.mem_of_getElem? (i := 2) rfl)) rfl dX8_scripts_135 ?_
                    refine lv_bipush (v := zI (13)) hx hb dX8_scripts_138 (by decide) ?_
                    refine lv_iload_n hx hb dX8_scripts_140 rfl (lv_at hl 5 rfl) ?_
                    refine lv_iconst (v := zI (1)) hx hb dX8_scripts_141 rfl ?_
                    refine z_iadd hx hb dX8_scripts_142 ?_
                    refine z_imul hx hb dX8_scripts_143 ?_
                    refine lv_iload hx hb dX8_scripts_144 (lv_at hl 6 rfl) ?_
                    refine z_iadd hx hb dX8_scripts_146 ?_
                    refine z_iald X hW hRl (by omega) (by omega) (by omega) dX8_scripts_147 ?_
                    refine lv_aload_n hx hb dX8_scripts_148 rfl (lv_at hl 2 rfl) ?_
                    refine g_get (ci := 8) X in_X8_scripts_8 rfl hW ((hfl 70 0 (by omega)).trans h0) 21 (by decide) (hts _ (List.mem_of_getElem? (i := 2) rfl)) rfl dX8_scripts_149 ?_
                    refine lv_bipush (v := zI (13)) hx hb dX8_scripts_152 (by decide) ?_
                    refine lv_iload_n hx hb dX8_scripts_154 rfl (lv_at hl 5 rfl) ?_
                    refine z_imul hx hb dX8_scripts_155 ?_
                    refine lv_iload hx hb dX8_scripts_156 (lv_at hl 6 rfl) ?_
                    refine z_iadd hx hb dX8_scripts_158 ?_
                    refine lv_iconst (v := zI (1)) hx hb dX8_scripts_159 rfl ?_
                    refine z_iadd hx hb dX8_scripts_160 ?_
                    refine z_iald X hW hRl (by omega) (by omega) (by omega) dX8_scripts_161 ?_
                    refine z_icmp_ge (tgt := 182) hx hb dX8_scripts_162 (by decide) (tbm_rng hTl hA12 hD12 (x := i + 1) (y := j) (q := 13 * (i + 1) + j) (by omega) (by omega) (by omega) (by omega) (by omega) (by omega)) (tbm_rng hTl hA12 hD12 (x := i) (y := j + 1) (q := 13 * i + j + 1) (by omega) (by omega) (by omega) (by omega) (by omega) (by omega)) (fun h_162 => ?_) (fun h_162 => ?_)
                    · refine lv_aload_n hx hb dX8_scripts_182 rfl (lv_at hl 2 rfl) ?_
                      refine g_get (ci := 8) X in_X8_scripts_8 rfl hW ((hfl 70 0 (by omega)).trans h0) 21 (by decide) (hts _ (List.mem_of_getElem? (i := 2) rfl)) rfl dX8_scripts_183 ?_
                      refine lv_bipush (v := zI (13)) hx hb dX8_scripts_186 (by decide) ?_
                      refine lv_iload_n hx hb dX8_scripts_188 rfl (lv_at hl 5 rfl) ?_
                      refine z_imul hx hb dX8_scripts_189 ?_
                      refine lv_iload hx hb dX8_scripts_190 (lv_at hl 6 rfl) ?_
                      refine z_iadd hx hb dX8_scripts_192 ?_
                      refine lv_iconst (v := zI (1)) hx hb dX8_scripts_193 rfl ?_
                      refine z_iadd hx hb dX8_scripts_194 ?_
                      refine z_iald X hW hRl (by omega) (by omega) (by omega) dX8_scripts_195 ?_
                      refine z_iadd hx hb dX8_scripts_196 ?_
                      refine z_iast X hW hS hRl (by omega) (by omega) (by omega) dX8_scripts_197 (fun C38 H locs hs39 hn40 hW hS => ?_)
                      refine z_iinc (lv' := [(4, .int (zI (j + (-1)))), (6, .int (zI ((D.length : Int) - j))), (5, .int (zI ((A.length : Int) - i))), (0, .ref (B 70 0)), (1, .int (zI (sa : Int))), (2, .int (zI (sb : Int))), (3, .int (zI i))]) hx hb dX8_scripts_198 hl (q := 6) rfl (by decide) rfl (fun ls hl => ?_)
                      refine lv_goto (tgt := 19) hx hb dX8_scripts_201 (by decide) ?_
                      have f41 : C38 88 0 = some (gJ Z 12 K0) := ((hn40 88 0 (gk (by decide))).trans hKl)
                      have f42 : C38 89 0 = some (gJ Z 12 M0) := ((hn40 89 0 (gk (by decide))).trans hMl)
                      exact ih19 (j + -1) _ _ _ _ (by omega) (by omega) (tbm_step h_8 h_21 hj.2 hD12 hTl (tbm_ge hTl h_8 h_21 (by omega) (by omega) h_88 (by omega))) hs39 f41 f42 (fun k' i' h => (hn40 k' i' (by omega)).trans (hfl k' i' h)) hW hS _ (lv_sub hl [3, 4, 5, 6, 0] rfl)
                    · refine lv_aload_n hx hb dX8_scripts_165 rfl (lv_at hl 2 rfl) ?_
                      refine g_get (ci := 8) X in_X8_scripts_8 rfl hW ((hfl 70 0 (by omega)).trans h0) 21 (by decide) (hts _ (List.mem_of_getElem? (i := 2) rfl)) rfl dX8_scripts_166 ?_
                      refine lv_bipush (v := zI (13)) hx hb dX8_scripts_169 (by decide) ?_
                      refine lv_iload_n hx hb dX8_scripts_171 rfl (lv_at hl 5 rfl) ?_
                      refine lv_iconst (v := zI (1)) hx hb dX8_scripts_172 rfl ?_
                      refine z_iadd hx hb dX8_scripts_173 ?_
                      refine z_imul hx hb dX8_scripts_174 ?_
                      refine lv_iload hx hb dX8_scripts_175 (lv_at hl 6 rfl) ?_
                      refine z_iadd hx hb dX8_scripts_177 ?_
                      refine z_iald X hW hRl (by omega) (by omega) (by omega) dX8_scripts_178 ?_
                      refine lv_goto (tgt := 196) hx hb dX8_scripts_179 (by decide) ?_
                      refine z_iadd hx hb dX8_scripts_196 ?_
                      refine z_iast X hW hS hRl (by omega) (by omega) (by omega) dX8_scripts_197 (fun C43 H locs hs44 hn45 hW hS => ?_)
                      refine z_iinc (lv' := [(4, .int (zI (j + (-1)))), (6, .int (zI ((D.length : Int) - j))), (5, .int (zI ((A.length : Int) - i))), (0, .ref (B 70 0)), (1, .int (zI (sa : Int))), (2, .int (zI (sb : Int))), (3, .int (zI i))]) hx hb dX8_scripts_198 hl (q := 6) rfl (by decide) rfl (fun ls hl => ?_)
                      refine lv_goto (tgt := 19) hx hb dX8_scripts_201 (by decide) ?_
                      have f46 : C43 88 0 = some (gJ Z 12 K0) := ((hn45 88 0 (gk (by decide))).trans hKl)
                      have f47 : C43 89 0 = some (gJ Z 12 M0) := ((hn45 89 0 (gk (by decide))).trans hMl)
                      exact ih19 (j + -1) _ _ _ _ (by omega) (by omega) (tbm_step h_8 h_21 hj.2 hD12 hTl (tbm_lt hTl h_8 h_21 (by omega) (by omega) h_88 (by omega))) hs44 f46 f47 (fun k' i' h => (hn45 k' i' (by omega)).trans (hfl k' i' h)) hW hS _ (lv_sub hl [3, 4, 5, 6, 0] rfl)
                  · refine lv_aload_n hx hb dX8_scripts_91 rfl (lv_at hl 2 rfl) ?_
                    refine g_get (ci := 8) X in_X8_scripts_8 rfl hW ((hfl 70 0 (by omega)).trans h0) 21 (by decide) (hts _ (List.mem_of_getElem? (i := 2) rfl)) rfl dX8_scripts_92 ?_
                    refine lv_bipush (v := zI (13)) hx hb dX8_scripts_95 (by decide) ?_
                    refine lv_iload_n hx hb dX8_scripts_97 rfl (lv_at hl 5 rfl) ?_
                    refine z_imul hx hb dX8_scripts_98 ?_
                    refine lv_iload hx hb dX8_scripts_99 (lv_at hl 6 rfl) ?_
                    refine z_iadd hx hb dX8_scripts_101 ?_
                    refine lv_aload_n hx hb dX8_scripts_102 rfl (lv_at hl 2 rfl) ?_
                    refine g_get (ci := 8) X in_X8_scripts_8 rfl hW ((hfl 70 0 (by omega)).trans h0) 21 (by decide) (hts _ (List.mem_of_getElem? (i := 2) rfl)) rfl dX8_scripts_103 ?_
                    refine lv_bipush (v := zI (13)) hx hb dX8_scripts_106 (by decide) ?_
                    refine lv_iload_n hx hb dX8_scripts_108 rfl (lv_at hl 5 rfl) ?_
                    refine lv_iconst (v := zI (1)) hx hb dX8_scripts_109 rfl ?_
                    refine z_iadd hx hb dX8_scripts_110 ?_
                    refine z_imul hx hb dX8_scripts_111 ?_
                    refine lv_iload hx hb dX8_scripts_112 (lv_at hl 6 rfl) ?_
                    refine z_iadd hx hb dX8_scripts_114 ?_
                    refine lv_iconst (v := zI (1)) hx hb dX8_scripts_115 rfl ?_
                    refine z_iadd hx hb dX8_scripts_116 ?_
                    refine z_iald X hW hRl (by omega) (by omega) (by omega) dX8_scripts_117 ?_
                    refine z_iast X hW hS hRl (by omega) (by omega) (by omega) dX8_scripts_118 (fun C48 H locs hs49 hn50 hW hS => ?_)
                    refine lv_goto (tgt := 198) hx hb dX8_scripts_119 (by decide) ?_
                    refine z_iinc (lv' := [(4, .int (zI (j + (-1)))), (6, .int (zI ((D.length : Int) - j))), (5, .int (zI ((A.length : Int) - i))), (0, .ref (B 70 0)), (1, .int (zI (sa : Int))), (2, .int (zI (sb : Int))), (3, .int (zI i))]) hx hb dX8_scripts_198 hl (q := 6) rfl (by decide) rfl (fun ls hl => ?_)
                    refine lv_goto (tgt := 19) hx hb dX8_scripts_201 (by decide) ?_
                    have f51 : C48 88 0 = some (gJ Z 12 K0) := ((hn50 88 0 (gk (by decide))).trans hKl)
                    have f52 : C48 89 0 = some (gJ Z 12 M0) := ((hn50 89 0 (gk (by decide))).trans hMl)
                    exact ih19 (j + -1) _ _ _ _ (by omega) (by omega) (tbm_step h_8 h_21 hj.2 hD12 hTl (tbm_eq hTl h_8 h_21 (by omega) (by omega) h_88)) hs49 f51 f52 (fun k' i' h => (hn50 k' i' (by omega)).trans (hfl k' i' h)) hW hS _ (lv_sub hl [3, 4, 5, 6, 0] rfl)
                · refine lv_aload_n hx hb dX8_scripts_55 rfl (lv_at hl 2 rfl) ?_
                  refine g_get (ci := 8) X in_X8_scripts_8 rfl hW ((hfl 70 0 (by omega)).trans h0) 21 (by decide) (hts _ (List.mem_of_getElem? (i := 2) rfl)) rfl dX8_scripts_56 ?_
                  refine lv_bipush (v := zI (13)) hx hb dX8_scripts_59 (by decide) ?_
                  refine lv_iload_n hx hb dX8_scripts_61 rfl (lv_at hl 5 rfl) ?_
                  refine z_imul hx hb dX8_scripts_62 ?_
                  refine lv_iload hx hb dX8_scripts_63 (lv_at hl 6 rfl) ?_
                  refine z_iadd hx hb dX8_scripts_65 ?_
                  refine lv_iload hx hb dX8_scripts_66 (lv_at hl 1 rfl) ?_
                  refine lv_iload hx hb dX8_scripts_68 (lv_at hl 0 rfl) ?_
                  refine z_iadd hx hb dX8_scripts_70 ?_
                  refine z_iast X hW hS hRl (by omega) (by omega) (by omega) dX8_scripts_71 (fun C53 H locs hs54 hn55 hW hS => ?_)
                  refine lv_goto (tgt := 198) hx hb dX8_scripts_72 (by decide) ?_
                  refine z_iinc (lv' := [(4, .int (zI (j + (-1)))), (6, .int (zI ((D.length : Int) - j))), (5, .int (zI ((A.length : Int) - i))), (0, .ref (B 70 0)), (1, .int (zI (sa : Int))), (2, .int (zI (sb : Int))), (3, .int (zI i))]) hx hb dX8_scripts_198 hl (q := 6) rfl (by decide) rfl (fun ls hl => ?_)
                  refine lv_goto (tgt := 19) hx hb dX8_scripts_201 (by decide) ?_
                  have f56 : C53 88 0 = some (gJ Z 12 K0) := ((hn55 88 0 (gk (by decide))).trans hKl)
                  have f57 : C53 89 0 = some (gJ Z 12 M0) := ((hn55 89 0 (gk (by decide))).trans hMl)
                  exact ih19 (j + -1) _ _ _ _ (by omega) (by omega) (tbm_step h_8 h_21 hj.2 hD12 hTl (tbm_end h_8 h_21 hi.2 hj.2 (Or.inr (by omega)))) hs54 f56 f57 (fun k' i' h => (hn55 k' i' (by omega)).trans (hfl k' i' h)) hW hS _ (lv_sub hl [3, 4, 5, 6, 0] rfl)
        exact lp19 (D.length + 2) (D.length : Int) R _ _ _ (by omega) (by omega) hTl hRl hKl hMl hfl hW hS _ (lv_sub hl [1, 2, 3, 4, 0] rfl)
  exact lp7 (A.length + 2) (A.length : Int) R0 _ _ _ (by omega) (by omega) tb_init h87 h88 h89 (fun _ _ _ => rfl) hW hS _ (lv_sub hl [1, 2, 3, 0] rfl)
