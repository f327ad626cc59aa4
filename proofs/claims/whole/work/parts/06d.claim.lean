set_option maxHeartbeats 4000000 in
set_option maxRecDepth 100000 in
theorem whole_start {p : Program} {e : Env} {s : State} {m : MethodId} {below : List Frame} {meth : Method} {c : Code} (l : Launch) (hflags : l.flags = flags0) {b L : Nat} {xs : Nat → Int32} (hL : L ≤ 2048) (C0 : lw_At p s m meth c b L xs) : W p l e room_1 s m #[Value.ref b] below meth c s.heap [] 0 0 (lw_Z below #[Value.ref b] s) (entryFrame m ([Value.ref b] : List Value).toArray 7) := by
  obtain ⟨hx, hb, hr, hml, hown, hts0, hX, hbl, hlocks, hgv⟩ := id C0
  have hfl : l.stackTraces = false := by
    unfold Launch.stackTraces
    rw [hflags]
    decide +kernel
  have hts : ∀ w ∈ wsL_law, w.before #[Value.ref b] s = true := fun w h => hts0 w (wsL_law_in w h)
  have hs := flat_of_before _ hgv
  obtain ⟨c0, i0, k0⟩ := u_known (C := RX0) (T := TX0) (N := 1) (n := 1) hts inlX0 (hts (.instantiable RX0 1) (in_r2 _ (List.mem_of_getElem? (i := 9) rfl)))
  obtain ⟨c1, i1, k1⟩ := u_known (C := RX1) (T := TX1) (N := 11) (n := 11) hts inlX1 (hts (.instantiable RX1 11) (in_r7 _ (List.mem_of_getElem? (i := 8) rfl)))
  obtain ⟨c2, i2, k2⟩ := u_known (C := RX2) (T := TX2) (N := 7) (n := 7) hts inlX2 (hts (.instantiable RX2 7) (in_r2 _ (List.mem_of_getElem? (i := 13) rfl)))
  obtain ⟨c3, i3, k3⟩ := u_known (C := RX3) (T := TX3) (N := 4) (n := 4) hts inlX3 (hts (.instantiable RX3 4) (in_r13 _ (List.mem_of_getElem? (i := 21) rfl)))
  obtain ⟨c4, i4, k4⟩ := u_known (C := RX4) (T := TX4) (N := 4) (n := 4) hts inlX4 (hts (.instantiable RX4 4) (in_r2 _ (List.mem_of_getElem? (i := 1) rfl)))
  obtain ⟨c5, i5, k5⟩ := u_known (C := RX5) (T := TX5) (N := 2) (n := 2) hts inlX5 (hts (.instantiable RX5 2) (in_r1 _ (List.mem_of_getElem? (i := 14) rfl)))
  obtain ⟨c6, i6, k6⟩ := u_known (C := RX6) (T := TX6) (N := 1) (n := 1) hts inlX6 (hts (.instantiable RX6 1) (in_r2 _ (List.mem_of_getElem? (i := 5) rfl)))
  obtain ⟨c7, i7, k7⟩ := u_known (C := RX7) (T := TX7) (N := 13) (n := 13) hts inlX7 (hts (.instantiable RX7 13) (in_r1 _ (List.mem_of_getElem? (i := 1) rfl)))
  obtain ⟨c8, i8, k8⟩ := u_known (C := RX8) (T := TX8) (N := 26) (n := 26) hts inlX8 (hts (.instantiable RX8 26) (in_r1 _ (List.mem_of_getElem? (i := 4) rfl)))
  obtain ⟨dC, dI, hKc⟩ : ∃ (dC : Nat → ClassId) (dI : Nat → Nat → Nat), ∀ (k : Nat) (q : vw_C), vwCl[k]? = some q → u_Kn s q.1 q.2.1 q.2.2 (dC k) (dI k) := by
    refine ⟨fun k => match k with | 0 => c0 | 1 => c1 | 2 => c2 | 3 => c3 | 4 => c4 | 5 => c5 | 6 => c6 | 7 => c7 | _ => c8, fun k => match k with | 0 => i0 | 1 => i1 | 2 => i2 | 3 => i3 | 4 => i4 | 5 => i5 | 6 => i6 | 7 => i7 | _ => i8, ?_⟩
    intro k q hq
    match k, hq with
    | 0, hq => cases hq; exact k0
    | 1, hq => cases hq; exact k1
    | 2, hq => cases hq; exact k2
    | 3, hq => cases hq; exact k3
    | 4, hq => cases hq; exact k4
    | 5, hq => cases hq; exact k5
    | 6, hq => cases hq; exact k6
    | 7, hq => cases hq; exact k7
    | 8, hq => cases hq; exact k8
    | k + 9, hq => simp [vwCl] at hq
  obtain ⟨a0, ha0, ha0'⟩ := st_arr (hts0 _ (tb_1 _ (List.mem_of_getElem? (i := 42) rfl))) (fun C h => by cases h)
  obtain ⟨a1, ha1, ha1'⟩ := st_arrO (hts0 _ (tb_1 _ (List.mem_of_getElem? (i := 44) rfl)))
  obtain ⟨a2, ha2, ha2'⟩ := st_arrO (hts0 _ (tb_1 _ (List.mem_of_getElem? (i := 46) rfl)))
  obtain ⟨a3, ha3, ha3'⟩ := st_arrO (hts0 _ (tb_2 _ (List.mem_of_getElem? (i := 213) rfl)))
  obtain ⟨a4, ha4, ha4'⟩ := st_arr (hts0 _ (tb_5 _ (List.mem_of_getElem? (i := 197) rfl))) (fun C h => by cases h)
  obtain ⟨Z, hZ1, hZ2, hzz⟩ : ∃ Z : gZ, Z.1 = (dC, dI) ∧ Z.2.1 = (fun t => match t with | 0 => a0 | 1 => a1 | 2 => a2 | 3 => a3 | _ => a4) ∧ Z.2.2 = s.heap.size := ⟨((dC, dI), (fun t => match t with | 0 => a0 | 1 => a1 | 2 => a2 | 3 => a3 | _ => a4), s.heap.size), rfl, rfl, rfl⟩
  have hK : va_K Z.1 vwCl (gT Z) s := by
    refine ⟨by rw [hZ1]; exact hKc, fun k q hq => ?_⟩
    rw [gT, hZ2] at hq
    match k, hq with
    | 0, hq => cases hq; exact ⟨ha0, ha0'⟩
    | 1, hq => cases hq; exact ⟨ha1, ha1'⟩
    | 2, hq => cases hq; exact ⟨ha2, ha2'⟩
    | 3, hq => cases hq; exact ⟨ha3, ha3'⟩
    | 4, hq => cases hq; exact ⟨ha4, ha4'⟩
    | k + 5, hq => simp at hq
  have hN : gN Z s := st_N hts0 hs hzz
  have hNc : gNc s := st_Nc hs
  have X : gX Z p s m c code 7 #[Value.ref b] wsL_law RL := ⟨⟨hx, hb, hml, hown, hts⟩, hK, hN, Nat.le_of_eq hzz⟩
  have hW : gw Z (fun _ _ => 0) (fun _ _ => none) s.heap := fun _ _ e h => absurd (show (none : Option va_E) = some e from h) (by simp)
  have hS : va_S (gA Z) s.heap s.heap [] := va_S.rf
  have hl := lv_entry ([.ref b]) (n := 7) (Nat.le_of_ble_eq_true rfl)
  rw [lg_entry_eq]
  generalize (lg_sl ([.ref b]) ++ List.replicate (7 - (lg_sl ([.ref b])).length) Slot.unset).toArray = ls at hl ⊢
  have hl : lv_has ls 7 [(0, .ref b)] := hl
  refine g_new (ci := 7) (fs := [.null, .null, .int (zI 0), .null, .int (zI 0), .null, .int (zI 0), .null, .int (zI 0), .null, .null, .null, .null]) 0 0 X inlX7 tyX7 tyX7_ok (hts _ (in_r1 _ (List.mem_of_getElem? (i := 0) rfl))) (hts _ (in_r1 _ (List.mem_of_getElem? (i := 1) rfl))) (hts _ (in_r1 _ (List.mem_of_getElem? (i := 2) rfl))) rfl hW hS rfl (fun j hj => by rcases j with _ | _ | _ | _ | _ | _ | _ | _ | _ | _ | _ | _ | _ | j; rfl; rfl; rfl; rfl; rfl; rfl; rfl; rfl; rfl; rfl; rfl; rfl; rfl; omega) (Nat.le_of_ble_eq_true rfl) (Nat.le_of_ble_eq_true rfl) dL_law_0 (fun a1 B1 C1 H hB1 hn1 hc1 hu1 hW hS => ?_)
  subst hB1
  refine lv_dup hx hb dL_law_3 rfl ?_
  refine g_cvB (g_runI X (k_X7_init2 hc1 (fun k9 i9 _ z9 => hu1 k9 i9 z9)) (cwI 0 hts gL_law_X7_init rfl rfl rfl (hts _ (in_r1 _ (List.mem_of_getElem? (i := 2) rfl))) (hts _ (in_r1 _ (List.mem_of_getElem? (i := 7) rfl))) (hts _ (in_r1 _ (List.mem_of_getElem? (i := 8) rfl))) rfl ds_X7_init ⟨Nat.le_of_ble_eq_true rfl, Nat.le_of_ble_eq_true rfl⟩) hW hS rfl hl.1 rfl (Nat.le_of_ble_eq_true rfl) dL_law_4 ⟨Nat.le_of_ble_eq_true rfl, Nat.le_of_ble_eq_true rfl⟩) hS (fun B2 C2 H locs hp hW hS => ?_)
  obtain ⟨hcs2, hcx2, hf2, hb2⟩ := hp
  rw [← hb2 0 0 (Or.inr rfl)]
  refine lv_astore_n (lv' := [(1, .ref (B2 0 0)), (0, .ref b)]) hx hb dL_law_7 rfl hl (by decide) rfl (fun ls hl => ?_)
  have hno2 : ∀ k9, 38 ≤ k9 → C2 k9 0 = none := fun k9 z9 => (hf2 k9 0 z9).trans (hu1 k9 0 (by omega))
  refine g_new (ci := 8) (fs := [.int (zI 0), .int (zI 0), .int (zI 0), .int (zI 0), .int (zI 0), .null, .null, .null, .null, .null, .null, .null, .null, .null, .null, .null, .null, .null, .null, .null, .null, .null, .null, .null, .null, .int (zI 0)]) 70 0 X inlX8 tyX8 tyX8_ok (hts _ (in_r1 _ (List.mem_of_getElem? (i := 3) rfl))) (hts _ (in_r1 _ (List.mem_of_getElem? (i := 4) rfl))) (hts _ (in_r1 _ (List.mem_of_getElem? (i := 5) rfl))) rfl hW hS (hno2 70 (by decide)) (fun j hj => by rcases j with _ | _ | _ | _ | _ | _ | _ | _ | _ | _ | _ | _ | _ | _ | _ | _ | _ | _ | _ | _ | _ | _ | _ | _ | _ | _ | j; rfl; rfl; rfl; rfl; rfl; rfl; rfl; rfl; rfl; rfl; rfl; rfl; rfl; rfl; rfl; rfl; rfl; rfl; rfl; rfl; rfl; rfl; rfl; rfl; rfl; rfl; omega) (Nat.le_of_ble_eq_true rfl) (Nat.le_of_ble_eq_true rfl) dL_law_8 (fun a3 B3 C3 H hB3 hn3 hc3 hu3 hW hS => ?_)
  subst hB3
  refine lv_dup hx hb dL_law_11 rfl ?_
  refine g_cvB (g_runI X (k_X8_init hc3 (fun k9 z1 z2 => (hu3 k9 0 (by omega)).trans (hno2 k9 (by omega)))) (cwI 0 hts gL_law_X8_init rfl rfl rfl (hts _ (in_r1 _ (List.mem_of_getElem? (i := 5) rfl))) (hts _ (in_r4 _ (List.mem_of_getElem? (i := 1) rfl))) (hts _ (in_r4 _ (List.mem_of_getElem? (i := 2) rfl))) rfl ds_X8_init ⟨Nat.le_of_ble_eq_true rfl, Nat.le_of_ble_eq_true rfl⟩) hW hS rfl hl.1 rfl (Nat.le_of_ble_eq_true rfl) dL_law_12 ⟨Nat.le_of_ble_eq_true rfl, Nat.le_of_ble_eq_true rfl⟩) hS (fun B4 C4 H locs hp hW hS => ?_)
  obtain ⟨hmd4, hf4, hb4⟩ := hp
  rw [← hb4 70 0 (by omega)]
  refine lv_astore_n (lv' := [(2, .ref (B4 70 0)), (1, .ref (B2 0 0)), (0, .ref b)]) hx hb dL_law_15 rfl hl (by decide) rfl (fun ls hl => ?_)
  refine lv_iconst (v := zI 1) hx hb dL_law_16 rfl ?_
  refine g_newL (N := 1) 95 0 X (hts _ (in_r1 _ (List.mem_of_getElem? (i := 6) rfl))) hW hS ((hf4 95 0 (by omega)).trans ((hu3 95 0 (by omega)).trans (hno2 95 (by decide)))) (by decide) (by decide) (by decide) (Nat.le_of_ble_eq_true rfl) (Nat.le_of_ble_eq_true rfl) dL_law_17 (fun a5 B5 C5 H hB5 hn5 hc5 hu5 hW hS => ?_)
  subst hB5
  have e0 : B5 0 0 = B2 0 0 := (hn5 0 0 (by omega)).trans ((hb4 0 0 (by omega)).trans (hn3 0 0 (by omega)))
  have e7 : B5 70 0 = B4 70 0 := hn5 70 0 (by omega)
  rw [← e0, ← e7] at hl
  refine lv_astore_n (lv' := [(3, .ref (B5 95 0)), (2, .ref (B5 70 0)), (1, .ref (B5 0 0)), (0, .ref b)]) hx hb dL_law_19 rfl hl (by decide) rfl (fun ls hl => ?_)
  refine lv_iconst (v := zI (4 * ((0 : Nat) : Int))) hx hb dL_law_20 (by decide) ?_
  refine lv_istore (lv' := [(4, .int (zI (4 * ((0 : Nat) : Int)))), (3, .ref (B5 95 0)), (2, .ref (B5 70 0)), (1, .ref (B5 0 0)), (0, .ref b)]) hx hb dL_law_21 hl (by decide) rfl (fun ls hl => ?_)
  have hC : ∀ k9 i9, k9 < 70 → C5 k9 i9 = C2 k9 i9 := fun k9 i9 z9 => (hu5 k9 i9 (by omega)).trans ((hf4 k9 i9 (by omega)).trans (hu3 k9 i9 (by omega)))
  have hBB : ∀ k9, k9 < 70 → B5 k9 0 = B2 k9 0 := fun k9 z9 => (hn5 k9 0 (by omega)).trans ((hb4 k9 0 (by omega)).trans (hn3 k9 0 (by omega)))
  have hcs5 : cs Z B5 C5 S00 T00 := (hcs2.out hC).B0 (fun k9 z9 => hBB k9 (by omega))
  have hcx5 : cx Z B5 C5 := (hcx2.kept (fun k9 i9 _ z2 => hC k9 i9 (by omega))).B (fun k9 _ z2 => hBB k9 (by omega))
  have hmd5 : md Z B5 C5 S00 T00 0 := (hmd4.out (fun k9 z1 z2 => hu5 k9 0 (by omega))).Bx (fun k9 z1 z2 => hn5 k9 0 (by omega))
  refine W.widen (k := 100) (n := 3000) (Nat.le_of_ble_eq_true rfl) (Nat.le_of_ble_eq_true rfl) ?_
  exact law_loop hfl X hNc hX hbl hzz hL hr hlocks 601 0 S00 T00 B5 C5 H _ ls (by omega) (by omega) ⟨wf.ini, wz.ini, hcs5, hcx5, ⟨0, hmd5⟩, _, hc5⟩ hW hS (lv_sub hl [4, 3, 2, 1, 0] rfl)
set_option maxHeartbeats 4000000 in
theorem lw_walk (l : Launch) (hflags : l.flags = flags0) (b : Addr) (xs : List Int32) : MetFree l x (headSpec (Jvm.Cond.code x code maxLocals ret :: tables_1) room_1) (lw_P b xs) (fun _ _ _ _ _ => True) lw_Q := by
  refine MetFree.of_bodyS (code := code) (maxLocals := maxLocals) (ret := ret) (by decide) ?_ ?_
  · intro args s m h hn
    obtain ⟨meth, c, h1, h2, h3, h4, h5, h6, -, -⟩ := Cond.code_spec hn (atoms_spec (ws := Jvm.Cond.code x code maxLocals ret :: tables_1) h _ List.mem_cons_self)
    exact ⟨meth, c, h1, h2, h3, h4, h5, h6⟩
  · intro p e s m args below meth c s₁ B hml0 hP _
    obtain ⟨rfl, hx, hbd, hgv⟩ := hP
    obtain ⟨scr, harrAt, hlist, hof, hsmall⟩ := hx
    obtain ⟨hcb, hkn, -, -⟩ := State.arrayAt?_spec harrAt
    have hown : s.vm.findClass R_law = some m.cls := findClass_of_methodNamed B.named
    have hts0 : ∀ c ∈ (Jvm.Cond.code x code maxLocals ret :: tables_1), c.before #[Value.ref b] s = true := atoms_spec (ws := Jvm.Cond.code x code maxLocals ret :: tables_1) B.pre
    have hts : ∀ w ∈ lw_tbl, w.before #[Value.ref b] s = true := k2_hts_sels lw_privs (fun w hw => hts0 w (List.mem_cons_of_mem _ hw)) lw_privs_ok
    have hml : c.maxLocals = 7 := B.maxLocals_eq (hts0 _ List.mem_cons_self)
    have X₀ : Stand p l e room_1 s m #[Value.ref b] below meth c s₁ [] 0 0 := Stand.of_body B
    have hh0 : s₁.heap = s.heap := by rw [B.state]; rfl
    have hsz : scr.slots.size = xs.length := by rw [← Array.length_toList, hlist, List.length_map]
    have hval : ∀ j : Nat, j < xs.length → scr.slots[j]? = some (.int (xs.getD j 0)) := fun j hj => by
      rw [← Array.getElem?_toList, hlist]
      simp [hj]
    have hbl : b < s.heap.size := (Array.getElem?_eq_some_iff.mp hcb).1
    have hX : va_X b xs.length (fun j => xs.getD j 0) s s.heap := ⟨scr, hcb, hof, hkn, hsz, hval⟩
    have K : W p l e room_1 s m #[Value.ref b] below meth c s₁.heap [] 0 0 (lw_Z below #[Value.ref b] s) (entryFrame m ([Value.ref b] : List Value).toArray 7) := by
      rw [hh0]
      exact whole_start l hflags hbd ⟨B.exec, B.bytes, B.returns, hml, hown, hts, hX, hbl, B.notSynchronized, hgv⟩
    obtain ⟨t, a1, o, b1, b2, b3⟩ := K s₁ rfl X₀
    exact ⟨t, o, a1, b1, b2, b3⟩
theorem lw_pre_spec {args : Array Value} {s : State} (h : (Jvm.Cond.and given_1 narrow_1).before args s = true) (hr : rest_1_c.before args s = true) : ∃ (b : Addr) (xs : List Int32), lw_P b xs args s := by
  have hs := flat_of_before _ h
  have hq := flat_of_before _ hr
  have hc : (Cond.count 1).before args s = true := hs _ (by decide +kernel)
  have harr : (Cond.arrayOf (.arg 0) .int).before args s = true := hs _ (by decide +kernel)
  have hle : (Cond.le (.length (.arg 0)) (.int 2048)).before args s = true := hs _ (by decide +kernel)
  have hlen : (Cond.isInt (.length (.arg 0))).before args s = true := hq _ (by decide +kernel)
  have hall : (Cond.all (.arg 0) (.isInt (.elem (.arg 0) (.index 0)))).before args s = true := hq _ (by decide +kernel)
  obtain ⟨b, xs, hb, hx⟩ := State.ints_of_pre rfl harr hlen hall
  have hsm : xs.length < 2 ^ 31 := hx.choose_spec.2.2.2
  have hev : (Term.length (.arg 0)).eval args s none [] s = some (.int xs.length.toInt32) := hx.length_eval hb
  have hv := Cond.le_ints hev (show (Term.int 2048).eval args s none [] s = some (.int 2048) from rfl)
  have hd : xs.length.toInt32 ≤ 2048 := by
    simpa [Cond.before, Cond.holds, hv] using hle
  have hN : xs.length ≤ 2048 := (Int32.ofNat_le_ofNat hsm (by decide)).mp (show Int32.ofNat xs.length ≤ Int32.ofNat 2048 from hd)
  exact ⟨b, xs, Cond.one_arg hc (show args[0]? = some (.ref b) from hb), hx, hN, h⟩
theorem lw_comes (l : Launch) (hflags : l.flags = flags0) : Comes l x (Jvm.Cond.code x code maxLocals ret :: tables_1) room_1 (fun tb e args s => Calls_1 tb e args s ∧ rest_1 tb e args s ∧ Pre_1 tb e args s)
    (fun _ _ args s o t => lw_Q args s o t) := by
  intro p e ha hc hk s m args below hf hfit hheap happ hpre
  obtain ⟨b, xs, hP⟩ := lw_pre_spec hpre.2.2 hpre.2.1
  obtain ⟨k, o, h1, h2, h3, hQ⟩ := lw_walk l hflags b xs p e ha hc hk s m args below hf ((Spec.applies_iff_loose hf).mp happ).1 hP trivial
  exact ⟨k, o, h1, h2, h3, hQ⟩
theorem lw_frame {s t : State} {o : Outcome} {args : Array Value} (h : Framed s o t [] 601024 7293034) :
    Framed s o t (fieldLocs frame_1_writes args s ++ arrayLocs frame_1_arrays args s ++ staticLocs frame_1_statics s) 601024 7293034 := h
theorem lw_limb (L : Cond) (hL : ∀ (args : Array Value) (s t : State), L.after args s (.returned (some (.int 1))) t = true) :
    ArmFor flags0 classFile x code maxLocals ret World_1 tables_1 room_1 Calls_1 rest_1 Pre_1
      (fun tb e a s o t => postC L tb e a s o t ∧ Framed s o t (fieldLocs frame_1_writes a s ++ arrayLocs frame_1_arrays a s ++ staticLocs frame_1_statics s) 601024 7293034) := by
  intro l hflags _ _ p e ha hc hk s m args below hf hfit hheap happ hpre
  obtain ⟨k, o, h1, h2, h3, rfl, hF⟩ := lw_comes l hflags p e ha hc hk s m args below hf hfit hheap happ hpre
  exact ⟨k, _, h1, h2, h3, hL args s _, lw_frame hF⟩
theorem i_vc : Claimed_1_1 ∧ Claimed_1_2 := ⟨lw_limb limb_1_1 (fun args s t => by simp [limb_1_1, Cond.after, Cond.holds, Cond.value]), lw_limb limb_1_2 (fun args s t => Cond.after_iff.mpr (by
  first | (rw [show limb_1_2 = Cond.eq .result (.int 1) from rfl, Cond.eq_ints (x := 1) (y := 1) rfl rfl]; simp; done) | (simp [limb_1_2, Cond.value, Term.eval]; done)))⟩
