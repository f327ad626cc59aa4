set_option maxHeartbeats 4000000 in
set_option maxRecDepth 100000 in
theorem lc_giveRange {p : Program} {l : Launch} {e : Env} {s : State} {m : MethodId} {below : List Frame} {meth : Method} {c : Code} {H : Heap} {locs : List Loc} {cells slots : Nat} {Q : State → Prop} {b L j : Nat} {xs : Nat → Int32} {Z : gZ} {B : gB} {C : gC} {S : gS} {T : gTx} {ls : Array Slot} (hfl : l.stackTraces = false) (X : gX Z p s m c code 7 #[Value.ref b] wsL_law RL) (hNc : gNc s) (hX : va_X b L xs s s.heap) (hbl : b < s.heap.size) (hzz : Z.2.2 = s.heap.size) (hI : lawI Z B C S T) (hW : gw Z B C H) (hS : va_S (gA Z) s.heap H locs) (hj : 4 * j + 4 ≤ L) (hL : L ≤ 2048) (hl : lv_has ls 7 (lLoc b B j)) (hc : cells + 16 ≤ room_1.cells) (hs : slots + 128 ≤ room_1.slots) (kk : lKont p l e s m below meth c b Q Z j cells slots) : W p l e room_1 s m #[Value.ref b] below meth c H locs cells slots Q (F0 m 172 ls []) := by
  have hx := X.1.1
  have hb := X.1.2.1
  have hts := X.1.2.2.2.2
  obtain ⟨hwf, hwz, hcs, hcx, ⟨th, hmd⟩, FO, h95⟩ := hI
  obtain ⟨a1, ra1, ea1⟩ := zI_ex (xs (4 * j + 1))
  obtain ⟨a2, ra2, ea2⟩ := zI_ex (xs (4 * j + 2))
  obtain ⟨a3, ra3, ea3⟩ := zI_ex (xs (4 * j + 3))
  refine lv_aload_n hx hb dL_law_172 rfl (lv_at hl 1 rfl) ?_
  refine l_arg 1 X hX hbl hzz hS hL (by omega) (lv_at hl 0 rfl) (lv_at hl 4 rfl) ea1 (k5 := 1) rfl dL_law_173 dL_law_174 dL_law_176 dL_law_177 dL_law_178 ?_
  refine l_arg 2 X hX hbl hzz hS hL (by omega) (lv_at hl 0 rfl) (lv_at hl 4 rfl) ea2 (k5 := 2) rfl dL_law_179 dL_law_180 dL_law_182 dL_law_183 dL_law_184 ?_
  refine l_arg 3 X hX hbl hzz hS hL (by omega) (lv_at hl 0 rfl) (lv_at hl 4 rfl) ea3 (k5 := 3) rfl dL_law_185 dL_law_186 dL_law_188 dL_law_189 dL_law_190 ?_
  refine lv_aload_n hx hb dL_law_191 rfl (lv_at hl 3 rfl) ?_
  refine g_ciB (g_runSW X hNc (k_L_giveRange hfl hcs hcx hwf ra1 ra2 ra3 h95) (vx_cwSW 5 hts gL_law_L_giveRange rfl rfl rfl ds_L_giveRange ⟨Nat.le_of_ble_eq_true rfl, Nat.le_of_ble_eq_true rfl⟩) hW hS rfl hl.1 rfl (Nat.le_of_ble_eq_true rfl) dL_law_192 ⟨by omega, by omega⟩) hS (fun r B1 C1 H locs hp hW hS => ?_)
  obtain ⟨rfl, -, -, ⟨F1, h951⟩, hcx1, hfo1, hB1⟩ := id hp
  rw [lLoc, ← hB1 0 0 (by omega), ← hB1 70 0 (by omega), ← hB1 95 0 (by omega)] at hl
  refine lv_istore (lv' := (5, .int (zI ((cd_giveRange S a1 a2 a3 : Nat) : Int))) :: lLoc b B1 j) hx hb dL_law_195 hl (by decide) rfl (fun ls hl => ?_)
  have hmd1 : md Z B1 C1 S T th := (hmd.out (fun k' z1 z2 => hfo1 k' 0 (by omega) (by omega))).Bx (fun k' z1 z2 => hB1 k' 0 (by omega))
  obtain ⟨⟨mg, h70⟩, -⟩ := id hmd1
  refine lv_aload_n hx hb dL_law_197 rfl (lv_at hl 3 rfl) ?_
  refine l_arg 1 X hX hbl hzz hS hL (by omega) (lv_at hl 1 rfl) (lv_at hl 5 rfl) ea1 (k5 := 1) rfl dL_law_198 dL_law_199 dL_law_201 dL_law_202 dL_law_203 ?_
  refine l_arg 2 X hX hbl hzz hS hL (by omega) (lv_at hl 1 rfl) (lv_at hl 5 rfl) ea2 (k5 := 2) rfl dL_law_204 dL_law_205 dL_law_207 dL_law_208 dL_law_209 ?_
  refine l_arg 3 X hX hbl hzz hS hL (by omega) (lv_at hl 1 rfl) (lv_at hl 5 rfl) ea3 (k5 := 3) rfl dL_law_210 dL_law_211 dL_law_213 dL_law_214 dL_law_215 ?_
  refine g_ci (g_runV X (k_X8_giveRange hmd1 hwf ra1 ra2 ra3) (cwV 3 hts gL_law_X8_giveRange rfl rfl rfl ⟨rfl, ds_X8_giveRange⟩ ⟨Nat.le_of_ble_eq_true rfl, Nat.le_of_ble_eq_true rfl⟩) hW hS h70 rfl rfl hl.1 rfl (Nat.le_of_ble_eq_true rfl) dL_law_216 ⟨by omega, by omega⟩) hS (fun r2 C2 H locs hp2 hW hS => ?_)
  refine lv_istore (lv' := (6, .int r2) :: (5, .int (zI ((cd_giveRange S a1 a2 a3 : Nat) : Int))) :: lLoc b B1 j) hx hb dL_law_219 hl (by decide) rfl (fun ls hl => ?_)
  have hm : mpo Z B1 C1 S T (cd_giveRange S a1 a2 a3) ((S 0 1 : Int) + 1) (nS_giveRange S a1 a2 a3) T r2 C2 := hp2
  obtain ⟨S2, T2, F2, w1, w2, w3, w4, w5, w6, w7⟩ := law_mid hwf hwz (nx_giveRange hwf hwz) hp hm
  refine lt_int (t0 := 221) X w5 w6 w7 (by unfold cd_giveRange; (repeat' split) <;> omega) hW hS hl ⟨by omega, by omega⟩ dL_law_221 dL_law_222 dL_law_225 dL_law_227 dL_law_232 dL_law_234 dL_law_237 dL_law_238 dL_law_239 dL_law_240 dL_law_242 dL_law_243 dL_law_244 dL_law_249 (by decide) (fun H1 locs1 hW hS => ?_)
  exact W.widen (by omega) (by omega) (kk B1 C2 S2 T2 H1 locs1 ls ⟨w1, w2, w3, w4, ⟨_, w5⟩, F2, w6⟩ hW hS (lv_sub hl [2, 3, 4, 5, 6] rfl))

set_option maxHeartbeats 4000000 in
set_option maxRecDepth 100000 in
theorem lc_open {p : Program} {l : Launch} {e : Env} {s : State} {m : MethodId} {below : List Frame} {meth : Method} {c : Code} {H : Heap} {locs : List Loc} {cells slots : Nat} {Q : State → Prop} {b L j : Nat} {xs : Nat → Int32} {Z : gZ} {B : gB} {C : gC} {S : gS} {T : gTx} {ls : Array Slot} (hfl : l.stackTraces = false) (X : gX Z p s m c code 7 #[Value.ref b] wsL_law RL) (hNc : gNc s) (hX : va_X b L xs s s.heap) (hbl : b < s.heap.size) (hzz : Z.2.2 = s.heap.size) (hI : lawI Z B C S T) (hW : gw Z B C H) (hS : va_S (gA Z) s.heap H locs) (hj : 4 * j + 4 ≤ L) (hL : L ≤ 2048) (hl : lv_has ls 7 (lLoc b B j)) (hc : cells + 16 ≤ room_1.cells) (hs : slots + 128 ≤ room_1.slots) (kk : lKont p l e s m below meth c b Q Z j cells slots) : W p l e room_1 s m #[Value.ref b] below meth c H locs cells slots Q (F0 m 252 ls []) := by
  have hx := X.1.1
  have hb := X.1.2.1
  have hts := X.1.2.2.2.2
  obtain ⟨hwf, hwz, hcs, hcx, ⟨th, hmd⟩, FO, h95⟩ := hI
  obtain ⟨a1, ra1, ea1⟩ := zI_ex (xs (4 * j + 1))
  refine lv_aload_n hx hb dL_law_252 rfl (lv_at hl 1 rfl) ?_
  refine l_arg 1 X hX hbl hzz hS hL (by omega) (lv_at hl 0 rfl) (lv_at hl 4 rfl) ea1 (k5 := 1) rfl dL_law_253 dL_law_254 dL_law_256 dL_law_257 dL_law_258 ?_
  refine lv_aload_n hx hb dL_law_259 rfl (lv_at hl 3 rfl) ?_
  refine g_ciB (g_runSW X hNc (k_L_open hfl hcs hcx hwf ra1 hwz h95) (vx_cwSW 3 hts gL_law_L_open rfl rfl rfl ds_L_open ⟨Nat.le_of_ble_eq_true rfl, Nat.le_of_ble_eq_true rfl⟩) hW hS rfl hl.1 rfl (Nat.le_of_ble_eq_true rfl) dL_law_260 ⟨by omega, by omega⟩) hS (fun r B1 C1 H locs hp hW hS => ?_)
  obtain ⟨rfl, -, -, ⟨F1, h951⟩, hcx1, hfo1, hB1⟩ := id hp
  rw [lLoc, ← hB1 0 0 (by omega), ← hB1 70 0 (by omega), ← hB1 95 0 (by omega)] at hl
  refine lv_istore (lv' := (5, .int (zI ((cd_open S a1 : Nat) : Int))) :: lLoc b B1 j) hx hb dL_law_263 hl (by decide) rfl (fun ls hl => ?_)
  have hmd1 : md Z B1 C1 S T th := (hmd.out (fun k' z1 z2 => hfo1 k' 0 (by omega) (by omega))).Bx (fun k' z1 z2 => hB1 k' 0 (by omega))
  obtain ⟨⟨mg, h70⟩, -⟩ := id hmd1
  refine lv_aload_n hx hb dL_law_265 rfl (lv_at hl 3 rfl) ?_
  refine l_arg 1 X hX hbl hzz hS hL (by omega) (lv_at hl 1 rfl) (lv_at hl 5 rfl) ea1 (k5 := 1) rfl dL_law_266 dL_law_267 dL_law_269 dL_law_270 dL_law_271 ?_
  refine g_ci (g_runV X (k_X8_open hmd1 hwf ra1) (cwV 1 hts gL_law_X8_open rfl rfl rfl ⟨rfl, ds_X8_open⟩ ⟨Nat.le_of_ble_eq_true rfl, Nat.le_of_ble_eq_true rfl⟩) hW hS h70 rfl rfl hl.1 rfl (Nat.le_of_ble_eq_true rfl) dL_law_272 ⟨by omega, by omega⟩) hS (fun r2 C2 H locs hp2 hW hS => ?_)
  refine lv_istore (lv' := (6, .int r2) :: (5, .int (zI ((cd_open S a1 : Nat) : Int))) :: lLoc b B1 j) hx hb dL_law_275 hl (by decide) rfl (fun ls hl => ?_)
  have hm : mpo Z B1 C1 S T (cd_open S a1) (S 0 0 : Int) (nS_open S a1) (nT_open S T) r2 C2 := hp2
  obtain ⟨S2, T2, F2, w1, w2, w3, w4, w5, w6, w7⟩ := law_mid hwf hwz (nx_open hwf hwz) hp hm
  refine lt_int (t0 := 277) X w5 w6 w7 (by unfold cd_open; (repeat' split) <;> omega) hW hS hl ⟨by omega, by omega⟩ dL_law_277 dL_law_278 dL_law_281 dL_law_283 dL_law_288 dL_law_290 dL_law_293 dL_law_294 dL_law_295 dL_law_296 dL_law_298 dL_law_299 dL_law_300 dL_law_305 (by decide) (fun H1 locs1 hW hS => ?_)
  exact W.widen (by omega) (by omega) (kk B1 C2 S2 T2 H1 locs1 ls ⟨w1, w2, w3, w4, ⟨_, w5⟩, F2, w6⟩ hW hS (lv_sub hl [2, 3, 4, 5, 6] rfl))

set_option maxHeartbeats 4000000 in
set_option maxRecDepth 100000 in
theorem lc_addLine {p : Program} {l : Launch} {e : Env} {s : State} {m : MethodId} {below : List Frame} {meth : Method} {c : Code} {H : Heap} {locs : List Loc} {cells slots : Nat} {Q : State → Prop} {b L j : Nat} {xs : Nat → Int32} {Z : gZ} {B : gB} {C : gC} {S : gS} {T : gTx} {ls : Array Slot} (hfl : l.stackTraces = false) (X : gX Z p s m c code 7 #[Value.ref b] wsL_law RL) (hNc : gNc s) (hX : va_X b L xs s s.heap) (hbl : b < s.heap.size) (hzz : Z.2.2 = s.heap.size) (hI : lawI Z B C S T) (hW : gw Z B C H) (hS : va_S (gA Z) s.heap H locs) (hj : 4 * j + 4 ≤ L) (hL : L ≤ 2048) (hl : lv_has ls 7 (lLoc b B j)) (hc : cells + 16 ≤ room_1.cells) (hs : slots + 128 ≤ room_1.slots) (kk : lKont p l e s m below meth c b Q Z j cells slots) : W p l e room_1 s m #[Value.ref b] below meth c H locs cells slots Q (F0 m 308 ls []) := by
  have hx := X.1.1
  have hb := X.1.2.1
  have hts := X.1.2.2.2.2
  obtain ⟨hwf, hwz, hcs, hcx, ⟨th, hmd⟩, FO, h95⟩ := hI
  obtain ⟨a1, ra1, ea1⟩ := zI_ex (xs (4 * j + 1))
  obtain ⟨a2, ra2, ea2⟩ := zI_ex (xs (4 * j + 2))
  refine lv_aload_n hx hb dL_law_308 rfl (lv_at hl 1 rfl) ?_
  refine l_arg 1 X hX hbl hzz hS hL (by omega) (lv_at hl 0 rfl) (lv_at hl 4 rfl) ea1 (k5 := 1) rfl dL_law_309 dL_law_310 dL_law_312 dL_law_313 dL_law_314 ?_
  refine l_arg 2 X hX hbl hzz hS hL (by omega) (lv_at hl 0 rfl) (lv_at hl 4 rfl) ea2 (k5 := 2) rfl dL_law_315 dL_law_316 dL_law_318 dL_law_319 dL_law_320 ?_
  refine lv_aload_n hx hb dL_law_321 rfl (lv_at hl 3 rfl) ?_
  refine g_ciB (g_runSW X hNc (k_L_addLine hfl hcs hcx hwf ra1 ra2 h95) (vx_cwSW 4 hts gL_law_L_addLine rfl rfl rfl ds_L_addLine ⟨Nat.le_of_ble_eq_true rfl, Nat.le_of_ble_eq_true rfl⟩) hW hS rfl hl.1 rfl (Nat.le_of_ble_eq_true rfl) dL_law_322 ⟨by omega, by omega⟩) hS (fun r B1 C1 H locs hp hW hS => ?_)
  obtain ⟨rfl, -, -, ⟨F1, h951⟩, hcx1, hfo1, hB1⟩ := id hp
  rw [lLoc, ← hB1 0 0 (by omega), ← hB1 70 0 (by omega), ← hB1 95 0 (by omega)] at hl
  refine lv_istore (lv' := (5, .int (zI ((cd_addLine S T a1 a2 : Nat) : Int))) :: lLoc b B1 j) hx hb dL_law_325 hl (by decide) rfl (fun ls hl => ?_)
  have hmd1 : md Z B1 C1 S T th := (hmd.out (fun k' z1 z2 => hfo1 k' 0 (by omega) (by omega))).Bx (fun k' z1 z2 => hB1 k' 0 (by omega))
  obtain ⟨⟨mg, h70⟩, -⟩ := id hmd1
  refine lv_aload_n hx hb dL_law_327 rfl (lv_at hl 3 rfl) ?_
  refine l_arg 1 X hX hbl hzz hS hL (by omega) (lv_at hl 1 rfl) (lv_at hl 5 rfl) ea1 (k5 := 1) rfl dL_law_328 dL_law_329 dL_law_331 dL_law_332 dL_law_333 ?_
  refine l_arg 2 X hX hbl hzz hS hL (by omega) (lv_at hl 1 rfl) (lv_at hl 5 rfl) ea2 (k5 := 2) rfl dL_law_334 dL_law_335 dL_law_337 dL_law_338 dL_law_339 ?_
  refine g_ci (g_runV X (k_X8_addLine hmd1 hwf ra1 ra2) (cwV 2 hts gL_law_X8_addLine rfl rfl rfl ⟨rfl, ds_X8_addLine⟩ ⟨Nat.le_of_ble_eq_true rfl, Nat.le_of_ble_eq_true rfl⟩) hW hS h70 rfl rfl hl.1 rfl (Nat.le_of_ble_eq_true rfl) dL_law_340 ⟨by omega, by omega⟩) hS (fun r2 C2 H locs hp2 hW hS => ?_)
  refine lv_istore (lv' := (6, .int r2) :: (5, .int (zI ((cd_addLine S T a1 a2 : Nat) : Int))) :: lLoc b B1 j) hx hb dL_law_343 hl (by decide) rfl (fun ls hl => ?_)
  have hm : mpo Z B1 C1 S T (cd_addLine S T a1 a2) (((T (5 + a1.toNat)).length : Int) + 1) S (nT_addLine T a1 a2) r2 C2 := hp2
  obtain ⟨S2, T2, F2, w1, w2, w3, w4, w5, w6, w7⟩ := law_mid hwf hwz (nx_addLine hwf hwz) hp hm
  refine lt_int (t0 := 345) X w5 w6 w7 (by unfold cd_addLine; (repeat' split) <;> omega) hW hS hl ⟨by omega, by omega⟩ dL_law_345 dL_law_346 dL_law_349 dL_law_351 dL_law_356 dL_law_358 dL_law_361 dL_law_362 dL_law_363 dL_law_364 dL_law_366 dL_law_367 dL_law_368 dL_law_373 (by decide) (fun H1 locs1 hW hS => ?_)
  exact W.widen (by omega) (by omega) (kk B1 C2 S2 T2 H1 locs1 ls ⟨w1, w2, w3, w4, ⟨_, w5⟩, F2, w6⟩ hW hS (lv_sub hl [2, 3, 4, 5, 6] rfl))

set_option maxHeartbeats 4000000 in
set_option maxRecDepth 100000 in
theorem lc_lay {p : Program} {l : Launch} {e : Env} {s : State} {m : MethodId} {below : List Frame} {meth : Method} {c : Code} {H : Heap} {locs : List Loc} {cells slots : Nat} {Q : State → Prop} {b L j : Nat} {xs : Nat → Int32} {Z : gZ} {B : gB} {C : gC} {S : gS} {T : gTx} {ls : Array Slot} (hfl : l.stackTraces = false) (X : gX Z p s m c code 7 #[Value.ref b] wsL_law RL) (hNc : gNc s) (hX : va_X b L xs s s.heap) (hbl : b < s.heap.size) (hzz : Z.2.2 = s.heap.size) (hI : lawI Z B C S T) (hW : gw Z B C H) (hS : va_S (gA Z) s.heap H locs) (hj : 4 * j + 4 ≤ L) (hL : L ≤ 2048) (hl : lv_has ls 7 (lLoc b B j)) (hc : cells + 16 ≤ room_1.cells) (hs : slots + 128 ≤ room_1.slots) (kk : lKont p l e s m below meth c b Q Z j cells slots) : W p l e room_1 s m #[Value.ref b] below meth c H locs cells slots Q (F0 m 376 ls []) := by
  have hx := X.1.1
  have hb := X.1.2.1
  have hts := X.1.2.2.2.2
  obtain ⟨hwf, hwz, hcs, hcx, ⟨th, hmd⟩, FO, h95⟩ := hI
  obtain ⟨a1, ra1, ea1⟩ := zI_ex (xs (4 * j + 1))
  refine lv_aload_n hx hb dL_law_376 rfl (lv_at hl 1 rfl) ?_
  refine l_arg 1 X hX hbl hzz hS hL (by omega) (lv_at hl 0 rfl) (lv_at hl 4 rfl) ea1 (k5 := 1) rfl dL_law_377 dL_law_378 dL_law_380 dL_law_381 dL_law_382 ?_
  refine lv_aload_n hx hb dL_law_383 rfl (lv_at hl 3 rfl) ?_
  refine g_ciB (g_runSW X hNc (k_L_lay hfl hcs hcx hwf ra1 h95) (vx_cwSW 3 hts gL_law_L_lay rfl rfl rfl ds_L_lay ⟨Nat.le_of_ble_eq_true rfl, Nat.le_of_ble_eq_true rfl⟩) hW hS rfl hl.1 rfl (Nat.le_of_ble_eq_true rfl) dL_law_384 ⟨by omega, by omega⟩) hS (fun r B1 C1 H locs hp hW hS => ?_)
  obtain ⟨rfl, -, -, ⟨F1, h951⟩, hcx1, hfo1, hB1⟩ := id hp
  rw [lLoc, ← hB1 0 0 (by omega), ← hB1 70 0 (by omega), ← hB1 95 0 (by omega)] at hl
  refine lv_istore (lv' := (5, .int (zI ((cd_lay S a1 : Nat) : Int))) :: lLoc b B1 j) hx hb dL_law_387 hl (by decide) rfl (fun ls hl => ?_)
  have hmd1 : md Z B1 C1 S T th := (hmd.out (fun k' z1 z2 => hfo1 k' 0 (by omega) (by omega))).Bx (fun k' z1 z2 => hB1 k' 0 (by omega))
  obtain ⟨⟨mg, h70⟩, -⟩ := id hmd1
  refine lv_aload_n hx hb dL_law_389 rfl (lv_at hl 3 rfl) ?_
  refine l_arg 1 X hX hbl hzz hS hL (by omega) (lv_at hl 1 rfl) (lv_at hl 5 rfl) ea1 (k5 := 1) rfl dL_law_390 dL_law_391 dL_law_393 dL_law_394 dL_law_395 ?_
  refine g_ci (g_runV X (k_X8_lay hmd1 hwf ra1) (cwV 1 hts gL_law_X8_lay rfl rfl rfl ⟨rfl, ds_X8_lay⟩ ⟨Nat.le_of_ble_eq_true rfl, Nat.le_of_ble_eq_true rfl⟩) hW hS h70 rfl rfl hl.1 rfl (Nat.le_of_ble_eq_true rfl) dL_law_396 ⟨by omega, by omega⟩) hS (fun r2 C2 H locs hp2 hW hS => ?_)
  refine lv_istore (lv' := (6, .int r2) :: (5, .int (zI ((cd_lay S a1 : Nat) : Int))) :: lLoc b B1 j) hx hb dL_law_399 hl (by decide) rfl (fun ls hl => ?_)
  have hm : mpo Z B1 C1 S T (cd_lay S a1) (S 2 a1.toNat : Int) (nS_lay S a1.toNat) (nT_lay S T a1.toNat) r2 C2 := hp2
  obtain ⟨S2, T2, F2, w1, w2, w3, w4, w5, w6, w7⟩ := law_mid hwf hwz (nx_lay hwf hwz) hp hm
  refine lt_int (t0 := 401) X w5 w6 w7 (by unfold cd_lay; (repeat' split) <;> omega) hW hS hl ⟨by omega, by omega⟩ dL_law_401 dL_law_402 dL_law_405 dL_law_407 dL_law_412 dL_law_414 dL_law_417 dL_law_418 dL_law_419 dL_law_420 dL_law_422 dL_law_423 dL_law_424 dL_law_429 (by decide) (fun H1 locs1 hW hS => ?_)
  exact W.widen (by omega) (by omega) (kk B1 C2 S2 T2 H1 locs1 ls ⟨w1, w2, w3, w4, ⟨_, w5⟩, F2, w6⟩ hW hS (lv_sub hl [2, 3, 4, 5, 6] rfl))

set_option maxHeartbeats 4000000 in
set_option maxRecDepth 100000 in
theorem lc_landAfter {p : Program} {l : Launch} {e : Env} {s : State} {m : MethodId} {below : List Frame} {meth : Method} {c : Code} {H : Heap} {locs : List Loc} {cells slots : Nat} {Q : State → Prop} {b L j : Nat} {xs : Nat → Int32} {Z : gZ} {B : gB} {C : gC} {S : gS} {T : gTx} {ls : Array Slot} (hfl : l.stackTraces = false) (X : gX Z p s m c code 7 #[Value.ref b] wsL_law RL) (hNc : gNc s) (hX : va_X b L xs s s.heap) (hbl : b < s.heap.size) (hzz : Z.2.2 = s.heap.size) (hI : lawI Z B C S T) (hW : gw Z B C H) (hS : va_S (gA Z) s.heap H locs) (hj : 4 * j + 4 ≤ L) (hL : L ≤ 2048) (hl : lv_has ls 7 (lLoc b B j)) (hc : cells + 16 ≤ room_1.cells) (hs : slots + 128 ≤ room_1.slots) (kk : lKont p l e s m below meth c b Q Z j cells slots) : W p l e room_1 s m #[Value.ref b] below meth c H locs cells slots Q (F0 m 432 ls []) := by
  have hx := X.1.1
  have hb := X.1.2.1
  have hts := X.1.2.2.2.2
  obtain ⟨hwf, hwz, hcs, hcx, ⟨th, hmd⟩, FO, h95⟩ := hI
  obtain ⟨a1, ra1, ea1⟩ := zI_ex (xs (4 * j + 1))
  obtain ⟨a2, ra2, ea2⟩ := zI_ex (xs (4 * j + 2))
  refine lv_aload_n hx hb dL_law_432 rfl (lv_at hl 1 rfl) ?_
  refine l_arg 1 X hX hbl hzz hS hL (by omega) (lv_at hl 0 rfl) (lv_at hl 4 rfl) ea1 (k5 := 1) rfl dL_law_433 dL_law_434 dL_law_436 dL_law_437 dL_law_438 ?_
  refine l_arg 2 X hX hbl hzz hS hL (by omega) (lv_at hl 0 rfl) (lv_at hl 4 rfl) ea2 (k5 := 2) rfl dL_law_439 dL_law_440 dL_law_442 dL_law_443 dL_law_444 ?_
  refine lv_aload_n hx hb dL_law_445 rfl (lv_at hl 3 rfl) ?_
  refine g_ciB (g_runSW X hNc (k_L_landAfter hfl hcs hcx hwf ra1 ra2 h95) (vx_cwSW 4 hts gL_law_L_landAfter rfl rfl rfl ds_L_landAfter ⟨Nat.le_of_ble_eq_true rfl, Nat.le_of_ble_eq_true rfl⟩) hW hS rfl hl.1 rfl (Nat.le_of_ble_eq_true rfl) dL_law_446 ⟨by omega, by omega⟩) hS (fun r B1 C1 H locs hp hW hS => ?_)
  obtain ⟨rfl, -, -, ⟨F1, h951⟩, hcx1, hfo1, hB1⟩ := id hp
  rw [lLoc, ← hB1 0 0 (by omega), ← hB1 70 0 (by omega), ← hB1 95 0 (by omega)] at hl
  refine lv_istore (lv' := (5, .int (zI ((cd_landAfter S a1 a2 : Nat) : Int))) :: lLoc b B1 j) hx hb dL_law_449 hl (by decide) rfl (fun ls hl => ?_)
  have hmd1 : md Z B1 C1 S T th := (hmd.out (fun k' z1 z2 => hfo1 k' 0 (by omega) (by omega))).Bx (fun k' z1 z2 => hB1 k' 0 (by omega))
  obtain ⟨⟨mg, h70⟩, -⟩ := id hmd1
  refine lv_aload_n hx hb dL_law_451 rfl (lv_at hl 3 rfl) ?_
  refine l_arg 1 X hX hbl hzz hS hL (by omega) (lv_at hl 1 rfl) (lv_at hl 5 rfl) ea1 (k5 := 1) rfl dL_law_452 dL_law_453 dL_law_455 dL_law_456 dL_law_457 ?_
  refine l_arg 2 X hX hbl hzz hS hL (by omega) (lv_at hl 1 rfl) (lv_at hl 5 rfl) ea2 (k5 := 2) rfl dL_law_458 dL_law_459 dL_law_461 dL_law_462 dL_law_463 ?_
  refine g_ci (g_runV X (k_X8_landAfter hmd1 hwf ra1 ra2) (cwV 2 hts gL_law_X8_landAfter rfl rfl rfl ⟨rfl, ds_X8_landAfter⟩ ⟨Nat.le_of_ble_eq_true rfl, Nat.le_of_ble_eq_true rfl⟩) hW hS h70 rfl rfl hl.1 rfl (Nat.le_of_ble_eq_true rfl) dL_law_464 ⟨by omega, by omega⟩) hS (fun r2 C2 H locs hp2 hW hS => ?_)
  refine lv_istore (lv' := (6, .int r2) :: (5, .int (zI ((cd_landAfter S a1 a2 : Nat) : Int))) :: lLoc b B1 j) hx hb dL_law_467 hl (by decide) rfl (fun ls hl => ?_)
  have hm : mpo Z B1 C1 S T (cd_landAfter S a1 a2) (bcnt (bset (S 3 a1.toNat) a2.toNat) : Int) (nS_landAfter S a1 a2) T r2 C2 := hp2
  obtain ⟨S2, T2, F2, w1, w2, w3, w4, w5, w6, w7⟩ := law_mid hwf hwz (nx_landAfter hwf hwz) hp hm
  refine lt_int (t0 := 469) X w5 w6 w7 (by unfold cd_landAfter; (repeat' split) <;> omega) hW hS hl ⟨by omega, by omega⟩ dL_law_469 dL_law_470 dL_law_473 dL_law_475 dL_law_480 dL_law_482 dL_law_485 dL_law_486 dL_law_487 dL_law_488 dL_law_490 dL_law_491 dL_law_492 dL_law_497 (by decide) (fun H1 locs1 hW hS => ?_)
  exact W.widen (by omega) (by omega) (kk B1 C2 S2 T2 H1 locs1 ls ⟨w1, w2, w3, w4, ⟨_, w5⟩, F2, w6⟩ hW hS (lv_sub hl [2, 3, 4, 5, 6] rfl))

set_option maxHeartbeats 4000000 in
set_option maxRecDepth 100000 in
theorem lc_setPriority {p : Program} {l : Launch} {e : Env} {s : State} {m : MethodId} {below : List Frame} {meth : Method} {c : Code} {H : Heap} {locs : List Loc} {cells slots : Nat} {Q : State → Prop} {b L j : Nat} {xs : Nat → Int32} {Z : gZ} {B : gB} {C : gC} {S : gS} {T : gTx} {ls : Array Slot} (hfl : l.stackTraces = false) (X : gX Z p s m c code 7 #[Value.ref b] wsL_law RL) (hNc : gNc s) (hX : va_X b L xs s s.heap) (hbl : b < s.heap.size) (hzz : Z.2.2 = s.heap.size) (hI : lawI Z B C S T) (hW : gw Z B C H) (hS : va_S (gA Z) s.heap H locs) (hj : 4 * j + 4 ≤ L) (hL : L ≤ 2048) (hl : lv_has ls 7 (lLoc b B j)) (hc : cells + 16 ≤ room_1.cells) (hs : slots + 128 ≤ room_1.slots) (kk : lKont p l e s m below meth c b Q Z j cells slots) : W p l e room_1 s m #[Value.ref b] below meth c H locs cells slots Q (F0 m 500 ls []) := by
  have hx := X.1.1
  have hb := X.1.2.1
  have hts := X.1.2.2.2.2
  obtain ⟨hwf, hwz, hcs, hcx, ⟨th, hmd⟩, FO, h95⟩ := hI
  obtain ⟨a1, ra1, ea1⟩ := zI_ex (xs (4 * j + 1))
  obtain ⟨a2, ra2, ea2⟩ := zI_ex (xs (4 * j + 2))
  refine lv_aload_n hx hb dL_law_500 rfl (lv_at hl 1 rfl) ?_
  refine l_arg 1 X hX hbl hzz hS hL (by omega) (lv_at hl 0 rfl) (lv_at hl 4 rfl) ea1 (k5 := 1) rfl dL_law_501 dL_law_502 dL_law_504 dL_law_505 dL_law_506 ?_
  refine l_arg 2 X hX hbl hzz hS hL (by omega) (lv_at hl 0 rfl) (lv_at hl 4 rfl) ea2 (k5 := 2) rfl dL_law_507 dL_law_508 dL_law_510 dL_law_511 dL_law_512 ?_
  refine lv_aload_n hx hb dL_law_513 rfl (lv_at hl 3 rfl) ?_
  refine g_ciB (g_runSW X hNc (k_L_setPriority hfl hcs hcx hwf ra1 ra2 h95) (vx_cwSW 4 hts gL_law_L_setPriority rfl rfl rfl ds_L_setPriority ⟨Nat.le_of_ble_eq_true rfl, Nat.le_of_ble_eq_true rfl⟩) hW hS rfl hl.1 rfl (Nat.le_of_ble_eq_true rfl) dL_law_514 ⟨by omega, by omega⟩) hS (fun r B1 C1 H locs hp hW hS => ?_)
  obtain ⟨rfl, -, -, ⟨F1, h951⟩, hcx1, hfo1, hB1⟩ := id hp
  rw [lLoc, ← hB1 0 0 (by omega), ← hB1 70 0 (by omega), ← hB1 95 0 (by omega)] at hl
  refine lv_istore (lv' := (5, .int (zI ((cd_setPriority S a1 a2 : Nat) : Int))) :: lLoc b B1 j) hx hb dL_law_517 hl (by decide) rfl (fun ls hl => ?_)
  have hmd1 : md Z B1 C1 S T th := (hmd.out (fun k' z1 z2 => hfo1 k' 0 (by omega) (by omega))).Bx (fun k' z1 z2 => hB1 k' 0 (by omega))
  obtain ⟨⟨mg, h70⟩, -⟩ := id hmd1
  refine lv_aload_n hx hb dL_law_519 rfl (lv_at hl 3 rfl) ?_
  refine l_arg 1 X hX hbl hzz hS hL (by omega) (lv_at hl 1 rfl) (lv_at hl 5 rfl) ea1 (k5 := 1) rfl dL_law_520 dL_law_521 dL_law_523 dL_law_524 dL_law_525 ?_
  refine l_arg 2 X hX hbl hzz hS hL (by omega) (lv_at hl 1 rfl) (lv_at hl 5 rfl) ea2 (k5 := 2) rfl dL_law_526 dL_law_527 dL_law_529 dL_law_530 dL_law_531 ?_
  refine g_ci (g_runV X (k_X8_setPriority hmd1 hwf ra1 ra2) (cwV 2 hts gL_law_X8_setPriority rfl rfl rfl ⟨rfl, ds_X8_setPriority⟩ ⟨Nat.le_of_ble_eq_true rfl, Nat.le_of_ble_eq_true rfl⟩) hW hS h70 rfl rfl hl.1 rfl (Nat.le_of_ble_eq_true rfl) dL_law_532 ⟨by omega, by omega⟩) hS (fun r2 C2 H locs hp2 hW hS => ?_)
  refine lv_istore (lv' := (6, .int r2) :: (5, .int (zI ((cd_setPriority S a1 a2 : Nat) : Int))) :: lLoc b B1 j) hx hb dL_law_535 hl (by decide) rfl (fun ls hl => ?_)
  have hm : mpo Z B1 C1 S T (cd_setPriority S a1 a2) (S 4 a1.toNat : Int) (nS_setPriority S a1 a2) T r2 C2 := hp2
  obtain ⟨S2, T2, F2, w1, w2, w3, w4, w5, w6, w7⟩ := law_mid hwf hwz (nx_setPriority hwf hwz) hp hm
  refine lt_int (t0 := 537) X w5 w6 w7 (by unfold cd_setPriority; (repeat' split) <;> omega) hW hS hl ⟨by omega, by omega⟩ dL_law_537 dL_law_538 dL_law_541 dL_law_543 dL_law_548 dL_law_550 dL_law_553 dL_law_554 dL_law_555 dL_law_556 dL_law_558 dL_law_559 dL_law_560 dL_law_565 (by decide) (fun H1 locs1 hW hS => ?_)
  exact W.widen (by omega) (by omega) (kk B1 C2 S2 T2 H1 locs1 ls ⟨w1, w2, w3, w4, ⟨_, w5⟩, F2, w6⟩ hW hS (lv_sub hl [2, 3, 4, 5, 6] rfl))

set_option maxHeartbeats 4000000 in
set_option maxRecDepth 100000 in
theorem lc_comment {p : Program} {l : Launch} {e : Env} {s : State} {m : MethodId} {below : List Frame} {meth : Method} {c : Code} {H : Heap} {locs : List Loc} {cells slots : Nat} {Q : State → Prop} {b L j : Nat} {xs : Nat → Int32} {Z : gZ} {B : gB} {C : gC} {S : gS} {T : gTx} {ls : Array Slot} (hfl : l.stackTraces = false) (X : gX Z p s m c code 7 #[Value.ref b] wsL_law RL) (hNc : gNc s) (hX : va_X b L xs s s.heap) (hbl : b < s.heap.size) (hzz : Z.2.2 = s.heap.size) (hI : lawI Z B C S T) (hW : gw Z B C H) (hS : va_S (gA Z) s.heap H locs) (hj : 4 * j + 4 ≤ L) (hL : L ≤ 2048) (hl : lv_has ls 7 (lLoc b B j)) (hc : cells + 16 ≤ room_1.cells) (hs : slots + 128 ≤ room_1.slots) (kk : lKont p l e s m below meth c b Q Z j cells slots) : W p l e room_1 s m #[Value.ref b] below meth c H locs cells slots Q (F0 m 568 ls []) := by
  have hx := X.1.1
  have hb := X.1.2.1
  have hts := X.1.2.2.2.2
  obtain ⟨hwf, hwz, hcs, hcx, ⟨th, hmd⟩, FO, h95⟩ := hI
  obtain ⟨a1, ra1, ea1⟩ := zI_ex (xs (4 * j + 1))
  obtain ⟨a2, ra2, ea2⟩ := zI_ex (xs (4 * j + 2))
  refine lv_aload_n hx hb dL_law_568 rfl (lv_at hl 1 rfl) ?_
  refine l_arg 1 X hX hbl hzz hS hL (by omega) (lv_at hl 0 rfl) (lv_at hl 4 rfl) ea1 (k5 := 1) rfl dL_law_569 dL_law_570 dL_law_572 dL_law_573 dL_law_574 ?_
  refine l_arg 2 X hX hbl hzz hS hL (by omega) (lv_at hl 0 rfl) (lv_at hl 4 rfl) ea2 (k5 := 2) rfl dL_law_575 dL_law_576 dL_law_578 dL_law_579 dL_law_580 ?_
  refine lv_aload_n hx hb dL_law_581 rfl (lv_at hl 3 rfl) ?_
  refine g_ciB (g_runSW X hNc (k_L_comment hfl hcs hcx hwf ra1 ra2 hwz h95) (vx_cwSW 4 hts gL_law_L_comment rfl rfl rfl ds_L_comment ⟨Nat.le_of_ble_eq_true rfl, Nat.le_of_ble_eq_true rfl⟩) hW hS rfl hl.1 rfl (Nat.le_of_ble_eq_true rfl) dL_law_582 ⟨by omega, by omega⟩) hS (fun r B1 C1 H locs hp hW hS => ?_)
  obtain ⟨rfl, -, -, ⟨F1, h951⟩, hcx1, hfo1, hB1⟩ := id hp
  rw [lLoc, ← hB1 0 0 (by omega), ← hB1 70 0 (by omega), ← hB1 95 0 (by omega)] at hl
  refine lv_istore (lv' := (5, .int (zI ((cd_comment S T a1 a2 : Nat) : Int))) :: lLoc b B1 j) hx hb dL_law_585 hl (by decide) rfl (fun ls hl => ?_)
  have hmd1 : md Z B1 C1 S T th := (hmd.out (fun k' z1 z2 => hfo1 k' 0 (by omega) (by omega))).Bx (fun k' z1 z2 => hB1 k' 0 (by omega))
  obtain ⟨⟨mg, h70⟩, -⟩ := id hmd1
  refine lv_aload_n hx hb dL_law_587 rfl (lv_at hl 3 rfl) ?_
  refine l_arg 1 X hX hbl hzz hS hL (by omega) (lv_at hl 1 rfl) (lv_at hl 5 rfl) ea1 (k5 := 1) rfl dL_law_588 dL_law_589 dL_law_591 dL_law_592 dL_law_593 ?_
  refine l_arg 2 X hX hbl hzz hS hL (by omega) (lv_at hl 1 rfl) (lv_at hl 5 rfl) ea2 (k5 := 2) rfl dL_law_594 dL_law_595 dL_law_597 dL_law_598 dL_law_599 ?_
  refine g_ci (g_runV X (k_X8_comment hmd1 hwf ra1 ra2) (cwV 2 hts gL_law_X8_comment rfl rfl rfl ⟨rfl, ds_X8_comment⟩ ⟨Nat.le_of_ble_eq_true rfl, Nat.le_of_ble_eq_true rfl⟩) hW hS h70 rfl rfl hl.1 rfl (Nat.le_of_ble_eq_true rfl) dL_law_600 ⟨by omega, by omega⟩) hS (fun r2 C2 H locs hp2 hW hS => ?_)
  refine lv_istore (lv' := (6, .int r2) :: (5, .int (zI ((cd_comment S T a1 a2 : Nat) : Int))) :: lLoc b B1 j) hx hb dL_law_603 hl (by decide) rfl (fun ls hl => ?_)
  have hm : mpo Z B1 C1 S T (cd_comment S T a1 a2) (S 0 2 : Int) (nS_comment S a1 a2) T r2 C2 := hp2
  obtain ⟨S2, T2, F2, w1, w2, w3, w4, w5, w6, w7⟩ := law_mid hwf hwz (nx_comment hwf hwz) hp hm
  refine lt_int (t0 := 605) X w5 w6 w7 (by unfold cd_comment; (repeat' split) <;> omega) hW hS hl ⟨by omega, by omega⟩ dL_law_605 dL_law_606 dL_law_609 dL_law_611 dL_law_616 dL_law_618 dL_law_621 dL_law_622 dL_law_623 dL_law_624 dL_law_626 dL_law_627 dL_law_628 dL_law_633 (by decide) (fun H1 locs1 hW hS => ?_)
  exact W.widen (by omega) (by omega) (kk B1 C2 S2 T2 H1 locs1 ls ⟨w1, w2, w3, w4, ⟨_, w5⟩, F2, w6⟩ hW hS (lv_sub hl [2, 3, 4, 5, 6] rfl))

set_option maxHeartbeats 4000000 in
set_option maxRecDepth 100000 in
theorem lc_resolve {p : Program} {l : Launch} {e : Env} {s : State} {m : MethodId} {below : List Frame} {meth : Method} {c : Code} {H : Heap} {locs : List Loc} {cells slots : Nat} {Q : State → Prop} {b L j : Nat} {xs : Nat → Int32} {Z : gZ} {B : gB} {C : gC} {S : gS} {T : gTx} {ls : Array Slot} (hfl : l.stackTraces = false) (X : gX Z p s m c code 7 #[Value.ref b] wsL_law RL) (hNc : gNc s) (hX : va_X b L xs s s.heap) (hbl : b < s.heap.size) (hzz : Z.2.2 = s.heap.size) (hI : lawI Z B C S T) (hW : gw Z B C H) (hS : va_S (gA Z) s.heap H locs) (hj : 4 * j + 4 ≤ L) (hL : L ≤ 2048) (hl : lv_has ls 7 (lLoc b B j)) (hc : cells + 16 ≤ room_1.cells) (hs : slots + 128 ≤ room_1.slots) (kk : lKont p l e s m below meth c b Q Z j cells slots) : W p l e room_1 s m #[Value.ref b] below meth c H locs cells slots Q (F0 m 636 ls []) := by
  have hx := X.1.1
  have hb := X.1.2.1
  have hts := X.1.2.2.2.2
  obtain ⟨hwf, hwz, hcs, hcx, ⟨th, hmd⟩, FO, h95⟩ := hI
  obtain ⟨a1, ra1, ea1⟩ := zI_ex (xs (4 * j + 1))
  refine lv_aload_n hx hb dL_law_636 rfl (lv_at hl 1 rfl) ?_
  refine l_arg 1 X hX hbl hzz hS hL (by omega) (lv_at hl 0 rfl) (lv_at hl 4 rfl) ea1 (k5 := 1) rfl dL_law_637 dL_law_638 dL_law_640 dL_law_641 dL_law_642 ?_
  refine lv_aload_n hx hb dL_law_643 rfl (lv_at hl 3 rfl) ?_
  refine g_ciB (g_runSW X hNc (k_L_resolve hfl hcs hcx hwf ra1 h95) (vx_cwSW 3 hts gL_law_L_resolve rfl rfl rfl ds_L_resolve ⟨Nat.le_of_ble_eq_true rfl, Nat.le_of_ble_eq_true rfl⟩) hW hS rfl hl.1 rfl (Nat.le_of_ble_eq_true rfl) dL_law_644 ⟨by omega, by omega⟩) hS (fun r B1 C1 H locs hp hW hS => ?_)
  obtain ⟨rfl, -, -, ⟨F1, h951⟩, hcx1, hfo1, hB1⟩ := id hp
  rw [lLoc, ← hB1 0 0 (by omega), ← hB1 70 0 (by omega), ← hB1 95 0 (by omega)] at hl
  refine lv_istore (lv' := (5, .int (zI ((cd_resolve S a1 : Nat) : Int))) :: lLoc b B1 j) hx hb dL_law_647 hl (by decide) rfl (fun ls hl => ?_)
  have hmd1 : md Z B1 C1 S T th := (hmd.out (fun k' z1 z2 => hfo1 k' 0 (by omega) (by omega))).Bx (fun k' z1 z2 => hB1 k' 0 (by omega))
  obtain ⟨⟨mg, h70⟩, -⟩ := id hmd1
  refine lv_aload_n hx hb dL_law_649 rfl (lv_at hl 3 rfl) ?_
  refine l_arg 1 X hX hbl hzz hS hL (by omega) (lv_at hl 1 rfl) (lv_at hl 5 rfl) ea1 (k5 := 1) rfl dL_law_650 dL_law_651 dL_law_653 dL_law_654 dL_law_655 ?_
  refine g_ci (g_runV X (k_X8_resolve hmd1 hwf ra1) (cwV 1 hts gL_law_X8_resolve rfl rfl rfl ⟨rfl, ds_X8_resolve⟩ ⟨Nat.le_of_ble_eq_true rfl, Nat.le_of_ble_eq_true rfl⟩) hW hS h70 rfl rfl hl.1 rfl (Nat.le_of_ble_eq_true rfl) dL_law_656 ⟨by omega, by omega⟩) hS (fun r2 C2 H locs hp2 hW hS => ?_)
  refine lv_istore (lv' := (6, .int r2) :: (5, .int (zI ((cd_resolve S a1 : Nat) : Int))) :: lLoc b B1 j) hx hb dL_law_659 hl (by decide) rfl (fun ls hl => ?_)
  have hm : mpo Z B1 C1 S T (cd_resolve S a1) (opn (nS_resolve S a1) (S 11 a1.toNat) : Int) (nS_resolve S a1) T r2 C2 := hp2
  obtain ⟨S2, T2, F2, w1, w2, w3, w4, w5, w6, w7⟩ := law_mid hwf hwz (nx_resolve hwf hwz) hp hm
  refine lt_int (t0 := 661) X w5 w6 w7 (by unfold cd_resolve; (repeat' split) <;> omega) hW hS hl ⟨by omega, by omega⟩ dL_law_661 dL_law_662 dL_law_665 dL_law_667 dL_law_672 dL_law_674 dL_law_677 dL_law_678 dL_law_679 dL_law_680 dL_law_682 dL_law_683 dL_law_684 dL_law_689 (by decide) (fun H1 locs1 hW hS => ?_)
  exact W.widen (by omega) (by omega) (kk B1 C2 S2 T2 H1 locs1 ls ⟨w1, w2, w3, w4, ⟨_, w5⟩, F2, w6⟩ hW hS (lv_sub hl [2, 3, 4, 5, 6] rfl))

set_option maxHeartbeats 4000000 in
set_option maxRecDepth 100000 in
theorem lc_approve {p : Program} {l : Launch} {e : Env} {s : State} {m : MethodId} {below : List Frame} {meth : Method} {c : Code} {H : Heap} {locs : List Loc} {cells slots : Nat} {Q : State → Prop} {b L j : Nat} {xs : Nat → Int32} {Z : gZ} {B : gB} {C : gC} {S : gS} {T : gTx} {ls : Array Slot} (hfl : l.stackTraces = false) (X : gX Z p s m c code 7 #[Value.ref b] wsL_law RL) (hNc : gNc s) (hX : va_X b L xs s s.heap) (hbl : b < s.heap.size) (hzz : Z.2.2 = s.heap.size) (hI : lawI Z B C S T) (hW : gw Z B C H) (hS : va_S (gA Z) s.heap H locs) (hj : 4 * j + 4 ≤ L) (hL : L ≤ 2048) (hl : lv_has ls 7 (lLoc b B j)) (hc : cells + 16 ≤ room_1.cells) (hs : slots + 128 ≤ room_1.slots) (kk : lKont p l e s m below meth c b Q Z j cells slots) : W p l e room_1 s m #[Value.ref b] below meth c H locs cells slots Q (F0 m 692 ls []) := by
  have hx := X.1.1
  have hb := X.1.2.1
  have hts := X.1.2.2.2.2
  obtain ⟨hwf, hwz, hcs, hcx, ⟨th, hmd⟩, FO, h95⟩ := hI
  obtain ⟨a1, ra1, ea1⟩ := zI_ex (xs (4 * j + 1))
  obtain ⟨a2, ra2, ea2⟩ := zI_ex (xs (4 * j + 2))
  refine lv_aload_n hx hb dL_law_692 rfl (lv_at hl 1 rfl) ?_
  refine l_arg 1 X hX hbl hzz hS hL (by omega) (lv_at hl 0 rfl) (lv_at hl 4 rfl) ea1 (k5 := 1) rfl dL_law_693 dL_law_694 dL_law_696 dL_law_697 dL_law_698 ?_
  refine l_arg 2 X hX hbl hzz hS hL (by omega) (lv_at hl 0 rfl) (lv_at hl 4 rfl) ea2 (k5 := 2) rfl dL_law_699 dL_law_700 dL_law_702 dL_law_703 dL_law_704 ?_
  refine lv_aload_n hx hb dL_law_705 rfl (lv_at hl 3 rfl) ?_
  refine g_ciB (g_runSW X hNc (k_L_approve hfl hcs hcx hwf ra1 ra2 h95) (vx_cwSW 4 hts gL_law_L_approve rfl rfl rfl ds_L_approve ⟨Nat.le_of_ble_eq_true rfl, Nat.le_of_ble_eq_true rfl⟩) hW hS rfl hl.1 rfl (Nat.le_of_ble_eq_true rfl) dL_law_706 ⟨by omega, by omega⟩) hS (fun r B1 C1 H locs hp hW hS => ?_)
  obtain ⟨rfl, -, -, ⟨F1, h951⟩, hcx1, hfo1, hB1⟩ := id hp
  rw [lLoc, ← hB1 0 0 (by omega), ← hB1 70 0 (by omega), ← hB1 95 0 (by omega)] at hl
  refine lv_istore (lv' := (5, .int (zI ((cd_approve S a1 a2 : Nat) : Int))) :: lLoc b B1 j) hx hb dL_law_709 hl (by decide) rfl (fun ls hl => ?_)
  have hmd1 : md Z B1 C1 S T th := (hmd.out (fun k' z1 z2 => hfo1 k' 0 (by omega) (by omega))).Bx (fun k' z1 z2 => hB1 k' 0 (by omega))
  obtain ⟨⟨mg, h70⟩, -⟩ := id hmd1
  refine lv_aload_n hx hb dL_law_711 rfl (lv_at hl 3 rfl) ?_
  refine l_arg 1 X hX hbl hzz hS hL (by omega) (lv_at hl 1 rfl) (lv_at hl 5 rfl) ea1 (k5 := 1) rfl dL_law_712 dL_law_713 dL_law_715 dL_law_716 dL_law_717 ?_
  refine l_arg 2 X hX hbl hzz hS hL (by omega) (lv_at hl 1 rfl) (lv_at hl 5 rfl) ea2 (k5 := 2) rfl dL_law_718 dL_law_719 dL_law_721 dL_law_722 dL_law_723 ?_
  refine g_ci (g_runV X (k_X8_approve hmd1 hwf ra1 ra2) (cwV 2 hts gL_law_X8_approve rfl rfl rfl ⟨rfl, ds_X8_approve⟩ ⟨Nat.le_of_ble_eq_true rfl, Nat.le_of_ble_eq_true rfl⟩) hW hS h70 rfl rfl hl.1 rfl (Nat.le_of_ble_eq_true rfl) dL_law_724 ⟨by omega, by omega⟩) hS (fun r2 C2 H locs hp2 hW hS => ?_)
  refine lv_istore (lv' := (6, .int r2) :: (5, .int (zI ((cd_approve S a1 a2 : Nat) : Int))) :: lLoc b B1 j) hx hb dL_law_727 hl (by decide) rfl (fun ls hl => ?_)
  have hm : mpo Z B1 C1 S T (cd_approve S a1 a2) (bcnt (fre (nS_approve S a1 a2) T a1.toNat) : Int) (nS_approve S a1 a2) T r2 C2 := hp2
  obtain ⟨S2, T2, F2, w1, w2, w3, w4, w5, w6, w7⟩ := law_mid hwf hwz (nx_approve hwf hwz) hp hm
  refine lt_int (t0 := 729) X w5 w6 w7 (by unfold cd_approve; (repeat' split) <;> omega) hW hS hl ⟨by omega, by omega⟩ dL_law_729 dL_law_730 dL_law_733 dL_law_735 dL_law_740 dL_law_742 dL_law_745 dL_law_746 dL_law_747 dL_law_748 dL_law_750 dL_law_751 dL_law_752 dL_law_757 (by decide) (fun H1 locs1 hW hS => ?_)
  exact W.widen (by omega) (by omega) (kk B1 C2 S2 T2 H1 locs1 ls ⟨w1, w2, w3, w4, ⟨_, w5⟩, F2, w6⟩ hW hS (lv_sub hl [2, 3, 4, 5, 6] rfl))

set_option maxHeartbeats 4000000 in
set_option maxRecDepth 100000 in
theorem lc_withdraw {p : Program} {l : Launch} {e : Env} {s : State} {m : MethodId} {below : List Frame} {meth : Method} {c : Code} {H : Heap} {locs : List Loc} {cells slots : Nat} {Q : State → Prop} {b L j : Nat} {xs : Nat → Int32} {Z : gZ} {B : gB} {C : gC} {S : gS} {T : gTx} {ls : Array Slot} (hfl : l.stackTraces = false) (X : gX Z p s m c code 7 #[Value.ref b] wsL_law RL) (hNc : gNc s) (hX : va_X b L xs s s.heap) (hbl : b < s.heap.size) (hzz : Z.2.2 = s.heap.size) (hI : lawI Z B C S T) (hW : gw Z B C H) (hS : va_S (gA Z) s.heap H locs) (hj : 4 * j + 4 ≤ L) (hL : L ≤ 2048) (hl : lv_has ls 7 (lLoc b B j)) (hc : cells + 16 ≤ room_1.cells) (hs : slots + 128 ≤ room_1.slots) (kk : lKont p l e s m below meth c b Q Z j cells slots) : W p l e room_1 s m #[Value.ref b] below meth c H locs cells slots Q (F0 m 760 ls []) := by
  have hx := X.1.1
  have hb := X.1.2.1
  have hts := X.1.2.2.2.2
  obtain ⟨hwf, hwz, hcs, hcx, ⟨th, hmd⟩, FO, h95⟩ := hI
  obtain ⟨a1, ra1, ea1⟩ := zI_ex (xs (4 * j + 1))
  obtain ⟨a2, ra2, ea2⟩ := zI_ex (xs (4 * j + 2))
  refine lv_aload_n hx hb dL_law_760 rfl (lv_at hl 1 rfl) ?_
  refine l_arg 1 X hX hbl hzz hS hL (by omega) (lv_at hl 0 rfl) (lv_at hl 4 rfl) ea1 (k5 := 1) rfl dL_law_761 dL_law_762 dL_law_764 dL_law_765 dL_law_766 ?_
  refine l_arg 2 X hX hbl hzz hS hL (by omega) (lv_at hl 0 rfl) (lv_at hl 4 rfl) ea2 (k5 := 2) rfl dL_law_767 dL_law_768 dL_law_770 dL_law_771 dL_law_772 ?_
  refine lv_aload_n hx hb dL_law_773 rfl (lv_at hl 3 rfl) ?_
  refine g_ciB (g_runSW X hNc (k_L_withdraw hfl hcs hcx hwf ra1 ra2 h95) (vx_cwSW 4 hts gL_law_L_withdraw rfl rfl rfl ds_L_withdraw ⟨Nat.le_of_ble_eq_true rfl, Nat.le_of_ble_eq_true rfl⟩) hW hS rfl hl.1 rfl (Nat.le_of_ble_eq_true rfl) dL_law_774 ⟨by omega, by omega⟩) hS (fun r B1 C1 H locs hp hW hS => ?_)
  obtain ⟨rfl, -, -, ⟨F1, h951⟩, hcx1, hfo1, hB1⟩ := id hp
  rw [lLoc, ← hB1 0 0 (by omega), ← hB1 70 0 (by omega), ← hB1 95 0 (by omega)] at hl
  refine lv_istore (lv' := (5, .int (zI ((cd_withdraw S a1 a2 : Nat) : Int))) :: lLoc b B1 j) hx hb dL_law_777 hl (by decide) rfl (fun ls hl => ?_)
  have hmd1 : md Z B1 C1 S T th := (hmd.out (fun k' z1 z2 => hfo1 k' 0 (by omega) (by omega))).Bx (fun k' z1 z2 => hB1 k' 0 (by omega))
  obtain ⟨⟨mg, h70⟩, -⟩ := id hmd1
  refine lv_aload_n hx hb dL_law_779 rfl (lv_at hl 3 rfl) ?_
  refine l_arg 1 X hX hbl hzz hS hL (by omega) (lv_at hl 1 rfl) (lv_at hl 5 rfl) ea1 (k5 := 1) rfl dL_law_780 dL_law_781 dL_law_783 dL_law_784 dL_law_785 ?_
  refine l_arg 2 X hX hbl hzz hS hL (by omega) (lv_at hl 1 rfl) (lv_at hl 5 rfl) ea2 (k5 := 2) rfl dL_law_786 dL_law_787 dL_law_789 dL_law_790 dL_law_791 ?_
  refine g_ci (g_runV X (k_X8_withdraw hmd1 hwf ra1 ra2) (cwV 2 hts gL_law_X8_withdraw rfl rfl rfl ⟨rfl, ds_X8_withdraw⟩ ⟨Nat.le_of_ble_eq_true rfl, Nat.le_of_ble_eq_true rfl⟩) hW hS h70 rfl rfl hl.1 rfl (Nat.le_of_ble_eq_true rfl) dL_law_792 ⟨by omega, by omega⟩) hS (fun r2 C2 H locs hp2 hW hS => ?_)
  refine lv_istore (lv' := (6, .int r2) :: (5, .int (zI ((cd_withdraw S a1 a2 : Nat) : Int))) :: lLoc b B1 j) hx hb dL_law_795 hl (by decide) rfl (fun ls hl => ?_)
  have hm : mpo Z B1 C1 S T (cd_withdraw S a1 a2) (bcnt (fre (nS_withdraw S a1 a2) T a1.toNat) : Int) (nS_withdraw S a1 a2) T r2 C2 := hp2
  obtain ⟨S2, T2, F2, w1, w2, w3, w4, w5, w6, w7⟩ := law_mid hwf hwz (nx_withdraw hwf hwz) hp hm
  refine lt_int (t0 := 797) X w5 w6 w7 (by unfold cd_withdraw; (repeat' split) <;> omega) hW hS hl ⟨by omega, by omega⟩ dL_law_797 dL_law_798 dL_law_801 dL_law_803 dL_law_808 dL_law_810 dL_law_813 dL_law_814 dL_law_815 dL_law_816 dL_law_818 dL_law_819 dL_law_820 dL_law_825 (by decide) (fun H1 locs1 hW hS => ?_)
  exact W.widen (by omega) (by omega) (kk B1 C2 S2 T2 H1 locs1 ls ⟨w1, w2, w3, w4, ⟨_, w5⟩, F2, w6⟩ hW hS (lv_sub hl [2, 3, 4, 5, 6] rfl))

set_option maxHeartbeats 4000000 in
set_option maxRecDepth 100000 in
theorem lc_land {p : Program} {l : Launch} {e : Env} {s : State} {m : MethodId} {below : List Frame} {meth : Method} {c : Code} {H : Heap} {locs : List Loc} {cells slots : Nat} {Q : State → Prop} {b L j : Nat} {xs : Nat → Int32} {Z : gZ} {B : gB} {C : gC} {S : gS} {T : gTx} {ls : Array Slot} (hfl : l.stackTraces = false) (X : gX Z p s m c code 7 #[Value.ref b] wsL_law RL) (hNc : gNc s) (hX : va_X b L xs s s.heap) (hbl : b < s.heap.size) (hzz : Z.2.2 = s.heap.size) (hI : lawI Z B C S T) (hW : gw Z B C H) (hS : va_S (gA Z) s.heap H locs) (hj : 4 * j + 4 ≤ L) (hL : L ≤ 2048) (hl : lv_has ls 7 (lLoc b B j)) (hc : cells + 16 ≤ room_1.cells) (hs : slots + 128 ≤ room_1.slots) (kk : lKont p l e s m below meth c b Q Z j cells slots) : W p l e room_1 s m #[Value.ref b] below meth c H locs cells slots Q (F0 m 828 ls []) := by
  have hx := X.1.1
  have hb := X.1.2.1
  have hts := X.1.2.2.2.2
  obtain ⟨hwf, hwz, hcs, hcx, ⟨th, hmd⟩, FO, h95⟩ := hI
  obtain ⟨a1, ra1, ea1⟩ := zI_ex (xs (4 * j + 1))
  refine lv_aload_n hx hb dL_law_828 rfl (lv_at hl 1 rfl) ?_
  refine l_arg 1 X hX hbl hzz hS hL (by omega) (lv_at hl 0 rfl) (lv_at hl 4 rfl) ea1 (k5 := 1) rfl dL_law_829 dL_law_830 dL_law_832 dL_law_833 dL_law_834 ?_
  refine lv_aload_n hx hb dL_law_835 rfl (lv_at hl 3 rfl) ?_
  refine g_ciB (g_runSW X hNc (k_L_land hfl hcs hcx hwf ra1 h95) (vx_cwSW 3 hts gL_law_L_land rfl rfl rfl ds_L_land ⟨Nat.le_of_ble_eq_true rfl, Nat.le_of_ble_eq_true rfl⟩) hW hS rfl hl.1 rfl (Nat.le_of_ble_eq_true rfl) dL_law_836 ⟨by omega, by omega⟩) hS (fun r B1 C1 H locs hp hW hS => ?_)
  obtain ⟨rfl, -, -, ⟨F1, h951⟩, hcx1, hfo1, hB1⟩ := id hp
  rw [lLoc, ← hB1 0 0 (by omega), ← hB1 70 0 (by omega), ← hB1 95 0 (by omega)] at hl
  refine lv_istore (lv' := (5, .int (zI ((cd_land S T a1 : Nat) : Int))) :: lLoc b B1 j) hx hb dL_law_839 hl (by decide) rfl (fun ls hl => ?_)
  have hmd1 : md Z B1 C1 S T th := (hmd.out (fun k' z1 z2 => hfo1 k' 0 (by omega) (by omega))).Bx (fun k' z1 z2 => hB1 k' 0 (by omega))
  obtain ⟨⟨mg, h70⟩, -⟩ := id hmd1
  refine lv_aload_n hx hb dL_law_841 rfl (lv_at hl 3 rfl) ?_
  refine l_arg 1 X hX hbl hzz hS hL (by omega) (lv_at hl 1 rfl) (lv_at hl 5 rfl) ea1 (k5 := 1) rfl dL_law_842 dL_law_843 dL_law_845 dL_law_846 dL_law_847 ?_
  refine g_ci (g_runV X (k_X8_land hmd1 hwf ra1) (cwV 1 hts gL_law_X8_land rfl rfl rfl ⟨rfl, ds_X8_land⟩ ⟨Nat.le_of_ble_eq_true rfl, Nat.le_of_ble_eq_true rfl⟩) hW hS h70 rfl rfl hl.1 rfl (Nat.le_of_ble_eq_true rfl) dL_law_848 ⟨by omega, by omega⟩) hS (fun r2 C2 H locs hp2 hW hS => ?_)
  refine lv_istore (lv' := (6, .int r2) :: (5, .int (zI ((cd_land S T a1 : Nat) : Int))) :: lLoc b B1 j) hx hb dL_law_851 hl (by decide) rfl (fun ls hl => ?_)
  have hm : mpo Z B1 C1 S T (cd_land S T a1) ((ldT S T a1.toNat 0).length : Int) (ldS S a1.toNat) (ldT S T a1.toNat) r2 C2 := hp2
  obtain ⟨S2, T2, F2, w1, w2, w3, w4, w5, w6, w7⟩ := law_mid hwf hwz (nx_land hwf hwz) hp hm
  refine lt_int (t0 := 853) X w5 w6 w7 (by unfold cd_land; (repeat' split) <;> omega) hW hS hl ⟨by omega, by omega⟩ dL_law_853 dL_law_854 dL_law_857 dL_law_859 dL_law_864 dL_law_866 dL_law_869 dL_law_870 dL_law_871 dL_law_872 dL_law_874 dL_law_875 dL_law_876 dL_law_881 (by decide) (fun H1 locs1 hW hS => ?_)
  exact W.widen (by omega) (by omega) (kk B1 C2 S2 T2 H1 locs1 ls ⟨w1, w2, w3, w4, ⟨_, w5⟩, F2, w6⟩ hW hS (lv_sub hl [2, 3, 4, 5, 6] rfl))

set_option maxHeartbeats 4000000 in
set_option maxRecDepth 100000 in
theorem lc_landAll {p : Program} {l : Launch} {e : Env} {s : State} {m : MethodId} {below : List Frame} {meth : Method} {c : Code} {H : Heap} {locs : List Loc} {cells slots : Nat} {Q : State → Prop} {b L j : Nat} {xs : Nat → Int32} {Z : gZ} {B : gB} {C : gC} {S : gS} {T : gTx} {ls : Array Slot} (hfl : l.stackTraces = false) (X : gX Z p s m c code 7 #[Value.ref b] wsL_law RL) (hNc : gNc s) (hX : va_X b L xs s s.heap) (hbl : b < s.heap.size) (hzz : Z.2.2 = s.heap.size) (hI : lawI Z B C S T) (hW : gw Z B C H) (hS : va_S (gA Z) s.heap H locs) (hj : 4 * j + 4 ≤ L) (hL : L ≤ 2048) (hl : lv_has ls 7 (lLoc b B j)) (hc : cells + 16 ≤ room_1.cells) (hs : slots + 128 ≤ room_1.slots) (kk : lKont p l e s m below meth c b Q Z j cells slots) : W p l e room_1 s m #[Value.ref b] below meth c H locs cells slots Q (F0 m 884 ls []) := by
  have hx := X.1.1
  have hb := X.1.2.1
  have hts := X.1.2.2.2.2
  obtain ⟨hwf, hwz, hcs, hcx, ⟨th, hmd⟩, FO, h95⟩ := hI
  refine lv_aload_n hx hb dL_law_884 rfl (lv_at hl 1 rfl) ?_
  refine g_ci (g_runV X (k_X7_landAll hcs hcx hwf) (cwV 0 hts gL_law_X7_landAll rfl rfl rfl ⟨rfl, ds_X7_landAll⟩ ⟨Nat.le_of_ble_eq_true rfl, Nat.le_of_ble_eq_true rfl⟩) hW hS hcs.1 rfl rfl hl.1 rfl (Nat.le_of_ble_eq_true rfl) dL_law_885 ⟨by omega, by omega⟩) hS (fun r1 C1 H locs hp hW hS => ?_)
  obtain ⟨rfl, hcs1, hcx1, hfo1⟩ := hp
  have hmd1 : md Z B C1 S T th := hmd.out (fun k' z1 z2 => hfo1 k' 0 (by omega))
  obtain ⟨⟨mg, h70⟩, -⟩ := id hmd1
  refine lv_aload_n hx hb dL_law_888 rfl (lv_at hl 2 rfl) ?_
  refine g_ci (g_runV X (k_X8_landAll hmd1 hwf) (cwV 0 hts gL_law_X8_landAll rfl rfl rfl ⟨rfl, ds_X8_landAll⟩ ⟨Nat.le_of_ble_eq_true rfl, Nat.le_of_ble_eq_true rfl⟩) hW hS h70 rfl rfl hl.1 rfl (Nat.le_of_ble_eq_true rfl) dL_law_889 ⟨by omega, by omega⟩) hS (fun r2 C2 H locs hp2 hW hS => ?_)
  obtain ⟨rfl, w5, hfm⟩ := hp2
  have hwl := wfz.lnd 4 S T hwf hwz
  have b1 := hwl.1.ld
  have b2 := hwl.1.n
  have b3 := hwf.ld
  have b4 := hwf.n
  refine z_icmp_eq (tgt := 2034) hx hb dL_law_892 (by decide) ⟨by omega, by omega⟩ ⟨by omega, by omega⟩ (fun _ => ?_) (fun h => absurd rfl h)
  exact W.widen (by omega) (by omega) (kk B C2 (lnd 4 (S, T)).1 (lnd 4 (S, T)).2 H locs ls ⟨hwl.1, hwl.2, hcs1.out (fun k' i' z1 => hfm k' i' (by omega)), hcx1.kept (fun k' i' z1 z2 => hfm k' i' (by omega)), ⟨_, w5⟩, FO, (hfm 95 0 (by omega)).trans ((hfo1 95 0 (by omega)).trans h95)⟩ hW hS hl)

set_option maxHeartbeats 4000000 in
set_option maxRecDepth 100000 in
theorem lc_reasonAgainst {p : Program} {l : Launch} {e : Env} {s : State} {m : MethodId} {below : List Frame} {meth : Method} {c : Code} {H : Heap} {locs : List Loc} {cells slots : Nat} {Q : State → Prop} {b L j : Nat} {xs : Nat → Int32} {Z : gZ} {B : gB} {C : gC} {S : gS} {T : gTx} {ls : Array Slot} (hfl : l.stackTraces = false) (X : gX Z p s m c code 7 #[Value.ref b] wsL_law RL) (hNc : gNc s) (hX : va_X b L xs s s.heap) (hbl : b < s.heap.size) (hzz : Z.2.2 = s.heap.size) (hI : lawI Z B C S T) (hW : gw Z B C H) (hS : va_S (gA Z) s.heap H locs) (hj : 4 * j + 4 ≤ L) (hL : L ≤ 2048) (hl : lv_has ls 7 (lLoc b B j)) (hc : cells + 16 ≤ room_1.cells) (hs : slots + 128 ≤ room_1.slots) (kk : lKont p l e s m below meth c b Q Z j cells slots) : W p l e room_1 s m #[Value.ref b] below meth c H locs cells slots Q (F0 m 897 ls []) := by
  have hx := X.1.1
  have hb := X.1.2.1
  have hts := X.1.2.2.2.2
  obtain ⟨hwf, hwz, hcs, hcx, ⟨th, hmd⟩, FO, h95⟩ := hI
  obtain ⟨a1, ra1, ea1⟩ := zI_ex (xs (4 * j + 1))
  refine lv_aload_n hx hb dL_law_897 rfl (lv_at hl 1 rfl) ?_
  refine l_arg 1 X hX hbl hzz hS hL (by omega) (lv_at hl 0 rfl) (lv_at hl 4 rfl) ea1 (k5 := 1) rfl dL_law_898 dL_law_899 dL_law_901 dL_law_902 dL_law_903 ?_
  refine lv_aload_n hx hb dL_law_904 rfl (lv_at hl 3 rfl) ?_
  refine g_ciB (g_runSW X hNc (k_L_reasonAgainst hfl hcs hcx hwf ra1 h95) (vx_cwSW 3 hts gL_law_L_reasonAgainst rfl rfl rfl ds_L_reasonAgainst ⟨Nat.le_of_ble_eq_true rfl, Nat.le_of_ble_eq_true rfl⟩) hW hS rfl hl.1 rfl (Nat.le_of_ble_eq_true rfl) dL_law_905 ⟨by omega, by omega⟩) hS (fun r B1 C1 H locs hp hW hS => ?_)
  obtain ⟨rfl, -, -, ⟨F1, h951⟩, hcx1, hfo1, hB1⟩ := id hp
  rw [lLoc, ← hB1 0 0 (by omega), ← hB1 70 0 (by omega), ← hB1 95 0 (by omega)] at hl
  refine lv_istore (lv' := (5, .int (zI ((cd_reason S T a1 : Nat) : Int))) :: lLoc b B1 j) hx hb dL_law_908 hl (by decide) rfl (fun ls hl => ?_)
  have hmd1 : md Z B1 C1 S T th := (hmd.out (fun k' z1 z2 => hfo1 k' 0 (by omega) (by omega))).Bx (fun k' z1 z2 => hB1 k' 0 (by omega))
  obtain ⟨⟨mg, h70⟩, -⟩ := id hmd1
  refine lv_aload_n hx hb dL_law_910 rfl (lv_at hl 3 rfl) ?_
  refine l_arg 1 X hX hbl hzz hS hL (by omega) (lv_at hl 1 rfl) (lv_at hl 5 rfl) ea1 (k5 := 1) rfl dL_law_911 dL_law_912 dL_law_914 dL_law_915 dL_law_916 ?_
  refine g_ci (g_runV X (k_X8_reasonAgainst hmd1 hwf ra1) (cwV 1 hts gL_law_X8_reasonAgainst rfl rfl rfl ⟨rfl, ds_X8_reasonAgainst⟩ ⟨Nat.le_of_ble_eq_true rfl, Nat.le_of_ble_eq_true rfl⟩) hW hS h70 rfl rfl hl.1 rfl (Nat.le_of_ble_eq_true rfl) dL_law_917 ⟨by omega, by omega⟩) hS (fun r2 C2 H locs hp2 hW hS => ?_)
  refine lv_istore (lv' := (6, .int r2) :: (5, .int (zI ((cd_reason S T a1 : Nat) : Int))) :: lLoc b B1 j) hx hb dL_law_920 hl (by decide) rfl (fun ls hl => ?_)
  have hm : mpo Z B1 C1 S T (cd_reason S T a1) (rsn S T a1.toNat : Int) S T r2 C2 := mpo.ask hp2.1 hp2.2.1 hp2.2.2.1
  obtain ⟨S2, T2, F2, w1, w2, w3, w4, w5, w6, w7⟩ := law_mid hwf hwz (fun _ => ⟨hwf, hwz⟩) hp hm
  refine lt_int (t0 := 922) X w5 w6 w7 (by unfold cd_reason; (repeat' split) <;> omega) hW hS hl ⟨by omega, by omega⟩ dL_law_922 dL_law_923 dL_law_926 dL_law_928 dL_law_933 dL_law_935 dL_law_938 dL_law_939 dL_law_940 dL_law_941 dL_law_943 dL_law_944 dL_law_945 dL_law_950 (by decide) (fun H1 locs1 hW hS => ?_)
  exact W.widen (by omega) (by omega) (kk B1 C2 S2 T2 H1 locs1 ls ⟨w1, w2, w3, w4, ⟨_, w5⟩, F2, w6⟩ hW hS (lv_sub hl [2, 3, 4, 5, 6] rfl))

set_option maxHeartbeats 4000000 in
set_option maxRecDepth 100000 in
theorem lc_missingUser {p : Program} {l : Launch} {e : Env} {s : State} {m : MethodId} {below : List Frame} {meth : Method} {c : Code} {H : Heap} {locs : List Loc} {cells slots : Nat} {Q : State → Prop} {b L j : Nat} {xs : Nat → Int32} {Z : gZ} {B : gB} {C : gC} {S : gS} {T : gTx} {ls : Array Slot} (hfl : l.stackTraces = false) (X : gX Z p s m c code 7 #[Value.ref b] wsL_law RL) (hNc : gNc s) (hX : va_X b L xs s s.heap) (hbl : b < s.heap.size) (hzz : Z.2.2 = s.heap.size) (hI : lawI Z B C S T) (hW : gw Z B C H) (hS : va_S (gA Z) s.heap H locs) (hj : 4 * j + 4 ≤ L) (hL : L ≤ 2048) (hl : lv_has ls 7 (lLoc b B j)) (hc : cells + 16 ≤ room_1.cells) (hs : slots + 128 ≤ room_1.slots) (kk : lKont p l e s m below meth c b Q Z j cells slots) : W p l e room_1 s m #[Value.ref b] below meth c H locs cells slots Q (F0 m 953 ls []) := by
  have hx := X.1.1
  have hb := X.1.2.1
  have hts := X.1.2.2.2.2
  obtain ⟨hwf, hwz, hcs, hcx, ⟨th, hmd⟩, FO, h95⟩ := hI
  obtain ⟨a1, ra1, ea1⟩ := zI_ex (xs (4 * j + 1))
  refine lv_aload_n hx hb dL_law_953 rfl (lv_at hl 1 rfl) ?_
  refine l_arg 1 X hX hbl hzz hS hL (by omega) (lv_at hl 0 rfl) (lv_at hl 4 rfl) ea1 (k5 := 1) rfl dL_law_954 dL_law_955 dL_law_957 dL_law_958 dL_law_959 ?_
  refine lv_aload_n hx hb dL_law_960 rfl (lv_at hl 3 rfl) ?_
  refine g_ciB (g_runSW X hNc (k_L_missingUser hfl hcs hcx hwf ra1 h95) (vx_cwSW 3 hts gL_law_L_missingUser rfl rfl rfl ds_L_missingUser ⟨Nat.le_of_ble_eq_true rfl, Nat.le_of_ble_eq_true rfl⟩) hW hS rfl hl.1 rfl (Nat.le_of_ble_eq_true rfl) dL_law_961 ⟨by omega, by omega⟩) hS (fun r B1 C1 H locs hp hW hS => ?_)
  obtain ⟨rfl, -, -, ⟨F1, h951⟩, hcx1, hfo1, hB1⟩ := id hp
  rw [lLoc, ← hB1 0 0 (by omega), ← hB1 70 0 (by omega), ← hB1 95 0 (by omega)] at hl
  refine lv_istore (lv' := (5, .int (zI ((cd_missing S T a1 : Nat) : Int))) :: lLoc b B1 j) hx hb dL_law_964 hl (by decide) rfl (fun ls hl => ?_)
  have hmd1 : md Z B1 C1 S T th := (hmd.out (fun k' z1 z2 => hfo1 k' 0 (by omega) (by omega))).Bx (fun k' z1 z2 => hB1 k' 0 (by omega))
  obtain ⟨⟨mg, h70⟩, -⟩ := id hmd1
  refine lv_aload_n hx hb dL_law_966 rfl (lv_at hl 3 rfl) ?_
  refine l_arg 1 X hX hbl hzz hS hL (by omega) (lv_at hl 1 rfl) (lv_at hl 5 rfl) ea1 (k5 := 1) rfl dL_law_967 dL_law_968 dL_law_970 dL_law_971 dL_law_972 ?_
  refine g_ci (g_runV X (k_X8_missingUser hmd1 hwf ra1) (cwV 1 hts gL_law_X8_missingUser rfl rfl rfl ⟨rfl, ds_X8_missingUser⟩ ⟨Nat.le_of_ble_eq_true rfl, Nat.le_of_ble_eq_true rfl⟩) hW hS h70 rfl rfl hl.1 rfl (Nat.le_of_ble_eq_true rfl) dL_law_973 ⟨by omega, by omega⟩) hS (fun r2 C2 H locs hp2 hW hS => ?_)
  refine lv_istore (lv' := (6, .int r2) :: (5, .int (zI ((cd_missing S T a1 : Nat) : Int))) :: lLoc b B1 j) hx hb dL_law_976 hl (by decide) rfl (fun ls hl => ?_)
  have hm : mpo Z B1 C1 S T (cd_missing S T a1) (((mis S T a1.toNat).getD 0 : Nat) : Int) S T r2 C2 := mpo.ask hp2.1 hp2.2.1 hp2.2.2
  obtain ⟨S2, T2, F2, w1, w2, w3, w4, w5, w6, w7⟩ := law_mid hwf hwz (fun _ => ⟨hwf, hwz⟩) hp hm
  refine lt_int (t0 := 978) X w5 w6 w7 (by unfold cd_missing; (repeat' split) <;> omega) hW hS hl ⟨by omega, by omega⟩ dL_law_978 dL_law_979 dL_law_982 dL_law_984 dL_law_989 dL_law_991 dL_law_994 dL_law_995 dL_law_996 dL_law_997 dL_law_999 dL_law_1000 dL_law_1001 dL_law_1006 (by decide) (fun H1 locs1 hW hS => ?_)
  exact W.widen (by omega) (by omega) (kk B1 C2 S2 T2 H1 locs1 ls ⟨w1, w2, w3, w4, ⟨_, w5⟩, F2, w6⟩ hW hS (lv_sub hl [2, 3, 4, 5, 6] rfl))

set_option maxHeartbeats 4000000 in
set_option maxRecDepth 100000 in
theorem lc_landedAt {p : Program} {l : Launch} {e : Env} {s : State} {m : MethodId} {below : List Frame} {meth : Method} {c : Code} {H : Heap} {locs : List Loc} {cells slots : Nat} {Q : State → Prop} {b L j : Nat} {xs : Nat → Int32} {Z : gZ} {B : gB} {C : gC} {S : gS} {T : gTx} {ls : Array Slot} (hfl : l.stackTraces = false) (X : gX Z p s m c code 7 #[Value.ref b] wsL_law RL) (hNc : gNc s) (hX : va_X b L xs s s.heap) (hbl : b < s.heap.size) (hzz : Z.2.2 = s.heap.size) (hI : lawI Z B C S T) (hW : gw Z B C H) (hS : va_S (gA Z) s.heap H locs) (hj : 4 * j + 4 ≤ L) (hL : L ≤ 2048) (hl : lv_has ls 7 (lLoc b B j)) (hc : cells + 16 ≤ room_1.cells) (hs : slots + 128 ≤ room_1.slots) (kk : lKont p l e s m below meth c b Q Z j cells slots) : W p l e room_1 s m #[Value.ref b] below meth c H locs cells slots Q (F0 m 1009 ls []) := by
  have hx := X.1.1
  have hb := X.1.2.1
  have hts := X.1.2.2.2.2
  obtain ⟨hwf, hwz, hcs, hcx, ⟨th, hmd⟩, FO, h95⟩ := hI
  obtain ⟨a1, ra1, ea1⟩ := zI_ex (xs (4 * j + 1))
  refine lv_aload_n hx hb dL_law_1009 rfl (lv_at hl 1 rfl) ?_
  refine l_arg 1 X hX hbl hzz hS hL (by omega) (lv_at hl 0 rfl) (lv_at hl 4 rfl) ea1 (k5 := 1) rfl dL_law_1010 dL_law_1011 dL_law_1013 dL_law_1014 dL_law_1015 ?_
  refine lv_aload_n hx hb dL_law_1016 rfl (lv_at hl 3 rfl) ?_
  refine g_ciB (g_runSW X hNc (k_L_landedAt hfl hcs hcx hwf ra1 h95) (vx_cwSW 3 hts gL_law_L_landedAt rfl rfl rfl ds_L_landedAt ⟨Nat.le_of_ble_eq_true rfl, Nat.le_of_ble_eq_true rfl⟩) hW hS rfl hl.1 rfl (Nat.le_of_ble_eq_true rfl) dL_law_1017 ⟨by omega, by omega⟩) hS (fun r B1 C1 H locs hp hW hS => ?_)
  obtain ⟨rfl, -, -, ⟨F1, h951⟩, hcx1, hfo1, hB1⟩ := id hp
  rw [lLoc, ← hB1 0 0 (by omega), ← hB1 70 0 (by omega), ← hB1 95 0 (by omega)] at hl
  refine lv_istore (lv' := (5, .int (zI ((cd_landedAt S a1 : Nat) : Int))) :: lLoc b B1 j) hx hb dL_law_1020 hl (by decide) rfl (fun ls hl => ?_)
  have hmd1 : md Z B1 C1 S T th := (hmd.out (fun k' z1 z2 => hfo1 k' 0 (by omega) (by omega))).Bx (fun k' z1 z2 => hB1 k' 0 (by omega))
  obtain ⟨⟨mg, h70⟩, -⟩ := id hmd1
  refine lv_aload_n hx hb dL_law_1022 rfl (lv_at hl 3 rfl) ?_
  refine l_arg 1 X hX hbl hzz hS hL (by omega) (lv_at hl 1 rfl) (lv_at hl 5 rfl) ea1 (k5 := 1) rfl dL_law_1023 dL_law_1024 dL_law_1026 dL_law_1027 dL_law_1028 ?_
  refine g_ci (g_runV X (k_X8_landedAt hmd1 hwf ra1) (cwV 1 hts gL_law_X8_landedAt rfl rfl rfl ⟨rfl, ds_X8_landedAt⟩ ⟨Nat.le_of_ble_eq_true rfl, Nat.le_of_ble_eq_true rfl⟩) hW hS h70 rfl rfl hl.1 rfl (Nat.le_of_ble_eq_true rfl) dL_law_1029 ⟨by omega, by omega⟩) hS (fun r2 C2 H locs hp2 hW hS => ?_)
  refine lv_istore (lv' := (6, .int r2) :: (5, .int (zI ((cd_landedAt S a1 : Nat) : Int))) :: lLoc b B1 j) hx hb dL_law_1032 hl (by decide) rfl (fun ls hl => ?_)
  have hm : mpo Z B1 C1 S T (cd_landedAt S a1) (S 6 a1.toNat : Int) S T r2 C2 := mpo.ask hp2.1 hp2.2.1 hp2.2.2
  obtain ⟨S2, T2, F2, w1, w2, w3, w4, w5, w6, w7⟩ := law_mid hwf hwz (fun _ => ⟨hwf, hwz⟩) hp hm
  refine lt_int (t0 := 1034) X w5 w6 w7 (by unfold cd_landedAt; (repeat' split) <;> omega) hW hS hl ⟨by omega, by omega⟩ dL_law_1034 dL_law_1035 dL_law_1038 dL_law_1040 dL_law_1045 dL_law_1047 dL_law_1050 dL_law_1051 dL_law_1052 dL_law_1053 dL_law_1055 dL_law_1056 dL_law_1057 dL_law_1062 (by decide) (fun H1 locs1 hW hS => ?_)
  exact W.widen (by omega) (by omega) (kk B1 C2 S2 T2 H1 locs1 ls ⟨w1, w2, w3, w4, ⟨_, w5⟩, F2, w6⟩ hW hS (lv_sub hl [2, 3, 4, 5, 6] rfl))

set_option maxHeartbeats 4000000 in
set_option maxRecDepth 100000 in
theorem lc_mainLines {p : Program} {l : Launch} {e : Env} {s : State} {m : MethodId} {below : List Frame} {meth : Method} {c : Code} {H : Heap} {locs : List Loc} {cells slots : Nat} {Q : State → Prop} {b L j : Nat} {xs : Nat → Int32} {Z : gZ} {B : gB} {C : gC} {S : gS} {T : gTx} {ls : Array Slot} (hfl : l.stackTraces = false) (X : gX Z p s m c code 7 #[Value.ref b] wsL_law RL) (hNc : gNc s) (hX : va_X b L xs s s.heap) (hbl : b < s.heap.size) (hzz : Z.2.2 = s.heap.size) (hI : lawI Z B C S T) (hW : gw Z B C H) (hS : va_S (gA Z) s.heap H locs) (hj : 4 * j + 4 ≤ L) (hL : L ≤ 2048) (hl : lv_has ls 7 (lLoc b B j)) (hc : cells + 16 ≤ room_1.cells) (hs : slots + 128 ≤ room_1.slots) (kk : lKont p l e s m below meth c b Q Z j cells slots) : W p l e room_1 s m #[Value.ref b] below meth c H locs cells slots Q (F0 m 1065 ls []) := by
  have hx := X.1.1
  have hb := X.1.2.1
  have hts := X.1.2.2.2.2
  obtain ⟨hwf, hwz, hcs, hcx, ⟨th, hmd⟩, FO, h95⟩ := hI
  refine lv_aload_n hx hb dL_law_1065 rfl (lv_at hl 1 rfl) ?_
  refine g_ci (g_runV X (k_X7_mainLines hcs hwf) (cwV 0 hts gL_law_X7_mainLines rfl rfl rfl ⟨rfl, ds_X7_mainLines⟩ ⟨Nat.le_of_ble_eq_true rfl, Nat.le_of_ble_eq_true rfl⟩) hW hS hcs.1 rfl rfl hl.1 rfl (Nat.le_of_ble_eq_true rfl) dL_law_1066 ⟨by omega, by omega⟩) hS (fun r1 C1 H locs hp hW hS => ?_)
  obtain ⟨rfl, eC⟩ := hp
  rw [eC] at hW
  have hcs1 := hcs
  have hcx1 := hcx
  have hfo1 : gfo C C := gfo.rfl'
  have hmd1 : md Z B C S T th := hmd.out (fun k' z1 z2 => hfo1 k' 0 (by omega))
  obtain ⟨⟨mg, h70⟩, -⟩ := id hmd1
  refine lv_aload_n hx hb dL_law_1069 rfl (lv_at hl 2 rfl) ?_
  refine g_ci (g_runV X (k_X8_mainLines hmd1 hwf) (cwV 0 hts gL_law_X8_mainLines rfl rfl rfl ⟨rfl, ds_X8_mainLines⟩ ⟨Nat.le_of_ble_eq_true rfl, Nat.le_of_ble_eq_true rfl⟩) hW hS h70 rfl rfl hl.1 rfl (Nat.le_of_ble_eq_true rfl) dL_law_1070 ⟨by omega, by omega⟩) hS (fun r2 C2 H locs hp2 hW hS => ?_)
  obtain ⟨rfl, w5, hfm⟩ := hp2
  have b1 := hwf.tx 0
  refine z_icmp_eq (tgt := 2034) hx hb dL_law_1073 (by decide) ⟨by omega, by omega⟩ ⟨by omega, by omega⟩ (fun _ => ?_) (fun h => absurd rfl h)
  exact W.widen (by omega) (by omega) (kk B C2 S T H locs ls ⟨hwf, hwz, hcs1.out (fun k' i' z1 => hfm k' i' (by omega)), hcx1.kept (fun k' i' z1 z2 => hfm k' i' (by omega)), ⟨_, w5⟩, FO, (hfm 95 0 (by omega)).trans ((hfo1 95 0 (by omega)).trans h95)⟩ hW hS hl)

set_option maxHeartbeats 4000000 in
set_option maxRecDepth 100000 in
theorem lc_mainLine {p : Program} {l : Launch} {e : Env} {s : State} {m : MethodId} {below : List Frame} {meth : Method} {c : Code} {H : Heap} {locs : List Loc} {cells slots : Nat} {Q : State → Prop} {b L j : Nat} {xs : Nat → Int32} {Z : gZ} {B : gB} {C : gC} {S : gS} {T : gTx} {ls : Array Slot} (hfl : l.stackTraces = false) (X : gX Z p s m c code 7 #[Value.ref b] wsL_law RL) (hNc : gNc s) (hX : va_X b L xs s s.heap) (hbl : b < s.heap.size) (hzz : Z.2.2 = s.heap.size) (hI : lawI Z B C S T) (hW : gw Z B C H) (hS : va_S (gA Z) s.heap H locs) (hj : 4 * j + 4 ≤ L) (hL : L ≤ 2048) (hl : lv_has ls 7 (lLoc b B j)) (hc : cells + 16 ≤ room_1.cells) (hs : slots + 128 ≤ room_1.slots) (kk : lKont p l e s m below meth c b Q Z j cells slots) : W p l e room_1 s m #[Value.ref b] below meth c H locs cells slots Q (F0 m 1078 ls []) := by
  have hx := X.1.1
  have hb := X.1.2.1
  have hts := X.1.2.2.2.2
  obtain ⟨hwf, hwz, hcs, hcx, ⟨th, hmd⟩, FO, h95⟩ := hI
  obtain ⟨a1, ra1, ea1⟩ := zI_ex (xs (4 * j + 1))
  refine lv_aload_n hx hb dL_law_1078 rfl (lv_at hl 1 rfl) ?_
  refine l_arg 1 X hX hbl hzz hS hL (by omega) (lv_at hl 0 rfl) (lv_at hl 4 rfl) ea1 (k5 := 1) rfl dL_law_1079 dL_law_1080 dL_law_1082 dL_law_1083 dL_law_1084 ?_
  refine lv_aload_n hx hb dL_law_1085 rfl (lv_at hl 3 rfl) ?_
  refine g_ciB (g_runSW X hNc (k_L_mainLine hfl hcs hcx hwf ra1 h95) (vx_cwSW 3 hts gL_law_L_mainLine rfl rfl rfl ds_L_mainLine ⟨Nat.le_of_ble_eq_true rfl, Nat.le_of_ble_eq_true rfl⟩) hW hS rfl hl.1 rfl (Nat.le_of_ble_eq_true rfl) dL_law_1086 ⟨by omega, by omega⟩) hS (fun r B1 C1 H locs hp hW hS => ?_)
  obtain ⟨rfl, -, -, ⟨F1, h951⟩, hcx1, hfo1, hB1⟩ := id hp
  rw [lLoc, ← hB1 0 0 (by omega), ← hB1 70 0 (by omega), ← hB1 95 0 (by omega)] at hl
  refine lv_istore (lv' := (5, .int (zI ((cd_mainLine T a1 : Nat) : Int))) :: lLoc b B1 j) hx hb dL_law_1089 hl (by decide) rfl (fun ls hl => ?_)
  have hmd1 : md Z B1 C1 S T th := (hmd.out (fun k' z1 z2 => hfo1 k' 0 (by omega) (by omega))).Bx (fun k' z1 z2 => hB1 k' 0 (by omega))
  obtain ⟨⟨mg, h70⟩, -⟩ := id hmd1
  refine lv_aload_n hx hb dL_law_1091 rfl (lv_at hl 3 rfl) ?_
  refine l_arg 1 X hX hbl hzz hS hL (by omega) (lv_at hl 1 rfl) (lv_at hl 5 rfl) ea1 (k5 := 1) rfl dL_law_1092 dL_law_1093 dL_law_1095 dL_law_1096 dL_law_1097 ?_
  refine g_ci (g_runV X (k_X8_mainLine hmd1 hwf ra1) (cwV 1 hts gL_law_X8_mainLine rfl rfl rfl ⟨rfl, ds_X8_mainLine⟩ ⟨Nat.le_of_ble_eq_true rfl, Nat.le_of_ble_eq_true rfl⟩) hW hS h70 rfl rfl hl.1 rfl (Nat.le_of_ble_eq_true rfl) dL_law_1098 ⟨by omega, by omega⟩) hS (fun r2 C2 H locs hp2 hW hS => ?_)
  refine lv_istore (lv' := (6, .int r2) :: (5, .int (zI ((cd_mainLine T a1 : Nat) : Int))) :: lLoc b B1 j) hx hb dL_law_1101 hl (by decide) rfl (fun ls hl => ?_)
  have hm : mpo Z B1 C1 S T (cd_mainLine T a1) (ta (T 0) a1) S T r2 C2 := mpo.ask hp2.1 hp2.2.1 hp2.2.2
  obtain ⟨S2, T2, F2, w1, w2, w3, w4, w5, w6, w7⟩ := law_mid hwf hwz (fun _ => ⟨hwf, hwz⟩) hp hm
  refine lt_int (t0 := 1103) X w5 w6 w7 (by unfold cd_mainLine; (repeat' split) <;> omega) hW hS hl ⟨by omega, by omega⟩ dL_law_1103 dL_law_1104 dL_law_1107 dL_law_1109 dL_law_1114 dL_law_1116 dL_law_1119 dL_law_1120 dL_law_1121 dL_law_1122 dL_law_1124 dL_law_1125 dL_law_1126 dL_law_1131 (by decide) (fun H1 locs1 hW hS => ?_)
  exact W.widen (by omega) (by omega) (kk B1 C2 S2 T2 H1 locs1 ls ⟨w1, w2, w3, w4, ⟨_, w5⟩, F2, w6⟩ hW hS (lv_sub hl [2, 3, 4, 5, 6] rfl))

set_option maxHeartbeats 4000000 in
set_option maxRecDepth 100000 in
theorem lc_rounds {p : Program} {l : Launch} {e : Env} {s : State} {m : MethodId} {below : List Frame} {meth : Method} {c : Code} {H : Heap} {locs : List Loc} {cells slots : Nat} {Q : State → Prop} {b L j : Nat} {xs : Nat → Int32} {Z : gZ} {B : gB} {C : gC} {S : gS} {T : gTx} {ls : Array Slot} (hfl : l.stackTraces = false) (X : gX Z p s m c code 7 #[Value.ref b] wsL_law RL) (hNc : gNc s) (hX : va_X b L xs s s.heap) (hbl : b < s.heap.size) (hzz : Z.2.2 = s.heap.size) (hI : lawI Z B C S T) (hW : gw Z B C H) (hS : va_S (gA Z) s.heap H locs) (hj : 4 * j + 4 ≤ L) (hL : L ≤ 2048) (hl : lv_has ls 7 (lLoc b B j)) (hc : cells + 16 ≤ room_1.cells) (hs : slots + 128 ≤ room_1.slots) (kk : lKont p l e s m below meth c b Q Z j cells slots) : W p l e room_1 s m #[Value.ref b] below meth c H locs cells slots Q (F0 m 1134 ls []) := by
  have hx := X.1.1
  have hb := X.1.2.1
  have hts := X.1.2.2.2.2
  obtain ⟨hwf, hwz, hcs, hcx, ⟨th, hmd⟩, FO, h95⟩ := hI
  obtain ⟨a1, ra1, ea1⟩ := zI_ex (xs (4 * j + 1))
  refine lv_aload_n hx hb dL_law_1134 rfl (lv_at hl 1 rfl) ?_
  refine l_arg 1 X hX hbl hzz hS hL (by omega) (lv_at hl 0 rfl) (lv_at hl 4 rfl) ea1 (k5 := 1) rfl dL_law_1135 dL_law_1136 dL_law_1138 dL_law_1139 dL_law_1140 ?_
  refine lv_aload_n hx hb dL_law_1141 rfl (lv_at hl 3 rfl) ?_
  refine g_ciB (g_runSW X hNc (k_L_rounds hfl hcs hcx hwf ra1 h95) (vx_cwSW 3 hts gL_law_L_rounds rfl rfl rfl ds_L_rounds ⟨Nat.le_of_ble_eq_true rfl, Nat.le_of_ble_eq_true rfl⟩) hW hS rfl hl.1 rfl (Nat.le_of_ble_eq_true rfl) dL_law_1142 ⟨by omega, by omega⟩) hS (fun r B1 C1 H locs hp hW hS => ?_)
  obtain ⟨rfl, -, -, ⟨F1, h951⟩, hcx1, hfo1, hB1⟩ := id hp
  rw [lLoc, ← hB1 0 0 (by omega), ← hB1 70 0 (by omega), ← hB1 95 0 (by omega)] at hl
  refine lv_istore (lv' := (5, .int (zI ((cd_C S a1 : Nat) : Int))) :: lLoc b B1 j) hx hb dL_law_1145 hl (by decide) rfl (fun ls hl => ?_)
  have hmd1 : md Z B1 C1 S T th := (hmd.out (fun k' z1 z2 => hfo1 k' 0 (by omega) (by omega))).Bx (fun k' z1 z2 => hB1 k' 0 (by omega))
  obtain ⟨⟨mg, h70⟩, -⟩ := id hmd1
  refine lv_aload_n hx hb dL_law_1147 rfl (lv_at hl 3 rfl) ?_
  refine l_arg 1 X hX hbl hzz hS hL (by omega) (lv_at hl 1 rfl) (lv_at hl 5 rfl) ea1 (k5 := 1) rfl dL_law_1148 dL_law_1149 dL_law_1151 dL_law_1152 dL_law_1153 ?_
  refine g_ci (g_runV X (k_X8_rounds hmd1 hwf ra1) (cwV 1 hts gL_law_X8_rounds rfl rfl rfl ⟨rfl, ds_X8_rounds⟩ ⟨Nat.le_of_ble_eq_true rfl, Nat.le_of_ble_eq_true rfl⟩) hW hS h70 rfl rfl hl.1 rfl (Nat.le_of_ble_eq_true rfl) dL_law_1154 ⟨by omega, by omega⟩) hS (fun r2 C2 H locs hp2 hW hS => ?_)
  refine lv_istore (lv' := (6, .int r2) :: (5, .int (zI ((cd_C S a1 : Nat) : Int))) :: lLoc b B1 j) hx hb dL_law_1157 hl (by decide) rfl (fun ls hl => ?_)
  have hm : mpo Z B1 C1 S T (cd_C S a1) (S 2 a1.toNat : Int) S T r2 C2 := mpo.ask hp2.1 hp2.2.1 hp2.2.2
  obtain ⟨S2, T2, F2, w1, w2, w3, w4, w5, w6, w7⟩ := law_mid hwf hwz (fun _ => ⟨hwf, hwz⟩) hp hm
  refine lt_int (t0 := 1159) X w5 w6 w7 (by unfold cd_C; (repeat' split) <;> omega) hW hS hl ⟨by omega, by omega⟩ dL_law_1159 dL_law_1160 dL_law_1163 dL_law_1165 dL_law_1170 dL_law_1172 dL_law_1175 dL_law_1176 dL_law_1177 dL_law_1178 dL_law_1180 dL_law_1181 dL_law_1182 dL_law_1187 (by decide) (fun H1 locs1 hW hS => ?_)
  exact W.widen (by omega) (by omega) (kk B1 C2 S2 T2 H1 locs1 ls ⟨w1, w2, w3, w4, ⟨_, w5⟩, F2, w6⟩ hW hS (lv_sub hl [2, 3, 4, 5, 6] rfl))

set_option maxHeartbeats 4000000 in
set_option maxRecDepth 100000 in
theorem lc_lines {p : Program} {l : Launch} {e : Env} {s : State} {m : MethodId} {below : List Frame} {meth : Method} {c : Code} {H : Heap} {locs : List Loc} {cells slots : Nat} {Q : State → Prop} {b L j : Nat} {xs : Nat → Int32} {Z : gZ} {B : gB} {C : gC} {S : gS} {T : gTx} {ls : Array Slot} (hfl : l.stackTraces = false) (X : gX Z p s m c code 7 #[Value.ref b] wsL_law RL) (hNc : gNc s) (hX : va_X b L xs s s.heap) (hbl : b < s.heap.size) (hzz : Z.2.2 = s.heap.size) (hI : lawI Z B C S T) (hW : gw Z B C H) (hS : va_S (gA Z) s.heap H locs) (hj : 4 * j + 4 ≤ L) (hL : L ≤ 2048) (hl : lv_has ls 7 (lLoc b B j)) (hc : cells + 16 ≤ room_1.cells) (hs : slots + 128 ≤ room_1.slots) (kk : lKont p l e s m below meth c b Q Z j cells slots) : W p l e room_1 s m #[Value.ref b] below meth c H locs cells slots Q (F0 m 1190 ls []) := by
  have hx := X.1.1
  have hb := X.1.2.1
  have hts := X.1.2.2.2.2
  obtain ⟨hwf, hwz, hcs, hcx, ⟨th, hmd⟩, FO, h95⟩ := hI
  obtain ⟨a1, ra1, ea1⟩ := zI_ex (xs (4 * j + 1))
  obtain ⟨a2, ra2, ea2⟩ := zI_ex (xs (4 * j + 2))
  refine lv_aload_n hx hb dL_law_1190 rfl (lv_at hl 1 rfl) ?_
  refine l_arg 1 X hX hbl hzz hS hL (by omega) (lv_at hl 0 rfl) (lv_at hl 4 rfl) ea1 (k5 := 1) rfl dL_law_1191 dL_law_1192 dL_law_1194 dL_law_1195 dL_law_1196 ?_
  refine l_arg 2 X hX hbl hzz hS hL (by omega) (lv_at hl 0 rfl) (lv_at hl 4 rfl) ea2 (k5 := 2) rfl dL_law_1197 dL_law_1198 dL_law_1200 dL_law_1201 dL_law_1202 ?_
  refine lv_aload_n hx hb dL_law_1203 rfl (lv_at hl 3 rfl) ?_
  refine g_ciB (g_runSW X hNc (k_L_lines hfl hcs hcx hwf ra1 ra2 h95) (vx_cwSW 4 hts gL_law_L_lines rfl rfl rfl ds_L_lines ⟨Nat.le_of_ble_eq_true rfl, Nat.le_of_ble_eq_true rfl⟩) hW hS rfl hl.1 rfl (Nat.le_of_ble_eq_true rfl) dL_law_1204 ⟨by omega, by omega⟩) hS (fun r B1 C1 H locs hp hW hS => ?_)
  obtain ⟨rfl, -, -, ⟨F1, h951⟩, hcx1, hfo1, hB1⟩ := id hp
  rw [lLoc, ← hB1 0 0 (by omega), ← hB1 70 0 (by omega), ← hB1 95 0 (by omega)] at hl
  refine lv_istore (lv' := (5, .int (zI ((cd_lines S a1 a2 : Nat) : Int))) :: lLoc b B1 j) hx hb dL_law_1207 hl (by decide) rfl (fun ls hl => ?_)
  have hmd1 : md Z B1 C1 S T th := (hmd.out (fun k' z1 z2 => hfo1 k' 0 (by omega) (by omega))).Bx (fun k' z1 z2 => hB1 k' 0 (by omega))
  obtain ⟨⟨mg, h70⟩, -⟩ := id hmd1
  refine lv_aload_n hx hb dL_law_1209 rfl (lv_at hl 3 rfl) ?_
  refine l_arg 1 X hX hbl hzz hS hL (by omega) (lv_at hl 1 rfl) (lv_at hl 5 rfl) ea1 (k5 := 1) rfl dL_law_1210 dL_law_1211 dL_law_1213 dL_law_1214 dL_law_1215 ?_
  refine l_arg 2 X hX hbl hzz hS hL (by omega) (lv_at hl 1 rfl) (lv_at hl 5 rfl) ea2 (k5 := 2) rfl dL_law_1216 dL_law_1217 dL_law_1219 dL_law_1220 dL_law_1221 ?_
  refine g_ci (g_runV X (k_X8_lines hmd1 hwf ra1 ra2) (cwV 2 hts gL_law_X8_lines rfl rfl rfl ⟨rfl, ds_X8_lines⟩ ⟨Nat.le_of_ble_eq_true rfl, Nat.le_of_ble_eq_true rfl⟩) hW hS h70 rfl rfl hl.1 rfl (Nat.le_of_ble_eq_true rfl) dL_law_1222 ⟨by omega, by omega⟩) hS (fun r2 C2 H locs hp2 hW hS => ?_)
  refine lv_istore (lv' := (6, .int r2) :: (5, .int (zI ((cd_lines S a1 a2 : Nat) : Int))) :: lLoc b B1 j) hx hb dL_law_1225 hl (by decide) rfl (fun ls hl => ?_)
  have hm : mpo Z B1 C1 S T (cd_lines S a1 a2) ((rdt T a1.toNat a2.toNat).length : Int) S T r2 C2 := mpo.ask hp2.1 hp2.2.1 hp2.2.2
  obtain ⟨S2, T2, F2, w1, w2, w3, w4, w5, w6, w7⟩ := law_mid hwf hwz (fun _ => ⟨hwf, hwz⟩) hp hm
  refine lt_int (t0 := 1227) X w5 w6 w7 (by unfold cd_lines; (repeat' split) <;> omega) hW hS hl ⟨by omega, by omega⟩ dL_law_1227 dL_law_1228 dL_law_1231 dL_law_1233 dL_law_1238 dL_law_1240 dL_law_1243 dL_law_1244 dL_law_1245 dL_law_1246 dL_law_1248 dL_law_1249 dL_law_1250 dL_law_1255 (by decide) (fun H1 locs1 hW hS => ?_)
  exact W.widen (by omega) (by omega) (kk B1 C2 S2 T2 H1 locs1 ls ⟨w1, w2, w3, w4, ⟨_, w5⟩, F2, w6⟩ hW hS (lv_sub hl [2, 3, 4, 5, 6] rfl))

set_option maxHeartbeats 4000000 in
set_option maxRecDepth 100000 in
theorem lc_lineAt {p : Program} {l : Launch} {e : Env} {s : State} {m : MethodId} {below : List Frame} {meth : Method} {c : Code} {H : Heap} {locs : List Loc} {cells slots : Nat} {Q : State → Prop} {b L j : Nat} {xs : Nat → Int32} {Z : gZ} {B : gB} {C : gC} {S : gS} {T : gTx} {ls : Array Slot} (hfl : l.stackTraces = false) (X : gX Z p s m c code 7 #[Value.ref b] wsL_law RL) (hNc : gNc s) (hX : va_X b L xs s s.heap) (hbl : b < s.heap.size) (hzz : Z.2.2 = s.heap.size) (hI : lawI Z B C S T) (hW : gw Z B C H) (hS : va_S (gA Z) s.heap H locs) (hj : 4 * j + 4 ≤ L) (hL : L ≤ 2048) (hl : lv_has ls 7 (lLoc b B j)) (hc : cells + 16 ≤ room_1.cells) (hs : slots + 128 ≤ room_1.slots) (kk : lKont p l e s m below meth c b Q Z j cells slots) : W p l e room_1 s m #[Value.ref b] below meth c H locs cells slots Q (F0 m 1258 ls []) := by
  have hx := X.1.1
  have hb := X.1.2.1
  have hts := X.1.2.2.2.2
  obtain ⟨hwf, hwz, hcs, hcx, ⟨th, hmd⟩, FO, h95⟩ := hI
  obtain ⟨a1, ra1, ea1⟩ := zI_ex (xs (4 * j + 1))
  obtain ⟨a2, ra2, ea2⟩ := zI_ex (xs (4 * j + 2))
  obtain ⟨a3, ra3, ea3⟩ := zI_ex (xs (4 * j + 3))
  refine lv_aload_n hx hb dL_law_1258 rfl (lv_at hl 1 rfl) ?_
  refine l_arg 1 X hX hbl hzz hS hL (by omega) (lv_at hl 0 rfl) (lv_at hl 4 rfl) ea1 (k5 := 1) rfl dL_law_1259 dL_law_1260 dL_law_1262 dL_law_1263 dL_law_1264 ?_
  refine l_arg 2 X hX hbl hzz hS hL (by omega) (lv_at hl 0 rfl) (lv_at hl 4 rfl) ea2 (k5 := 2) rfl dL_law_1265 dL_law_1266 dL_law_1268 dL_law_1269 dL_law_1270 ?_
  refine l_arg 3 X hX hbl hzz hS hL (by omega) (lv_at hl 0 rfl) (lv_at hl 4 rfl) ea3 (k5 := 3) rfl dL_law_1271 dL_law_1272 dL_law_1274 dL_law_1275 dL_law_1276 ?_
  refine lv_aload_n hx hb dL_law_1277 rfl (lv_at hl 3 rfl) ?_
  refine g_ciB (g_runSW X hNc (k_L_lineAt hfl hcs hcx hwf ra1 ra2 ra3 h95) (vx_cwSW 5 hts gL_law_L_lineAt rfl rfl rfl ds_L_lineAt ⟨Nat.le_of_ble_eq_true rfl, Nat.le_of_ble_eq_true rfl⟩) hW hS rfl hl.1 rfl (Nat.le_of_ble_eq_true rfl) dL_law_1278 ⟨by omega, by omega⟩) hS (fun r B1 C1 H locs hp hW hS => ?_)
  obtain ⟨rfl, -, -, ⟨F1, h951⟩, hcx1, hfo1, hB1⟩ := id hp
  rw [lLoc, ← hB1 0 0 (by omega), ← hB1 70 0 (by omega), ← hB1 95 0 (by omega)] at hl
  refine lv_istore (lv' := (5, .int (zI ((cd_lineAt S T a1 a2 a3 : Nat) : Int))) :: lLoc b B1 j) hx hb dL_law_1281 hl (by decide) rfl (fun ls hl => ?_)
  have hmd1 : md Z B1 C1 S T th := (hmd.out (fun k' z1 z2 => hfo1 k' 0 (by omega) (by omega))).Bx (fun k' z1 z2 => hB1 k' 0 (by omega))
  obtain ⟨⟨mg, h70⟩, -⟩ := id hmd1
  refine lv_aload_n hx hb dL_law_1283 rfl (lv_at hl 3 rfl) ?_
  refine l_arg 1 X hX hbl hzz hS hL (by omega) (lv_at hl 1 rfl) (lv_at hl 5 rfl) ea1 (k5 := 1) rfl dL_law_1284 dL_law_1285 dL_law_1287 dL_law_1288 dL_law_1289 ?_
  refine l_arg 2 X hX hbl hzz hS hL (by omega) (lv_at hl 1 rfl) (lv_at hl 5 rfl) ea2 (k5 := 2) rfl dL_law_1290 dL_law_1291 dL_law_1293 dL_law_1294 dL_law_1295 ?_
  refine l_arg 3 X hX hbl hzz hS hL (by omega) (lv_at hl 1 rfl) (lv_at hl 5 rfl) ea3 (k5 := 3) rfl dL_law_1296 dL_law_1297 dL_law_1299 dL_law_1300 dL_law_1301 ?_
  refine g_ci (g_runV X (k_X8_lineAt hmd1 hwf ra1 ra2 ra3) (cwV 3 hts gL_law_X8_lineAt rfl rfl rfl ⟨rfl, ds_X8_lineAt⟩ ⟨Nat.le_of_ble_eq_true rfl, Nat.le_of_ble_eq_true rfl⟩) hW hS h70 rfl rfl hl.1 rfl (Nat.le_of_ble_eq_true rfl) dL_law_1302 ⟨by omega, by omega⟩) hS (fun r2 C2 H locs hp2 hW hS => ?_)
  refine lv_istore (lv' := (6, .int r2) :: (5, .int (zI ((cd_lineAt S T a1 a2 a3 : Nat) : Int))) :: lLoc b B1 j) hx hb dL_law_1305 hl (by decide) rfl (fun ls hl => ?_)
  have hm : mpo Z B1 C1 S T (cd_lineAt S T a1 a2 a3) (ta (rdt T a1.toNat a2.toNat) a3) S T r2 C2 := mpo.ask hp2.1 hp2.2.1 hp2.2.2
  obtain ⟨S2, T2, F2, w1, w2, w3, w4, w5, w6, w7⟩ := law_mid hwf hwz (fun _ => ⟨hwf, hwz⟩) hp hm
  refine lt_int (t0 := 1307) X w5 w6 w7 (by unfold cd_lineAt; (repeat' split) <;> omega) hW hS hl ⟨by omega, by omega⟩ dL_law_1307 dL_law_1308 dL_law_1311 dL_law_1313 dL_law_1318 dL_law_1320 dL_law_1323 dL_law_1324 dL_law_1325 dL_law_1326 dL_law_1328 dL_law_1329 dL_law_1330 dL_law_1335 (by decide) (fun H1 locs1 hW hS => ?_)
  exact W.widen (by omega) (by omega) (kk B1 C2 S2 T2 H1 locs1 ls ⟨w1, w2, w3, w4, ⟨_, w5⟩, F2, w6⟩ hW hS (lv_sub hl [2, 3, 4, 5, 6] rfl))

set_option maxHeartbeats 4000000 in
set_option maxRecDepth 100000 in
theorem lc_edits {p : Program} {l : Launch} {e : Env} {s : State} {m : MethodId} {below : List Frame} {meth : Method} {c : Code} {H : Heap} {locs : List Loc} {cells slots : Nat} {Q : State → Prop} {b L j : Nat} {xs : Nat → Int32} {Z : gZ} {B : gB} {C : gC} {S : gS} {T : gTx} {ls : Array Slot} (hfl : l.stackTraces = false) (X : gX Z p s m c code 7 #[Value.ref b] wsL_law RL) (hNc : gNc s) (hX : va_X b L xs s s.heap) (hbl : b < s.heap.size) (hzz : Z.2.2 = s.heap.size) (hI : lawI Z B C S T) (hW : gw Z B C H) (hS : va_S (gA Z) s.heap H locs) (hj : 4 * j + 4 ≤ L) (hL : L ≤ 2048) (hl : lv_has ls 7 (lLoc b B j)) (hc : cells + 16 ≤ room_1.cells) (hs : slots + 128 ≤ room_1.slots) (kk : lKont p l e s m below meth c b Q Z j cells slots) : W p l e room_1 s m #[Value.ref b] below meth c H locs cells slots Q (F0 m 1338 ls []) := by
  have hx := X.1.1
  have hb := X.1.2.1
  have hts := X.1.2.2.2.2
  obtain ⟨hwf, hwz, hcs, hcx, ⟨th, hmd⟩, FO, h95⟩ := hI
  obtain ⟨a1, ra1, ea1⟩ := zI_ex (xs (4 * j + 1))
  obtain ⟨a2, ra2, ea2⟩ := zI_ex (xs (4 * j + 2))
  obtain ⟨a3, ra3, ea3⟩ := zI_ex (xs (4 * j + 3))
  refine lv_aload_n hx hb dL_law_1338 rfl (lv_at hl 1 rfl) ?_
  refine l_arg 1 X hX hbl hzz hS hL (by omega) (lv_at hl 0 rfl) (lv_at hl 4 rfl) ea1 (k5 := 1) rfl dL_law_1339 dL_law_1340 dL_law_1342 dL_law_1343 dL_law_1344 ?_
  refine l_arg 2 X hX hbl hzz hS hL (by omega) (lv_at hl 0 rfl) (lv_at hl 4 rfl) ea2 (k5 := 2) rfl dL_law_1345 dL_law_1346 dL_law_1348 dL_law_1349 dL_law_1350 ?_
  refine l_arg 3 X hX hbl hzz hS hL (by omega) (lv_at hl 0 rfl) (lv_at hl 4 rfl) ea3 (k5 := 3) rfl dL_law_1351 dL_law_1352 dL_law_1354 dL_law_1355 dL_law_1356 ?_
  refine lv_aload_n hx hb dL_law_1357 rfl (lv_at hl 3 rfl) ?_
  refine g_ciB (g_runSW X hNc (k_L_edits hfl hcs hcx hwf ra1 ra2 ra3 h95) (vx_cwSW 5 hts gL_law_L_edits rfl rfl rfl ds_L_edits ⟨Nat.le_of_ble_eq_true rfl, Nat.le_of_ble_eq_true rfl⟩) hW hS rfl hl.1 rfl (Nat.le_of_ble_eq_true rfl) dL_law_1358 ⟨by omega, by omega⟩) hS (fun r B1 C1 H locs hp hW hS => ?_)
  obtain ⟨rfl, -, -, ⟨F1, h951⟩, hcx1, hfo1, hB1⟩ := id hp
  rw [lLoc, ← hB1 0 0 (by omega), ← hB1 70 0 (by omega), ← hB1 95 0 (by omega)] at hl
  refine lv_istore (lv' := (5, .int (zI ((cd_edits S a1 a2 a3 : Nat) : Int))) :: lLoc b B1 j) hx hb dL_law_1361 hl (by decide) rfl (fun ls hl => ?_)
  have hmd1 : md Z B1 C1 S T th := (hmd.out (fun k' z1 z2 => hfo1 k' 0 (by omega) (by omega))).Bx (fun k' z1 z2 => hB1 k' 0 (by omega))
  obtain ⟨⟨mg, h70⟩, -⟩ := id hmd1
  refine lv_aload_n hx hb dL_law_1363 rfl (lv_at hl 3 rfl) ?_
  refine l_arg 1 X hX hbl hzz hS hL (by omega) (lv_at hl 1 rfl) (lv_at hl 5 rfl) ea1 (k5 := 1) rfl dL_law_1364 dL_law_1365 dL_law_1367 dL_law_1368 dL_law_1369 ?_
  refine l_arg 2 X hX hbl hzz hS hL (by omega) (lv_at hl 1 rfl) (lv_at hl 5 rfl) ea2 (k5 := 2) rfl dL_law_1370 dL_law_1371 dL_law_1373 dL_law_1374 dL_law_1375 ?_
  refine l_arg 3 X hX hbl hzz hS hL (by omega) (lv_at hl 1 rfl) (lv_at hl 5 rfl) ea3 (k5 := 3) rfl dL_law_1376 dL_law_1377 dL_law_1379 dL_law_1380 dL_law_1381 ?_
  refine g_ci (g_runV X (k_X8_edits hmd1 hwf ra1 ra2 ra3) (cwV 3 hts gL_law_X8_edits rfl rfl rfl ⟨rfl, ds_X8_edits⟩ ⟨Nat.le_of_ble_eq_true rfl, Nat.le_of_ble_eq_true rfl⟩) hW hS h70 rfl rfl hl.1 rfl (Nat.le_of_ble_eq_true rfl) dL_law_1382 ⟨by omega, by omega⟩) hS (fun r2 C2 H locs hp2 hW hS => ?_)
  refine lv_istore (lv' := (6, .int r2) :: (5, .int (zI ((cd_edits S a1 a2 a3 : Nat) : Int))) :: lLoc b B1 j) hx hb dL_law_1385 hl (by decide) rfl (fun ls hl => ?_)
  have hm : mpo Z B1 C1 S T (cd_edits S a1 a2 a3) (ed (rdt T a1.toNat a2.toNat) (rdt T a1.toNat a3.toNat) : Int) S T r2 C2 := mpo.ask hp2.1 hp2.2.1 hp2.2.2
  obtain ⟨S2, T2, F2, w1, w2, w3, w4, w5, w6, w7⟩ := law_mid hwf hwz (fun _ => ⟨hwf, hwz⟩) hp hm
  refine lt_int (t0 := 1387) X w5 w6 w7 (by unfold cd_edits; (repeat' split) <;> omega) hW hS hl ⟨by omega, by omega⟩ dL_law_1387 dL_law_1388 dL_law_1391 dL_law_1393 dL_law_1398 dL_law_1400 dL_law_1403 dL_law_1404 dL_law_1405 dL_law_1406 dL_law_1408 dL_law_1409 dL_law_1410 dL_law_1415 (by decide) (fun H1 locs1 hW hS => ?_)
  exact W.widen (by omega) (by omega) (kk B1 C2 S2 T2 H1 locs1 ls ⟨w1, w2, w3, w4, ⟨_, w5⟩, F2, w6⟩ hW hS (lv_sub hl [2, 3, 4, 5, 6] rfl))

set_option maxHeartbeats 4000000 in
set_option maxRecDepth 100000 in
theorem lc_editsByWays {p : Program} {l : Launch} {e : Env} {s : State} {m : MethodId} {below : List Frame} {meth : Method} {c : Code} {H : Heap} {locs : List Loc} {cells slots : Nat} {Q : State → Prop} {b L j : Nat} {xs : Nat → Int32} {Z : gZ} {B : gB} {C : gC} {S : gS} {T : gTx} {ls : Array Slot} (hfl : l.stackTraces = false) (X : gX Z p s m c code 7 #[Value.ref b] wsL_law RL) (hNc : gNc s) (hX : va_X b L xs s s.heap) (hbl : b < s.heap.size) (hzz : Z.2.2 = s.heap.size) (hI : lawI Z B C S T) (hW : gw Z B C H) (hS : va_S (gA Z) s.heap H locs) (hj : 4 * j + 4 ≤ L) (hL : L ≤ 2048) (hl : lv_has ls 7 (lLoc b B j)) (hc : cells + 16 ≤ room_1.cells) (hs : slots + 128 ≤ room_1.slots) (kk : lKont p l e s m below meth c b Q Z j cells slots) : W p l e room_1 s m #[Value.ref b] below meth c H locs cells slots Q (F0 m 1418 ls []) := by
  have hx := X.1.1
  have hb := X.1.2.1
  have hts := X.1.2.2.2.2
  obtain ⟨hwf, hwz, hcs, hcx, ⟨th, hmd⟩, FO, h95⟩ := hI
  obtain ⟨a1, ra1, ea1⟩ := zI_ex (xs (4 * j + 1))
  obtain ⟨a2, ra2, ea2⟩ := zI_ex (xs (4 * j + 2))
  obtain ⟨a3, ra3, ea3⟩ := zI_ex (xs (4 * j + 3))
  refine lv_aload_n hx hb dL_law_1418 rfl (lv_at hl 1 rfl) ?_
  refine l_arg 1 X hX hbl hzz hS hL (by omega) (lv_at hl 0 rfl) (lv_at hl 4 rfl) ea1 (k5 := 1) rfl dL_law_1419 dL_law_1420 dL_law_1422 dL_law_1423 dL_law_1424 ?_
  refine l_arg 2 X hX hbl hzz hS hL (by omega) (lv_at hl 0 rfl) (lv_at hl 4 rfl) ea2 (k5 := 2) rfl dL_law_1425 dL_law_1426 dL_law_1428 dL_law_1429 dL_law_1430 ?_
  refine l_arg 3 X hX hbl hzz hS hL (by omega) (lv_at hl 0 rfl) (lv_at hl 4 rfl) ea3 (k5 := 3) rfl dL_law_1431 dL_law_1432 dL_law_1434 dL_law_1435 dL_law_1436 ?_
  refine lv_aload_n hx hb dL_law_1437 rfl (lv_at hl 3 rfl) ?_
  refine g_ciB (g_runSW X hNc (k_L_editsByWays hfl hcs hcx hwf ra1 ra2 ra3 h95) (vx_cwSW 5 hts gL_law_L_editsByWays rfl rfl rfl ds_L_editsByWays ⟨Nat.le_of_ble_eq_true rfl, Nat.le_of_ble_eq_true rfl⟩) hW hS rfl hl.1 rfl (Nat.le_of_ble_eq_true rfl) dL_law_1438 ⟨by omega, by omega⟩) hS (fun r B1 C1 H locs hp hW hS => ?_)
  obtain ⟨rfl, -, -, ⟨F1, h951⟩, hcx1, hfo1, hB1⟩ := id hp
  rw [lLoc, ← hB1 0 0 (by omega), ← hB1 70 0 (by omega), ← hB1 95 0 (by omega)] at hl
  refine lv_istore (lv' := (5, .int (zI ((cd_edits S a1 a2 a3 : Nat) : Int))) :: lLoc b B1 j) hx hb dL_law_1441 hl (by decide) rfl (fun ls hl => ?_)
  have hmd1 : md Z B1 C1 S T th := (hmd.out (fun k' z1 z2 => hfo1 k' 0 (by omega) (by omega))).Bx (fun k' z1 z2 => hB1 k' 0 (by omega))
  obtain ⟨⟨mg, h70⟩, -⟩ := id hmd1
  refine lv_aload_n hx hb dL_law_1443 rfl (lv_at hl 3 rfl) ?_
  refine l_arg 1 X hX hbl hzz hS hL (by omega) (lv_at hl 1 rfl) (lv_at hl 5 rfl) ea1 (k5 := 1) rfl dL_law_1444 dL_law_1445 dL_law_1447 dL_law_1448 dL_law_1449 ?_
  refine l_arg 2 X hX hbl hzz hS hL (by omega) (lv_at hl 1 rfl) (lv_at hl 5 rfl) ea2 (k5 := 2) rfl dL_law_1450 dL_law_1451 dL_law_1453 dL_law_1454 dL_law_1455 ?_
  refine l_arg 3 X hX hbl hzz hS hL (by omega) (lv_at hl 1 rfl) (lv_at hl 5 rfl) ea3 (k5 := 3) rfl dL_law_1456 dL_law_1457 dL_law_1459 dL_law_1460 dL_law_1461 ?_
  refine g_ci (g_runV X (k_X8_editsByWays hmd1 hwf ra1 ra2 ra3) (cwV 3 hts gL_law_X8_editsByWays rfl rfl rfl ⟨rfl, ds_X8_editsByWays⟩ ⟨Nat.le_of_ble_eq_true rfl, Nat.le_of_ble_eq_true rfl⟩) hW hS h70 rfl rfl hl.1 rfl (Nat.le_of_ble_eq_true rfl) dL_law_1462 ⟨by omega, by omega⟩) hS (fun r2 C2 H locs hp2 hW hS => ?_)
  refine lv_istore (lv' := (6, .int r2) :: (5, .int (zI ((cd_edits S a1 a2 a3 : Nat) : Int))) :: lLoc b B1 j) hx hb dL_law_1465 hl (by decide) rfl (fun ls hl => ?_)
  have hm : mpo Z B1 C1 S T (cd_edits S a1 a2 a3) (ed (rdt T a1.toNat a2.toNat) (rdt T a1.toNat a3.toNat) : Int) S T r2 C2 := mpo.ask hp2.1 hp2.2.1 hp2.2.2
  obtain ⟨S2, T2, F2, w1, w2, w3, w4, w5, w6, w7⟩ := law_mid hwf hwz (fun _ => ⟨hwf, hwz⟩) hp hm
  refine lt_int (t0 := 1467) X w5 w6 w7 (by unfold cd_edits; (repeat' split) <;> omega) hW hS hl ⟨by omega, by omega⟩ dL_law_1467 dL_law_1468 dL_law_1471 dL_law_1473 dL_law_1478 dL_law_1480 dL_law_1483 dL_law_1484 dL_law_1485 dL_law_1486 dL_law_1488 dL_law_1489 dL_law_1490 dL_law_1495 (by decide) (fun H1 locs1 hW hS => ?_)
  exact W.widen (by omega) (by omega) (kk B1 C2 S2 T2 H1 locs1 ls ⟨w1, w2, w3, w4, ⟨_, w5⟩, F2, w6⟩ hW hS (lv_sub hl [2, 3, 4, 5, 6] rfl))

set_option maxHeartbeats 4000000 in
set_option maxRecDepth 100000 in
theorem lc_ownerOf {p : Program} {l : Launch} {e : Env} {s : State} {m : MethodId} {below : List Frame} {meth : Method} {c : Code} {H : Heap} {locs : List Loc} {cells slots : Nat} {Q : State → Prop} {b L j : Nat} {xs : Nat → Int32} {Z : gZ} {B : gB} {C : gC} {S : gS} {T : gTx} {ls : Array Slot} (hfl : l.stackTraces = false) (X : gX Z p s m c code 7 #[Value.ref b] wsL_law RL) (hNc : gNc s) (hX : va_X b L xs s s.heap) (hbl : b < s.heap.size) (hzz : Z.2.2 = s.heap.size) (hI : lawI Z B C S T) (hW : gw Z B C H) (hS : va_S (gA Z) s.heap H locs) (hj : 4 * j + 4 ≤ L) (hL : L ≤ 2048) (hl : lv_has ls 7 (lLoc b B j)) (hc : cells + 16 ≤ room_1.cells) (hs : slots + 128 ≤ room_1.slots) (kk : lKont p l e s m below meth c b Q Z j cells slots) : W p l e room_1 s m #[Value.ref b] below meth c H locs cells slots Q (F0 m 1498 ls []) := by
  have hx := X.1.1
  have hb := X.1.2.1
  have hts := X.1.2.2.2.2
  obtain ⟨hwf, hwz, hcs, hcx, ⟨th, hmd⟩, FO, h95⟩ := hI
  obtain ⟨a1, ra1, ea1⟩ := zI_ex (xs (4 * j + 1))
  refine lv_aload_n hx hb dL_law_1498 rfl (lv_at hl 1 rfl) ?_
  refine l_arg 1 X hX hbl hzz hS hL (by omega) (lv_at hl 0 rfl) (lv_at hl 4 rfl) ea1 (k5 := 1) rfl dL_law_1499 dL_law_1500 dL_law_1502 dL_law_1503 dL_law_1504 ?_
  refine lv_aload_n hx hb dL_law_1505 rfl (lv_at hl 3 rfl) ?_
  refine g_ciB (g_runSW X hNc (k_L_ownerOf hfl hcs hcx hwf ra1 h95) (vx_cwSW 3 hts gL_law_L_ownerOf rfl rfl rfl ds_L_ownerOf ⟨Nat.le_of_ble_eq_true rfl, Nat.le_of_ble_eq_true rfl⟩) hW hS rfl hl.1 rfl (Nat.le_of_ble_eq_true rfl) dL_law_1506 ⟨by omega, by omega⟩) hS (fun r B1 C1 H locs hp hW hS => ?_)
  obtain ⟨rfl, -, -, ⟨F1, h951⟩, hcx1, hfo1, hB1⟩ := id hp
  rw [lLoc, ← hB1 0 0 (by omega), ← hB1 70 0 (by omega), ← hB1 95 0 (by omega)] at hl
  refine lv_istore (lv' := (5, .int (zI ((cd_ownerOf S a1 : Nat) : Int))) :: lLoc b B1 j) hx hb dL_law_1509 hl (by decide) rfl (fun ls hl => ?_)
  have hmd1 : md Z B1 C1 S T th := (hmd.out (fun k' z1 z2 => hfo1 k' 0 (by omega) (by omega))).Bx (fun k' z1 z2 => hB1 k' 0 (by omega))
  obtain ⟨⟨mg, h70⟩, -⟩ := id hmd1
  refine lv_aload_n hx hb dL_law_1511 rfl (lv_at hl 3 rfl) ?_
  refine l_arg 1 X hX hbl hzz hS hL (by omega) (lv_at hl 1 rfl) (lv_at hl 5 rfl) ea1 (k5 := 1) rfl dL_law_1512 dL_law_1513 dL_law_1515 dL_law_1516 dL_law_1517 ?_
  refine g_ci (g_runV X (k_X8_ownerOf hmd1 hwf ra1) (cwV 1 hts gL_law_X8_ownerOf rfl rfl rfl ⟨rfl, ds_X8_ownerOf⟩ ⟨Nat.le_of_ble_eq_true rfl, Nat.le_of_ble_eq_true rfl⟩) hW hS h70 rfl rfl hl.1 rfl (Nat.le_of_ble_eq_true rfl) dL_law_1518 ⟨by omega, by omega⟩) hS (fun r2 C2 H locs hp2 hW hS => ?_)
  refine lv_istore (lv' := (6, .int r2) :: (5, .int (zI ((cd_ownerOf S a1 : Nat) : Int))) :: lLoc b B1 j) hx hb dL_law_1521 hl (by decide) rfl (fun ls hl => ?_)
  have hm : mpo Z B1 C1 S T (cd_ownerOf S a1) (ownf S a1) S T r2 C2 := mpo.ask hp2.1 hp2.2.1 hp2.2.2
  obtain ⟨S2, T2, F2, w1, w2, w3, w4, w5, w6, w7⟩ := law_mid hwf hwz (fun _ => ⟨hwf, hwz⟩) hp hm
  refine lt_int (t0 := 1523) X w5 w6 w7 (by unfold cd_ownerOf; (repeat' split) <;> omega) hW hS hl ⟨by omega, by omega⟩ dL_law_1523 dL_law_1524 dL_law_1527 dL_law_1529 dL_law_1534 dL_law_1536 dL_law_1539 dL_law_1540 dL_law_1541 dL_law_1542 dL_law_1544 dL_law_1545 dL_law_1546 dL_law_1551 (by decide) (fun H1 locs1 hW hS => ?_)
  exact W.widen (by omega) (by omega) (kk B1 C2 S2 T2 H1 locs1 ls ⟨w1, w2, w3, w4, ⟨_, w5⟩, F2, w6⟩ hW hS (lv_sub hl [2, 3, 4, 5, 6] rfl))

set_option maxHeartbeats 4000000 in
set_option maxRecDepth 100000 in
theorem lc_needs {p : Program} {l : Launch} {e : Env} {s : State} {m : MethodId} {below : List Frame} {meth : Method} {c : Code} {H : Heap} {locs : List Loc} {cells slots : Nat} {Q : State → Prop} {b L j : Nat} {xs : Nat → Int32} {Z : gZ} {B : gB} {C : gC} {S : gS} {T : gTx} {ls : Array Slot} (hfl : l.stackTraces = false) (X : gX Z p s m c code 7 #[Value.ref b] wsL_law RL) (hNc : gNc s) (hX : va_X b L xs s s.heap) (hbl : b < s.heap.size) (hzz : Z.2.2 = s.heap.size) (hI : lawI Z B C S T) (hW : gw Z B C H) (hS : va_S (gA Z) s.heap H locs) (hj : 4 * j + 4 ≤ L) (hL : L ≤ 2048) (hl : lv_has ls 7 (lLoc b B j)) (hc : cells + 16 ≤ room_1.cells) (hs : slots + 128 ≤ room_1.slots) (kk : lKont p l e s m below meth c b Q Z j cells slots) : W p l e room_1 s m #[Value.ref b] below meth c H locs cells slots Q (F0 m 1554 ls []) := by
  have hx := X.1.1
  have hb := X.1.2.1
  have hts := X.1.2.2.2.2
  obtain ⟨hwf, hwz, hcs, hcx, ⟨th, hmd⟩, FO, h95⟩ := hI
  obtain ⟨a1, ra1, ea1⟩ := zI_ex (xs (4 * j + 1))
  obtain ⟨a2, ra2, ea2⟩ := zI_ex (xs (4 * j + 2))
  refine lv_aload_n hx hb dL_law_1554 rfl (lv_at hl 1 rfl) ?_
  refine l_arg 1 X hX hbl hzz hS hL (by omega) (lv_at hl 0 rfl) (lv_at hl 4 rfl) ea1 (k5 := 1) rfl dL_law_1555 dL_law_1556 dL_law_1558 dL_law_1559 dL_law_1560 ?_
  refine l_arg 2 X hX hbl hzz hS hL (by omega) (lv_at hl 0 rfl) (lv_at hl 4 rfl) ea2 (k5 := 2) rfl dL_law_1561 dL_law_1562 dL_law_1564 dL_law_1565 dL_law_1566 ?_
  refine lv_aload_n hx hb dL_law_1567 rfl (lv_at hl 3 rfl) ?_
  refine g_ciB (g_runSW X hNc (k_L_needs hfl hcs hcx hwf ra1 ra2 h95) (vx_cwSW 4 hts gL_law_L_needs rfl rfl rfl ds_L_needs ⟨Nat.le_of_ble_eq_true rfl, Nat.le_of_ble_eq_true rfl⟩) hW hS rfl hl.1 rfl (Nat.le_of_ble_eq_true rfl) dL_law_1568 ⟨by omega, by omega⟩) hS (fun r B1 C1 H locs hp hW hS => ?_)
  obtain ⟨rfl, -, -, ⟨F1, h951⟩, hcx1, hfo1, hB1⟩ := id hp
  rw [lLoc, ← hB1 0 0 (by omega), ← hB1 70 0 (by omega), ← hB1 95 0 (by omega)] at hl
  refine lv_istore (lv' := (5, .int (zI ((cd_CU S a1 a2 : Nat) : Int))) :: lLoc b B1 j) hx hb dL_law_1571 hl (by decide) rfl (fun ls hl => ?_)
  have hmd1 : md Z B1 C1 S T th := (hmd.out (fun k' z1 z2 => hfo1 k' 0 (by omega) (by omega))).Bx (fun k' z1 z2 => hB1 k' 0 (by omega))
  obtain ⟨⟨mg, h70⟩, -⟩ := id hmd1
  refine lv_aload_n hx hb dL_law_1573 rfl (lv_at hl 3 rfl) ?_
  refine l_arg 1 X hX hbl hzz hS hL (by omega) (lv_at hl 1 rfl) (lv_at hl 5 rfl) ea1 (k5 := 1) rfl dL_law_1574 dL_law_1575 dL_law_1577 dL_law_1578 dL_law_1579 ?_
  refine l_arg 2 X hX hbl hzz hS hL (by omega) (lv_at hl 1 rfl) (lv_at hl 5 rfl) ea2 (k5 := 2) rfl dL_law_1580 dL_law_1581 dL_law_1583 dL_law_1584 dL_law_1585 ?_
  refine g_ci (g_runV X (k_X8_needs hmd1 hwf ra1 ra2) (cwV 2 hts gL_law_X8_needs rfl rfl rfl ⟨rfl, ds_X8_needs⟩ ⟨Nat.le_of_ble_eq_true rfl, Nat.le_of_ble_eq_true rfl⟩) hW hS h70 rfl rfl hl.1 rfl (Nat.le_of_ble_eq_true rfl) dL_law_1586 ⟨by omega, by omega⟩) hS (fun r2 C2 H locs hp2 hW hS => ?_)
  refine lv_istore (lv' := (6, .int r2) :: (5, .int (zI ((cd_CU S a1 a2 : Nat) : Int))) :: lLoc b B1 j) hx hb dL_law_1589 hl (by decide) rfl (fun ls hl => ?_)
  have hm : mpo Z B1 C1 S T (cd_CU S a1 a2) (if (nee S T a1.toNat).testBit a2.toNat = true then 1 else 0) S T r2 C2 := mpo.ask hp2.1 hp2.2.1 hp2.2.2.1
  obtain ⟨S2, T2, F2, w1, w2, w3, w4, w5, w6, w7⟩ := law_mid hwf hwz (fun _ => ⟨hwf, hwz⟩) hp hm
  refine lt_bool (t0 := 1591) X w5 w6 w7 hp2.2.2.2 (by unfold cd_CU; (repeat' split) <;> omega) hW hS hl ⟨by omega, by omega⟩ dL_law_1591 dL_law_1592 dL_law_1595 dL_law_1597 dL_law_1602 dL_law_1604 dL_law_1607 dL_law_1608 dL_law_1609 dL_law_1610 dL_law_1612 dL_law_1615 dL_law_1616 dL_law_1619 dL_law_1620 dL_law_1621 dL_law_1626 (by decide) (fun H1 locs1 hW hS => ?_)
  exact W.widen (by omega) (by omega) (kk B1 C2 S2 T2 H1 locs1 ls ⟨w1, w2, w3, w4, ⟨_, w5⟩, F2, w6⟩ hW hS (lv_sub hl [2, 3, 4, 5, 6] rfl))

set_option maxHeartbeats 4000000 in
set_option maxRecDepth 100000 in
theorem lc_placeIn {p : Program} {l : Launch} {e : Env} {s : State} {m : MethodId} {below : List Frame} {meth : Method} {c : Code} {H : Heap} {locs : List Loc} {cells slots : Nat} {Q : State → Prop} {b L j : Nat} {xs : Nat → Int32} {Z : gZ} {B : gB} {C : gC} {S : gS} {T : gTx} {ls : Array Slot} (hfl : l.stackTraces = false) (X : gX Z p s m c code 7 #[Value.ref b] wsL_law RL) (hNc : gNc s) (hX : va_X b L xs s s.heap) (hbl : b < s.heap.size) (hzz : Z.2.2 = s.heap.size) (hI : lawI Z B C S T) (hW : gw Z B C H) (hS : va_S (gA Z) s.heap H locs) (hj : 4 * j + 4 ≤ L) (hL : L ≤ 2048) (hl : lv_has ls 7 (lLoc b B j)) (hc : cells + 16 ≤ room_1.cells) (hs : slots + 128 ≤ room_1.slots) (kk : lKont p l e s m below meth c b Q Z j cells slots) : W p l e room_1 s m #[Value.ref b] below meth c H locs cells slots Q (F0 m 1629 ls []) := by
  have hx := X.1.1
  have hb := X.1.2.1
  have hts := X.1.2.2.2.2
  obtain ⟨hwf, hwz, hcs, hcx, ⟨th, hmd⟩, FO, h95⟩ := hI
  obtain ⟨a1, ra1, ea1⟩ := zI_ex (xs (4 * j + 1))
  obtain ⟨a2, ra2, ea2⟩ := zI_ex (xs (4 * j + 2))
  refine lv_aload_n hx hb dL_law_1629 rfl (lv_at hl 1 rfl) ?_
  refine l_arg 1 X hX hbl hzz hS hL (by omega) (lv_at hl 0 rfl) (lv_at hl 4 rfl) ea1 (k5 := 1) rfl dL_law_1630 dL_law_1631 dL_law_1633 dL_law_1634 dL_law_1635 ?_
  refine l_arg 2 X hX hbl hzz hS hL (by omega) (lv_at hl 0 rfl) (lv_at hl 4 rfl) ea2 (k5 := 2) rfl dL_law_1636 dL_law_1637 dL_law_1639 dL_law_1640 dL_law_1641 ?_
  refine lv_aload_n hx hb dL_law_1642 rfl (lv_at hl 3 rfl) ?_
  refine g_ciB (g_runSW X hNc (k_L_placeIn hfl hcs hcx hwf ra1 ra2 h95) (vx_cwSW 4 hts gL_law_L_placeIn rfl rfl rfl ds_L_placeIn ⟨Nat.le_of_ble_eq_true rfl, Nat.le_of_ble_eq_true rfl⟩) hW hS rfl hl.1 rfl (Nat.le_of_ble_eq_true rfl) dL_law_1643 ⟨by omega, by omega⟩) hS (fun r B1 C1 H locs hp hW hS => ?_)
  obtain ⟨rfl, -, -, ⟨F1, h951⟩, hcx1, hfo1, hB1⟩ := id hp
  rw [lLoc, ← hB1 0 0 (by omega), ← hB1 70 0 (by omega), ← hB1 95 0 (by omega)] at hl
  refine lv_istore (lv' := (5, .int (zI ((cd_placeIn S T a1 a2 : Nat) : Int))) :: lLoc b B1 j) hx hb dL_law_1646 hl (by decide) rfl (fun ls hl => ?_)
  have hmd1 : md Z B1 C1 S T th := (hmd.out (fun k' z1 z2 => hfo1 k' 0 (by omega) (by omega))).Bx (fun k' z1 z2 => hB1 k' 0 (by omega))
  obtain ⟨⟨mg, h70⟩, -⟩ := id hmd1
  refine lv_aload_n hx hb dL_law_1648 rfl (lv_at hl 3 rfl) ?_
  refine l_arg 1 X hX hbl hzz hS hL (by omega) (lv_at hl 1 rfl) (lv_at hl 5 rfl) ea1 (k5 := 1) rfl dL_law_1649 dL_law_1650 dL_law_1652 dL_law_1653 dL_law_1654 ?_
  refine l_arg 2 X hX hbl hzz hS hL (by omega) (lv_at hl 1 rfl) (lv_at hl 5 rfl) ea2 (k5 := 2) rfl dL_law_1655 dL_law_1656 dL_law_1658 dL_law_1659 dL_law_1660 ?_
  refine g_ci (g_runV X (k_X8_placeIn hmd1 hwf ra1 ra2) (cwV 2 hts gL_law_X8_placeIn rfl rfl rfl ⟨rfl, ds_X8_placeIn⟩ ⟨Nat.le_of_ble_eq_true rfl, Nat.le_of_ble_eq_true rfl⟩) hW hS h70 rfl rfl hl.1 rfl (Nat.le_of_ble_eq_true rfl) dL_law_1661 ⟨by omega, by omega⟩) hS (fun r2 C2 H locs hp2 hW hS => ?_)
  refine lv_istore (lv' := (6, .int r2) :: (5, .int (zI ((cd_placeIn S T a1 a2 : Nat) : Int))) :: lLoc b B1 j) hx hb dL_law_1664 hl (by decide) rfl (fun ls hl => ?_)
  have hm : mpo Z B1 C1 S T (cd_placeIn S T a1 a2) (enc (plq S T a1.toNat a2.toNat)) S T r2 C2 := mpo.ask hp2.1 hp2.2.1 hp2.2.2
  obtain ⟨S2, T2, F2, w1, w2, w3, w4, w5, w6, w7⟩ := law_mid hwf hwz (fun _ => ⟨hwf, hwz⟩) hp hm
  refine lt_int (t0 := 1666) X w5 w6 w7 (by unfold cd_placeIn; (repeat' split) <;> omega) hW hS hl ⟨by omega, by omega⟩ dL_law_1666 dL_law_1667 dL_law_1670 dL_law_1672 dL_law_1677 dL_law_1679 dL_law_1682 dL_law_1683 dL_law_1684 dL_law_1685 dL_law_1687 dL_law_1688 dL_law_1689 dL_law_1694 (by decide) (fun H1 locs1 hW hS => ?_)
  exact W.widen (by omega) (by omega) (kk B1 C2 S2 T2 H1 locs1 ls ⟨w1, w2, w3, w4, ⟨_, w5⟩, F2, w6⟩ hW hS (lv_sub hl [2, 3, 4, 5, 6] rfl))

set_option maxHeartbeats 4000000 in
set_option maxRecDepth 100000 in
theorem lc_placeByComparing {p : Program} {l : Launch} {e : Env} {s : State} {m : MethodId} {below : List Frame} {meth : Method} {c : Code} {H : Heap} {locs : List Loc} {cells slots : Nat} {Q : State → Prop} {b L j : Nat} {xs : Nat → Int32} {Z : gZ} {B : gB} {C : gC} {S : gS} {T : gTx} {ls : Array Slot} (hfl : l.stackTraces = false) (X : gX Z p s m c code 7 #[Value.ref b] wsL_law RL) (hNc : gNc s) (hX : va_X b L xs s s.heap) (hbl : b < s.heap.size) (hzz : Z.2.2 = s.heap.size) (hI : lawI Z B C S T) (hW : gw Z B C H) (hS : va_S (gA Z) s.heap H locs) (hj : 4 * j + 4 ≤ L) (hL : L ≤ 2048) (hl : lv_has ls 7 (lLoc b B j)) (hc : cells + 16 ≤ room_1.cells) (hs : slots + 128 ≤ room_1.slots) (kk : lKont p l e s m below meth c b Q Z j cells slots) : W p l e room_1 s m #[Value.ref b] below meth c H locs cells slots Q (F0 m 1697 ls []) := by
  have hx := X.1.1
  have hb := X.1.2.1
  have hts := X.1.2.2.2.2
  obtain ⟨hwf, hwz, hcs, hcx, ⟨th, hmd⟩, FO, h95⟩ := hI
  obtain ⟨a1, ra1, ea1⟩ := zI_ex (xs (4 * j + 1))
  obtain ⟨a2, ra2, ea2⟩ := zI_ex (xs (4 * j + 2))
  refine lv_aload_n hx hb dL_law_1697 rfl (lv_at hl 1 rfl) ?_
  refine l_arg 1 X hX hbl hzz hS hL (by omega) (lv_at hl 0 rfl) (lv_at hl 4 rfl) ea1 (k5 := 1) rfl dL_law_1698 dL_law_1699 dL_law_1701 dL_law_1702 dL_law_1703 ?_
  refine l_arg 2 X hX hbl hzz hS hL (by omega) (lv_at hl 0 rfl) (lv_at hl 4 rfl) ea2 (k5 := 2) rfl dL_law_1704 dL_law_1705 dL_law_1707 dL_law_1708 dL_law_1709 ?_
  refine lv_aload_n hx hb dL_law_1710 rfl (lv_at hl 3 rfl) ?_
  refine g_ciB (g_runSW X hNc (k_L_placeByComparing hfl hcs hcx hwf ra1 ra2 h95) (vx_cwSW 4 hts gL_law_L_placeByComparing rfl rfl rfl ds_L_placeByComparing ⟨Nat.le_of_ble_eq_true rfl, Nat.le_of_ble_eq_true rfl⟩) hW hS rfl hl.1 rfl (Nat.le_of_ble_eq_true rfl) dL_law_1711 ⟨by omega, by omega⟩) hS (fun r B1 C1 H locs hp hW hS => ?_)
  obtain ⟨rfl, -, -, ⟨F1, h951⟩, hcx1, hfo1, hB1⟩ := id hp
  rw [lLoc, ← hB1 0 0 (by omega), ← hB1 70 0 (by omega), ← hB1 95 0 (by omega)] at hl
  refine lv_istore (lv' := (5, .int (zI ((cd_placeIn S T a1 a2 : Nat) : Int))) :: lLoc b B1 j) hx hb dL_law_1714 hl (by decide) rfl (fun ls hl => ?_)
  have hmd1 : md Z B1 C1 S T th := (hmd.out (fun k' z1 z2 => hfo1 k' 0 (by omega) (by omega))).Bx (fun k' z1 z2 => hB1 k' 0 (by omega))
  obtain ⟨⟨mg, h70⟩, -⟩ := id hmd1
  refine lv_aload_n hx hb dL_law_1716 rfl (lv_at hl 3 rfl) ?_
  refine l_arg 1 X hX hbl hzz hS hL (by omega) (lv_at hl 1 rfl) (lv_at hl 5 rfl) ea1 (k5 := 1) rfl dL_law_1717 dL_law_1718 dL_law_1720 dL_law_1721 dL_law_1722 ?_
  refine l_arg 2 X hX hbl hzz hS hL (by omega) (lv_at hl 1 rfl) (lv_at hl 5 rfl) ea2 (k5 := 2) rfl dL_law_1723 dL_law_1724 dL_law_1726 dL_law_1727 dL_law_1728 ?_
  refine g_ci (g_runV X (k_X8_placeByComparing hmd1 hwf ra1 ra2) (cwV 2 hts gL_law_X8_placeByComparing rfl rfl rfl ⟨rfl, ds_X8_placeByComparing⟩ ⟨Nat.le_of_ble_eq_true rfl, Nat.le_of_ble_eq_true rfl⟩) hW hS h70 rfl rfl hl.1 rfl (Nat.le_of_ble_eq_true rfl) dL_law_1729 ⟨by omega, by omega⟩) hS (fun r2 C2 H locs hp2 hW hS => ?_)
  refine lv_istore (lv' := (6, .int r2) :: (5, .int (zI ((cd_placeIn S T a1 a2 : Nat) : Int))) :: lLoc b B1 j) hx hb dL_law_1732 hl (by decide) rfl (fun ls hl => ?_)
  have hm : mpo Z B1 C1 S T (cd_placeIn S T a1 a2) (enc (plq S T a1.toNat a2.toNat)) S T r2 C2 := mpo.ask hp2.1 hp2.2.1 hp2.2.2
  obtain ⟨S2, T2, F2, w1, w2, w3, w4, w5, w6, w7⟩ := law_mid hwf hwz (fun _ => ⟨hwf, hwz⟩) hp hm
  refine lt_int (t0 := 1734) X w5 w6 w7 (by unfold cd_placeIn; (repeat' split) <;> omega) hW hS hl ⟨by omega, by omega⟩ dL_law_1734 dL_law_1735 dL_law_1738 dL_law_1740 dL_law_1745 dL_law_1747 dL_law_1750 dL_law_1751 dL_law_1752 dL_law_1753 dL_law_1755 dL_law_1756 dL_law_1757 dL_law_1762 (by decide) (fun H1 locs1 hW hS => ?_)
  exact W.widen (by omega) (by omega) (kk B1 C2 S2 T2 H1 locs1 ls ⟨w1, w2, w3, w4, ⟨_, w5⟩, F2, w6⟩ hW hS (lv_sub hl [2, 3, 4, 5, 6] rfl))

set_option maxHeartbeats 4000000 in
set_option maxRecDepth 100000 in
theorem lc_isOpen {p : Program} {l : Launch} {e : Env} {s : State} {m : MethodId} {below : List Frame} {meth : Method} {c : Code} {H : Heap} {locs : List Loc} {cells slots : Nat} {Q : State → Prop} {b L j : Nat} {xs : Nat → Int32} {Z : gZ} {B : gB} {C : gC} {S : gS} {T : gTx} {ls : Array Slot} (hfl : l.stackTraces = false) (X : gX Z p s m c code 7 #[Value.ref b] wsL_law RL) (hNc : gNc s) (hX : va_X b L xs s s.heap) (hbl : b < s.heap.size) (hzz : Z.2.2 = s.heap.size) (hI : lawI Z B C S T) (hW : gw Z B C H) (hS : va_S (gA Z) s.heap H locs) (hj : 4 * j + 4 ≤ L) (hL : L ≤ 2048) (hl : lv_has ls 7 (lLoc b B j)) (hc : cells + 16 ≤ room_1.cells) (hs : slots + 128 ≤ room_1.slots) (kk : lKont p l e s m below meth c b Q Z j cells slots) : W p l e room_1 s m #[Value.ref b] below meth c H locs cells slots Q (F0 m 1765 ls []) := by
  have hx := X.1.1
  have hb := X.1.2.1
  have hts := X.1.2.2.2.2
  obtain ⟨hwf, hwz, hcs, hcx, ⟨th, hmd⟩, FO, h95⟩ := hI
  obtain ⟨a1, ra1, ea1⟩ := zI_ex (xs (4 * j + 1))
  refine lv_aload_n hx hb dL_law_1765 rfl (lv_at hl 1 rfl) ?_
  refine l_arg 1 X hX hbl hzz hS hL (by omega) (lv_at hl 0 rfl) (lv_at hl 4 rfl) ea1 (k5 := 1) rfl dL_law_1766 dL_law_1767 dL_law_1769 dL_law_1770 dL_law_1771 ?_
  refine lv_aload_n hx hb dL_law_1772 rfl (lv_at hl 3 rfl) ?_
  refine g_ciB (g_runSW X hNc (k_L_isOpen hfl hcs hcx hwf ra1 h95) (vx_cwSW 3 hts gL_law_L_isOpen rfl rfl rfl ds_L_isOpen ⟨Nat.le_of_ble_eq_true rfl, Nat.le_of_ble_eq_true rfl⟩) hW hS rfl hl.1 rfl (Nat.le_of_ble_eq_true rfl) dL_law_1773 ⟨by omega, by omega⟩) hS (fun r B1 C1 H locs hp hW hS => ?_)
  obtain ⟨rfl, -, -, ⟨F1, h951⟩, hcx1, hfo1, hB1⟩ := id hp
  rw [lLoc, ← hB1 0 0 (by omega), ← hB1 70 0 (by omega), ← hB1 95 0 (by omega)] at hl
  refine lv_istore (lv' := (5, .int (zI ((cd_R S a1 : Nat) : Int))) :: lLoc b B1 j) hx hb dL_law_1776 hl (by decide) rfl (fun ls hl => ?_)
  have hmd1 : md Z B1 C1 S T th := (hmd.out (fun k' z1 z2 => hfo1 k' 0 (by omega) (by omega))).Bx (fun k' z1 z2 => hB1 k' 0 (by omega))
  obtain ⟨⟨mg, h70⟩, -⟩ := id hmd1
  refine lv_aload_n hx hb dL_law_1778 rfl (lv_at hl 3 rfl) ?_
  refine l_arg 1 X hX hbl hzz hS hL (by omega) (lv_at hl 1 rfl) (lv_at hl 5 rfl) ea1 (k5 := 1) rfl dL_law_1779 dL_law_1780 dL_law_1782 dL_law_1783 dL_law_1784 ?_
  refine g_ci (g_runV X (k_X8_isOpen hmd1 hwf ra1) (cwV 1 hts gL_law_X8_isOpen rfl rfl rfl ⟨rfl, ds_X8_isOpen⟩ ⟨Nat.le_of_ble_eq_true rfl, Nat.le_of_ble_eq_true rfl⟩) hW hS h70 rfl rfl hl.1 rfl (Nat.le_of_ble_eq_true rfl) dL_law_1785 ⟨by omega, by omega⟩) hS (fun r2 C2 H locs hp2 hW hS => ?_)
  refine lv_istore (lv' := (6, .int r2) :: (5, .int (zI ((cd_R S a1 : Nat) : Int))) :: lLoc b B1 j) hx hb dL_law_1788 hl (by decide) rfl (fun ls hl => ?_)
  have hm : mpo Z B1 C1 S T (cd_R S a1) (if S 14 a1.toNat = 0 then 1 else 0) S T r2 C2 := mpo.ask hp2.1 hp2.2.1 hp2.2.2.1
  obtain ⟨S2, T2, F2, w1, w2, w3, w4, w5, w6, w7⟩ := law_mid hwf hwz (fun _ => ⟨hwf, hwz⟩) hp hm
  refine lt_bool (t0 := 1790) X w5 w6 w7 hp2.2.2.2 (by unfold cd_R; (repeat' split) <;> omega) hW hS hl ⟨by omega, by omega⟩ dL_law_1790 dL_law_1791 dL_law_1794 dL_law_1796 dL_law_1801 dL_law_1803 dL_law_1806 dL_law_1807 dL_law_1808 dL_law_1809 dL_law_1811 dL_law_1814 dL_law_1815 dL_law_1818 dL_law_1819 dL_law_1820 dL_law_1825 (by decide) (fun H1 locs1 hW hS => ?_)
  exact W.widen (by omega) (by omega) (kk B1 C2 S2 T2 H1 locs1 ls ⟨w1, w2, w3, w4, ⟨_, w5⟩, F2, w6⟩ hW hS (lv_sub hl [2, 3, 4, 5, 6] rfl))

set_option maxHeartbeats 4000000 in
set_option maxRecDepth 100000 in
theorem lc_openComments {p : Program} {l : Launch} {e : Env} {s : State} {m : MethodId} {below : List Frame} {meth : Method} {c : Code} {H : Heap} {locs : List Loc} {cells slots : Nat} {Q : State → Prop} {b L j : Nat} {xs : Nat → Int32} {Z : gZ} {B : gB} {C : gC} {S : gS} {T : gTx} {ls : Array Slot} (hfl : l.stackTraces = false) (X : gX Z p s m c code 7 #[Value.ref b] wsL_law RL) (hNc : gNc s) (hX : va_X b L xs s s.heap) (hbl : b < s.heap.size) (hzz : Z.2.2 = s.heap.size) (hI : lawI Z B C S T) (hW : gw Z B C H) (hS : va_S (gA Z) s.heap H locs) (hj : 4 * j + 4 ≤ L) (hL : L ≤ 2048) (hl : lv_has ls 7 (lLoc b B j)) (hc : cells + 16 ≤ room_1.cells) (hs : slots + 128 ≤ room_1.slots) (kk : lKont p l e s m below meth c b Q Z j cells slots) : W p l e room_1 s m #[Value.ref b] below meth c H locs cells slots Q (F0 m 1828 ls []) := by
  have hx := X.1.1
  have hb := X.1.2.1
  have hts := X.1.2.2.2.2
  obtain ⟨hwf, hwz, hcs, hcx, ⟨th, hmd⟩, FO, h95⟩ := hI
  obtain ⟨a1, ra1, ea1⟩ := zI_ex (xs (4 * j + 1))
  refine lv_aload_n hx hb dL_law_1828 rfl (lv_at hl 1 rfl) ?_
  refine l_arg 1 X hX hbl hzz hS hL (by omega) (lv_at hl 0 rfl) (lv_at hl 4 rfl) ea1 (k5 := 1) rfl dL_law_1829 dL_law_1830 dL_law_1832 dL_law_1833 dL_law_1834 ?_
  refine lv_aload_n hx hb dL_law_1835 rfl (lv_at hl 3 rfl) ?_
  refine g_ciB (g_runSW X hNc (k_L_openComments hfl hcs hcx hwf ra1 h95) (vx_cwSW 3 hts gL_law_L_openComments rfl rfl rfl ds_L_openComments ⟨Nat.le_of_ble_eq_true rfl, Nat.le_of_ble_eq_true rfl⟩) hW hS rfl hl.1 rfl (Nat.le_of_ble_eq_true rfl) dL_law_1836 ⟨by omega, by omega⟩) hS (fun r B1 C1 H locs hp hW hS => ?_)
  obtain ⟨rfl, -, -, ⟨F1, h951⟩, hcx1, hfo1, hB1⟩ := id hp
  rw [lLoc, ← hB1 0 0 (by omega), ← hB1 70 0 (by omega), ← hB1 95 0 (by omega)] at hl
  refine lv_istore (lv' := (5, .int (zI ((cd_C S a1 : Nat) : Int))) :: lLoc b B1 j) hx hb dL_law_1839 hl (by decide) rfl (fun ls hl => ?_)
  have hmd1 : md Z B1 C1 S T th := (hmd.out (fun k' z1 z2 => hfo1 k' 0 (by omega) (by omega))).Bx (fun k' z1 z2 => hB1 k' 0 (by omega))
  obtain ⟨⟨mg, h70⟩, -⟩ := id hmd1
  refine lv_aload_n hx hb dL_law_1841 rfl (lv_at hl 3 rfl) ?_
  refine l_arg 1 X hX hbl hzz hS hL (by omega) (lv_at hl 1 rfl) (lv_at hl 5 rfl) ea1 (k5 := 1) rfl dL_law_1842 dL_law_1843 dL_law_1845 dL_law_1846 dL_law_1847 ?_
  refine g_ci (g_runV X (k_X8_openComments hmd1 hwf ra1) (cwV 1 hts gL_law_X8_openComments rfl rfl rfl ⟨rfl, ds_X8_openComments⟩ ⟨Nat.le_of_ble_eq_true rfl, Nat.le_of_ble_eq_true rfl⟩) hW hS h70 rfl rfl hl.1 rfl (Nat.le_of_ble_eq_true rfl) dL_law_1848 ⟨by omega, by omega⟩) hS (fun r2 C2 H locs hp2 hW hS => ?_)
  refine lv_istore (lv' := (6, .int r2) :: (5, .int (zI ((cd_C S a1 : Nat) : Int))) :: lLoc b B1 j) hx hb dL_law_1851 hl (by decide) rfl (fun ls hl => ?_)
  have hm : mpo Z B1 C1 S T (cd_C S a1) (opn S a1.toNat : Int) S T r2 C2 := mpo.ask hp2.1 hp2.2.1 hp2.2.2
  obtain ⟨S2, T2, F2, w1, w2, w3, w4, w5, w6, w7⟩ := law_mid hwf hwz (fun _ => ⟨hwf, hwz⟩) hp hm
  refine lt_int (t0 := 1853) X w5 w6 w7 (by unfold cd_C; (repeat' split) <;> omega) hW hS hl ⟨by omega, by omega⟩ dL_law_1853 dL_law_1854 dL_law_1857 dL_law_1859 dL_law_1864 dL_law_1866 dL_law_1869 dL_law_1870 dL_law_1871 dL_law_1872 dL_law_1874 dL_law_1875 dL_law_1876 dL_law_1881 (by decide) (fun H1 locs1 hW hS => ?_)
  exact W.widen (by omega) (by omega) (kk B1 C2 S2 T2 H1 locs1 ls ⟨w1, w2, w3, w4, ⟨_, w5⟩, F2, w6⟩ hW hS (lv_sub hl [2, 3, 4, 5, 6] rfl))

set_option maxHeartbeats 4000000 in
set_option maxRecDepth 100000 in
theorem lc_hasApproved {p : Program} {l : Launch} {e : Env} {s : State} {m : MethodId} {below : List Frame} {meth : Method} {c : Code} {H : Heap} {locs : List Loc} {cells slots : Nat} {Q : State → Prop} {b L j : Nat} {xs : Nat → Int32} {Z : gZ} {B : gB} {C : gC} {S : gS} {T : gTx} {ls : Array Slot} (hfl : l.stackTraces = false) (X : gX Z p s m c code 7 #[Value.ref b] wsL_law RL) (hNc : gNc s) (hX : va_X b L xs s s.heap) (hbl : b < s.heap.size) (hzz : Z.2.2 = s.heap.size) (hI : lawI Z B C S T) (hW : gw Z B C H) (hS : va_S (gA Z) s.heap H locs) (hj : 4 * j + 4 ≤ L) (hL : L ≤ 2048) (hl : lv_has ls 7 (lLoc b B j)) (hc : cells + 16 ≤ room_1.cells) (hs : slots + 128 ≤ room_1.slots) (kk : lKont p l e s m below meth c b Q Z j cells slots) : W p l e room_1 s m #[Value.ref b] below meth c H locs cells slots Q (F0 m 1884 ls []) := by
  have hx := X.1.1
  have hb := X.1.2.1
  have hts := X.1.2.2.2.2
  obtain ⟨hwf, hwz, hcs, hcx, ⟨th, hmd⟩, FO, h95⟩ := hI
  obtain ⟨a1, ra1, ea1⟩ := zI_ex (xs (4 * j + 1))
  obtain ⟨a2, ra2, ea2⟩ := zI_ex (xs (4 * j + 2))
  refine lv_aload_n hx hb dL_law_1884 rfl (lv_at hl 1 rfl) ?_
  refine l_arg 1 X hX hbl hzz hS hL (by omega) (lv_at hl 0 rfl) (lv_at hl 4 rfl) ea1 (k5 := 1) rfl dL_law_1885 dL_law_1886 dL_law_1888 dL_law_1889 dL_law_1890 ?_
  refine l_arg 2 X hX hbl hzz hS hL (by omega) (lv_at hl 0 rfl) (lv_at hl 4 rfl) ea2 (k5 := 2) rfl dL_law_1891 dL_law_1892 dL_law_1894 dL_law_1895 dL_law_1896 ?_
  refine lv_aload_n hx hb dL_law_1897 rfl (lv_at hl 3 rfl) ?_
  refine g_ciB (g_runSW X hNc (k_L_hasApproved hfl hcs hcx hwf ra1 ra2 h95) (vx_cwSW 4 hts gL_law_L_hasApproved rfl rfl rfl ds_L_hasApproved ⟨Nat.le_of_ble_eq_true rfl, Nat.le_of_ble_eq_true rfl⟩) hW hS rfl hl.1 rfl (Nat.le_of_ble_eq_true rfl) dL_law_1898 ⟨by omega, by omega⟩) hS (fun r B1 C1 H locs hp hW hS => ?_)
  obtain ⟨rfl, -, -, ⟨F1, h951⟩, hcx1, hfo1, hB1⟩ := id hp
  rw [lLoc, ← hB1 0 0 (by omega), ← hB1 70 0 (by omega), ← hB1 95 0 (by omega)] at hl
  refine lv_istore (lv' := (5, .int (zI ((cd_CU S a1 a2 : Nat) : Int))) :: lLoc b B1 j) hx hb dL_law_1901 hl (by decide) rfl (fun ls hl => ?_)
  have hmd1 : md Z B1 C1 S T th := (hmd.out (fun k' z1 z2 => hfo1 k' 0 (by omega) (by omega))).Bx (fun k' z1 z2 => hB1 k' 0 (by omega))
  obtain ⟨⟨mg, h70⟩, -⟩ := id hmd1
  refine lv_aload_n hx hb dL_law_1903 rfl (lv_at hl 3 rfl) ?_
  refine l_arg 1 X hX hbl hzz hS hL (by omega) (lv_at hl 1 rfl) (lv_at hl 5 rfl) ea1 (k5 := 1) rfl dL_law_1904 dL_law_1905 dL_law_1907 dL_law_1908 dL_law_1909 ?_
  refine l_arg 2 X hX hbl hzz hS hL (by omega) (lv_at hl 1 rfl) (lv_at hl 5 rfl) ea2 (k5 := 2) rfl dL_law_1910 dL_law_1911 dL_law_1913 dL_law_1914 dL_law_1915 ?_
  refine g_ci (g_runV X (k_X8_hasApproved hmd1 hwf ra1 ra2) (cwV 2 hts gL_law_X8_hasApproved rfl rfl rfl ⟨rfl, ds_X8_hasApproved⟩ ⟨Nat.le_of_ble_eq_true rfl, Nat.le_of_ble_eq_true rfl⟩) hW hS h70 rfl rfl hl.1 rfl (Nat.le_of_ble_eq_true rfl) dL_law_1916 ⟨by omega, by omega⟩) hS (fun r2 C2 H locs hp2 hW hS => ?_)
  refine lv_istore (lv' := (6, .int r2) :: (5, .int (zI ((cd_CU S a1 a2 : Nat) : Int))) :: lLoc b B1 j) hx hb dL_law_1919 hl (by decide) rfl (fun ls hl => ?_)
  have hm : mpo Z B1 C1 S T (cd_CU S a1 a2) (if 1 ≤ S 7 (5 * a1.toNat + a2.toNat) then 1 else 0) S T r2 C2 := mpo.ask hp2.1 hp2.2.1 hp2.2.2.1
  obtain ⟨S2, T2, F2, w1, w2, w3, w4, w5, w6, w7⟩ := law_mid hwf hwz (fun _ => ⟨hwf, hwz⟩) hp hm
  refine lt_bool (t0 := 1921) X w5 w6 w7 hp2.2.2.2 (by unfold cd_CU; (repeat' split) <;> omega) hW hS hl ⟨by omega, by omega⟩ dL_law_1921 dL_law_1922 dL_law_1925 dL_law_1927 dL_law_1932 dL_law_1934 dL_law_1937 dL_law_1938 dL_law_1939 dL_law_1940 dL_law_1942 dL_law_1945 dL_law_1946 dL_law_1949 dL_law_1950 dL_law_1951 dL_law_1956 (by decide) (fun H1 locs1 hW hS => ?_)
  exact W.widen (by omega) (by omega) (kk B1 C2 S2 T2 H1 locs1 ls ⟨w1, w2, w3, w4, ⟨_, w5⟩, F2, w6⟩ hW hS (lv_sub hl [2, 3, 4, 5, 6] rfl))

set_option maxHeartbeats 4000000 in
set_option maxRecDepth 100000 in
theorem lc_isStale {p : Program} {l : Launch} {e : Env} {s : State} {m : MethodId} {below : List Frame} {meth : Method} {c : Code} {H : Heap} {locs : List Loc} {cells slots : Nat} {Q : State → Prop} {b L j : Nat} {xs : Nat → Int32} {Z : gZ} {B : gB} {C : gC} {S : gS} {T : gTx} {ls : Array Slot} (hfl : l.stackTraces = false) (X : gX Z p s m c code 7 #[Value.ref b] wsL_law RL) (hNc : gNc s) (hX : va_X b L xs s s.heap) (hbl : b < s.heap.size) (hzz : Z.2.2 = s.heap.size) (hI : lawI Z B C S T) (hW : gw Z B C H) (hS : va_S (gA Z) s.heap H locs) (hj : 4 * j + 4 ≤ L) (hL : L ≤ 2048) (hl : lv_has ls 7 (lLoc b B j)) (hc : cells + 16 ≤ room_1.cells) (hs : slots + 128 ≤ room_1.slots) (kk : lKont p l e s m below meth c b Q Z j cells slots) : W p l e room_1 s m #[Value.ref b] below meth c H locs cells slots Q (F0 m 1959 ls []) := by
  have hx := X.1.1
  have hb := X.1.2.1
  have hts := X.1.2.2.2.2
  obtain ⟨hwf, hwz, hcs, hcx, ⟨th, hmd⟩, FO, h95⟩ := hI
  obtain ⟨a1, ra1, ea1⟩ := zI_ex (xs (4 * j + 1))
  obtain ⟨a2, ra2, ea2⟩ := zI_ex (xs (4 * j + 2))
  refine lv_aload_n hx hb dL_law_1959 rfl (lv_at hl 1 rfl) ?_
  refine l_arg 1 X hX hbl hzz hS hL (by omega) (lv_at hl 0 rfl) (lv_at hl 4 rfl) ea1 (k5 := 1) rfl dL_law_1960 dL_law_1961 dL_law_1963 dL_law_1964 dL_law_1965 ?_
  refine l_arg 2 X hX hbl hzz hS hL (by omega) (lv_at hl 0 rfl) (lv_at hl 4 rfl) ea2 (k5 := 2) rfl dL_law_1966 dL_law_1967 dL_law_1969 dL_law_1970 dL_law_1971 ?_
  refine lv_aload_n hx hb dL_law_1972 rfl (lv_at hl 3 rfl) ?_
  refine g_ciB (g_runSW X hNc (k_L_isStale hfl hcs hcx hwf ra1 ra2 h95) (vx_cwSW 4 hts gL_law_L_isStale rfl rfl rfl ds_L_isStale ⟨Nat.le_of_ble_eq_true rfl, Nat.le_of_ble_eq_true rfl⟩) hW hS rfl hl.1 rfl (Nat.le_of_ble_eq_true rfl) dL_law_1973 ⟨by omega, by omega⟩) hS (fun r B1 C1 H locs hp hW hS => ?_)
  obtain ⟨rfl, -, -, ⟨F1, h951⟩, hcx1, hfo1, hB1⟩ := id hp
  rw [lLoc, ← hB1 0 0 (by omega), ← hB1 70 0 (by omega), ← hB1 95 0 (by omega)] at hl
  refine lv_istore (lv' := (5, .int (zI ((cd_isStale S a1 a2 : Nat) : Int))) :: lLoc b B1 j) hx hb dL_law_1976 hl (by decide) rfl (fun ls hl => ?_)
  have hmd1 : md Z B1 C1 S T th := (hmd.out (fun k' z1 z2 => hfo1 k' 0 (by omega) (by omega))).Bx (fun k' z1 z2 => hB1 k' 0 (by omega))
  obtain ⟨⟨mg, h70⟩, -⟩ := id hmd1
  refine lv_aload_n hx hb dL_law_1978 rfl (lv_at hl 3 rfl) ?_
  refine l_arg 1 X hX hbl hzz hS hL (by omega) (lv_at hl 1 rfl) (lv_at hl 5 rfl) ea1 (k5 := 1) rfl dL_law_1979 dL_law_1980 dL_law_1982 dL_law_1983 dL_law_1984 ?_
  refine l_arg 2 X hX hbl hzz hS hL (by omega) (lv_at hl 1 rfl) (lv_at hl 5 rfl) ea2 (k5 := 2) rfl dL_law_1985 dL_law_1986 dL_law_1988 dL_law_1989 dL_law_1990 ?_
  refine g_ci (g_runV X (k_X8_isStale hmd1 hwf ra1 ra2) (cwV 2 hts gL_law_X8_isStale rfl rfl rfl ⟨rfl, ds_X8_isStale⟩ ⟨Nat.le_of_ble_eq_true rfl, Nat.le_of_ble_eq_true rfl⟩) hW hS h70 rfl rfl hl.1 rfl (Nat.le_of_ble_eq_true rfl) dL_law_1991 ⟨by omega, by omega⟩) hS (fun r2 C2 H locs hp2 hW hS => ?_)
  refine lv_istore (lv' := (6, .int r2) :: (5, .int (zI ((cd_isStale S a1 a2 : Nat) : Int))) :: lLoc b B1 j) hx hb dL_law_1994 hl (by decide) rfl (fun ls hl => ?_)
  have hm : mpo Z B1 C1 S T (cd_isStale S a1 a2) (if (fre S T a1.toNat).testBit a2.toNat = true then 0 else 1) S T r2 C2 := mpo.ask hp2.1 hp2.2.1 hp2.2.2.1
  obtain ⟨S2, T2, F2, w1, w2, w3, w4, w5, w6, w7⟩ := law_mid hwf hwz (fun _ => ⟨hwf, hwz⟩) hp hm
  refine lt_bool (t0 := 1996) X w5 w6 w7 hp2.2.2.2 (by unfold cd_isStale; (repeat' split) <;> omega) hW hS hl ⟨by omega, by omega⟩ dL_law_1996 dL_law_1997 dL_law_2000 dL_law_2002 dL_law_2007 dL_law_2009 dL_law_2012 dL_law_2013 dL_law_2014 dL_law_2015 dL_law_2017 dL_law_2020 dL_law_2021 dL_law_2024 dL_law_2025 dL_law_2026 dL_law_2031 (by decide) (fun H1 locs1 hW hS => ?_)
  exact W.widen (by omega) (by omega) (kk B1 C2 S2 T2 H1 locs1 ls ⟨w1, w2, w3, w4, ⟨_, w5⟩, F2, w6⟩ hW hS (lv_sub hl [2, 3, 4, 5, 6] rfl))
