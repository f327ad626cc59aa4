/-! THE LAW'S LOOP OVER THE SCRIPT -/
theorem and31 (v : Int32) : ∃ q : Nat, q < 32 ∧ v &&& 31 = zI (q : Int) := by
  have h31 : (31#32 : BitVec 32).toNat = 31 := by decide
  refine ⟨(v.toBitVec &&& 31#32).toNat, ?_, ?_⟩
  · rw [BitVec.toNat_and, h31]
    exact Nat.lt_succ_of_le Nat.and_le_right
  · apply Int32.toBitVec_inj.mp
    show v.toBitVec &&& 31#32 = BitVec.ofInt 32 _
    rw [BitVec.ofInt_natCast, BitVec.ofNat_toNat, BitVec.setWidth_eq]

set_option maxHeartbeats 4000000 in
set_option maxRecDepth 100000 in
/-- one call: by its number -/
theorem law_step {q : Nat} (hq : q < 32) {p : Program} {l : Launch} {e : Env} {s : State} {m : MethodId} {below : List Frame} {meth : Method} {c : Code} {H : Heap} {locs : List Loc} {cells slots : Nat} {Q : State → Prop} {b L j : Nat} {xs : Nat → Int32} {Z : gZ} {B : gB} {C : gC} {S : gS} {T : gTx} {ls : Array Slot} (hfl : l.stackTraces = false) (X : gX Z p s m c code 7 #[Value.ref b] wsL_law RL) (hNc : gNc s) (hX : va_X b L xs s s.heap) (hbl : b < s.heap.size) (hzz : Z.2.2 = s.heap.size) (hI : lawI Z B C S T) (hW : gw Z B C H) (hS : va_S (gA Z) s.heap H locs) (hj : 4 * j + 4 ≤ L) (hL : L ≤ 2048) (hl : lv_has ls 7 (lLoc b B j)) (hc : cells + 16 ≤ room_1.cells) (hs : slots + 128 ≤ room_1.slots) (kk : lKont p l e s m below meth c b Q Z j cells slots) : W p l e room_1 s m #[Value.ref b] below meth c H locs cells slots Q (F0 m 39 ls [.int (zI (q : Int))]) := by
  have hx := X.1.1
  have hb := X.1.2.1
  have hq2 : q = 0 ∨ q = 1 ∨ q = 2 ∨ q = 3 ∨ q = 4 ∨ q = 5 ∨ q = 6 ∨ q = 7 ∨ q = 8 ∨ q = 9 ∨ q = 10 ∨ q = 11 ∨ q = 12 ∨ q = 13 ∨ q = 14 ∨ q = 15 ∨ q = 16 ∨ q = 17 ∨ q = 18 ∨ q = 19 ∨ q = 20 ∨ q = 21 ∨ q = 22 ∨ q = 23 ∨ q = 24 ∨ q = 25 ∨ q = 26 ∨ q = 27 ∨ q = 28 ∨ q = 29 ∨ q = 30 ∨ q = 31 := by omega
  rcases hq2 with rfl | rfl | rfl | rfl | rfl | rfl | rfl | rfl | rfl | rfl | rfl | rfl | rfl | rfl | rfl | rfl | rfl | rfl | rfl | rfl | rfl | rfl | rfl | rfl | rfl | rfl | rfl | rfl | rfl | rfl | rfl | rfl
  · refine lv_tableIn (tgt := 172) (off := 133) hx hb dL_law_39 (by decide +kernel) (by decide +kernel) (by decide +kernel) (by decide) ?_
    exact lc_giveRange hfl X hNc hX hbl hzz hI hW hS hj hL hl hc hs kk
  · refine lv_tableIn (tgt := 252) (off := 213) hx hb dL_law_39 (by decide +kernel) (by decide +kernel) (by decide +kernel) (by decide) ?_
    exact lc_open hfl X hNc hX hbl hzz hI hW hS hj hL hl hc hs kk
  · refine lv_tableIn (tgt := 308) (off := 269) hx hb dL_law_39 (by decide +kernel) (by decide +kernel) (by decide +kernel) (by decide) ?_
    exact lc_addLine hfl X hNc hX hbl hzz hI hW hS hj hL hl hc hs kk
  · refine lv_tableIn (tgt := 376) (off := 337) hx hb dL_law_39 (by decide +kernel) (by decide +kernel) (by decide +kernel) (by decide) ?_
    exact lc_lay hfl X hNc hX hbl hzz hI hW hS hj hL hl hc hs kk
  · refine lv_tableIn (tgt := 432) (off := 393) hx hb dL_law_39 (by decide +kernel) (by decide +kernel) (by decide +kernel) (by decide) ?_
    exact lc_landAfter hfl X hNc hX hbl hzz hI hW hS hj hL hl hc hs kk
  · refine lv_tableIn (tgt := 500) (off := 461) hx hb dL_law_39 (by decide +kernel) (by decide +kernel) (by decide +kernel) (by decide) ?_
    exact lc_setPriority hfl X hNc hX hbl hzz hI hW hS hj hL hl hc hs kk
  · refine lv_tableIn (tgt := 568) (off := 529) hx hb dL_law_39 (by decide +kernel) (by decide +kernel) (by decide +kernel) (by decide) ?_
    exact lc_comment hfl X hNc hX hbl hzz hI hW hS hj hL hl hc hs kk
  · refine lv_tableIn (tgt := 636) (off := 597) hx hb dL_law_39 (by decide +kernel) (by decide +kernel) (by decide +kernel) (by decide) ?_
    exact lc_resolve hfl X hNc hX hbl hzz hI hW hS hj hL hl hc hs kk
  · refine lv_tableIn (tgt := 692) (off := 653) hx hb dL_law_39 (by decide +kernel) (by decide +kernel) (by decide +kernel) (by decide) ?_
    exact lc_approve hfl X hNc hX hbl hzz hI hW hS hj hL hl hc hs kk
  · refine lv_tableIn (tgt := 760) (off := 721) hx hb dL_law_39 (by decide +kernel) (by decide +kernel) (by decide +kernel) (by decide) ?_
    exact lc_withdraw hfl X hNc hX hbl hzz hI hW hS hj hL hl hc hs kk
  · refine lv_tableIn (tgt := 828) (off := 789) hx hb dL_law_39 (by decide +kernel) (by decide +kernel) (by decide +kernel) (by decide) ?_
    exact lc_land hfl X hNc hX hbl hzz hI hW hS hj hL hl hc hs kk
  · refine lv_tableIn (tgt := 884) (off := 845) hx hb dL_law_39 (by decide +kernel) (by decide +kernel) (by decide +kernel) (by decide) ?_
    exact lc_landAll hfl X hNc hX hbl hzz hI hW hS hj hL hl hc hs kk
  · refine lv_tableIn (tgt := 897) (off := 858) hx hb dL_law_39 (by decide +kernel) (by decide +kernel) (by decide +kernel) (by decide) ?_
    exact lc_reasonAgainst hfl X hNc hX hbl hzz hI hW hS hj hL hl hc hs kk
  · refine lv_tableIn (tgt := 953) (off := 914) hx hb dL_law_39 (by decide +kernel) (by decide +kernel) (by decide +kernel) (by decide) ?_
    exact lc_missingUser hfl X hNc hX hbl hzz hI hW hS hj hL hl hc hs kk
  · refine lv_tableIn (tgt := 1009) (off := 970) hx hb dL_law_39 (by decide +kernel) (by decide +kernel) (by decide +kernel) (by decide) ?_
    exact lc_landedAt hfl X hNc hX hbl hzz hI hW hS hj hL hl hc hs kk
  · refine lv_tableIn (tgt := 1065) (off := 1026) hx hb dL_law_39 (by decide +kernel) (by decide +kernel) (by decide +kernel) (by decide) ?_
    exact lc_mainLines hfl X hNc hX hbl hzz hI hW hS hj hL hl hc hs kk
  · refine lv_tableIn (tgt := 1078) (off := 1039) hx hb dL_law_39 (by decide +kernel) (by decide +kernel) (by decide +kernel) (by decide) ?_
    exact lc_mainLine hfl X hNc hX hbl hzz hI hW hS hj hL hl hc hs kk
  · refine lv_tableIn (tgt := 1134) (off := 1095) hx hb dL_law_39 (by decide +kernel) (by decide +kernel) (by decide +kernel) (by decide) ?_
    exact lc_rounds hfl X hNc hX hbl hzz hI hW hS hj hL hl hc hs kk
  · refine lv_tableIn (tgt := 1190) (off := 1151) hx hb dL_law_39 (by decide +kernel) (by decide +kernel) (by decide +kernel) (by decide) ?_
    exact lc_lines hfl X hNc hX hbl hzz hI hW hS hj hL hl hc hs kk
  · refine lv_tableIn (tgt := 1258) (off := 1219) hx hb dL_law_39 (by decide +kernel) (by decide +kernel) (by decide +kernel) (by decide) ?_
    exact lc_lineAt hfl X hNc hX hbl hzz hI hW hS hj hL hl hc hs kk
  · refine lv_tableIn (tgt := 1338) (off := 1299) hx hb dL_law_39 (by decide +kernel) (by decide +kernel) (by decide +kernel) (by decide) ?_
    exact lc_edits hfl X hNc hX hbl hzz hI hW hS hj hL hl hc hs kk
  · refine lv_tableIn (tgt := 1418) (off := 1379) hx hb dL_law_39 (by decide +kernel) (by decide +kernel) (by decide +kernel) (by decide) ?_
    exact lc_editsByWays hfl X hNc hX hbl hzz hI hW hS hj hL hl hc hs kk
  · refine lv_tableIn (tgt := 1498) (off := 1459) hx hb dL_law_39 (by decide +kernel) (by decide +kernel) (by decide +kernel) (by decide) ?_
    exact lc_ownerOf hfl X hNc hX hbl hzz hI hW hS hj hL hl hc hs kk
  · refine lv_tableIn (tgt := 1554) (off := 1515) hx hb dL_law_39 (by decide +kernel) (by decide +kernel) (by decide +kernel) (by decide) ?_
    exact lc_needs hfl X hNc hX hbl hzz hI hW hS hj hL hl hc hs kk
  · refine lv_tableIn (tgt := 1629) (off := 1590) hx hb dL_law_39 (by decide +kernel) (by decide +kernel) (by decide +kernel) (by decide) ?_
    exact lc_placeIn hfl X hNc hX hbl hzz hI hW hS hj hL hl hc hs kk
  · refine lv_tableIn (tgt := 1697) (off := 1658) hx hb dL_law_39 (by decide +kernel) (by decide +kernel) (by decide +kernel) (by decide) ?_
    exact lc_placeByComparing hfl X hNc hX hbl hzz hI hW hS hj hL hl hc hs kk
  · refine lv_tableIn (tgt := 1765) (off := 1726) hx hb dL_law_39 (by decide +kernel) (by decide +kernel) (by decide +kernel) (by decide) ?_
    exact lc_isOpen hfl X hNc hX hbl hzz hI hW hS hj hL hl hc hs kk
  · refine lv_tableIn (tgt := 1828) (off := 1789) hx hb dL_law_39 (by decide +kernel) (by decide +kernel) (by decide +kernel) (by decide) ?_
    exact lc_openComments hfl X hNc hX hbl hzz hI hW hS hj hL hl hc hs kk
  · refine lv_tableIn (tgt := 1884) (off := 1845) hx hb dL_law_39 (by decide +kernel) (by decide +kernel) (by decide +kernel) (by decide) ?_
    exact lc_hasApproved hfl X hNc hX hbl hzz hI hW hS hj hL hl hc hs kk
  · refine lv_tableIn (tgt := 1959) (off := 1920) hx hb dL_law_39 (by decide +kernel) (by decide +kernel) (by decide +kernel) (by decide) ?_
    exact lc_isStale hfl X hNc hX hbl hzz hI hW hS hj hL hl hc hs kk
  · refine lv_tableOut (tgt := 2034) hx hb dL_law_39 (by decide +kernel) (by decide) ?_
    exact W.widen (by omega) (by omega) (kk B C S T H locs ls hI hW hS hl)
  · refine lv_tableOut (tgt := 2034) hx hb dL_law_39 (by decide +kernel) (by decide) ?_
    exact W.widen (by omega) (by omega) (kk B C S T H locs ls hI hW hS hl)
set_option maxHeartbeats 4000000 in
set_option maxRecDepth 100000 in
theorem law_loop {p : Program} {l : Launch} {e : Env} {s : State} {m : MethodId} {below : List Frame} {meth : Method} {c : Code} {b L : Nat} {xs : Nat → Int32} {Z : gZ} (hfl : l.stackTraces = false) (X : gX Z p s m c code 7 #[Value.ref b] wsL_law RL) (hNc : gNc s) (hX : va_X b L xs s s.heap) (hbl : b < s.heap.size) (hzz : Z.2.2 = s.heap.size) (hL : L ≤ 2048) (hr : meth.sig.returnType = ret) (hlk : meth.locks = false) :
    ∀ (n j : Nat) (S : gS) (T : gTx) (B : gB) (C : gC) (H : Heap) (locs : List Loc) (ls : Array Slot), 600 - j < n → 4 * j ≤ L → lawI Z B C S T → gw Z B C H → va_S (gA Z) s.heap H locs → lv_has ls 7 (lLoc b B j) → W p l e room_1 s m #[Value.ref b] below meth c H locs (100 + 16 * j) (3000 + 128 * j) (lw_Z below #[Value.ref b] s) (F0 m 23 ls []) := by
  have hx := X.1.1
  have hb := X.1.2.1
  have hbA : ¬ gA Z b := fun z => by have h9 : Z.2.2 ≤ b := z; omega
  have r1 : room_1.cells = 601024 := rfl
  have r2 : room_1.slots = 7293034 := rfl
  intro n
  induction n with
  | zero => intro j S T B C H locs ls h; omega
  | succ n ih =>
    intro j S T B C H locs ls hn hj hI hW hS hl
    refine lv_iload hx hb dL_law_23 (lv_at hl 4 rfl) ?_
    refine lv_aload_n hx hb dL_law_25 rfl (lv_at hl 0 rfl) ?_
    refine va_slen hx hb hX hbl hbA hS dL_law_26 ?_
    rw [show Int32.ofNat L = zI (L : Int) from zI_nat L]
    refine lv_iconst (v := zI 4) hx hb dL_law_27 rfl ?_
    refine z_isub hx hb dL_law_28 ?_
    refine z_icmp_gt (tgt := 2040) hx hb dL_law_29 (by decide) ⟨by omega, by omega⟩ ⟨by omega, by omega⟩ (fun _ => ?_) (fun hle => ?_)
    · refine lv_iconst (v := 1) hx hb dL_law_2040 (by decide) ?_
      refine va_forget (fun q hq => by have h9 : Z.2.2 ≤ q.base := hS.2.2 q hq; omega) ?_
      refine W.widen (k := 601024) (n := 7293034) (by omega) (by omega) ?_
      exact lw_ret hx hb hr hlk dL_law_2041
    · refine lv_aload_n hx hb dL_law_32 rfl (lv_at hl 0 rfl) ?_
      refine lv_iload hx hb dL_law_33 (lv_at hl 4 rfl) ?_
      refine va_sld hx hb hX hbl hbA hS (zI_in (by omega) (by omega) (by omega)) dL_law_35 ?_
      refine lv_bipush (v := 31) hx hb dL_law_36 (by decide) ?_
      refine lv_iand hx hb dL_law_38 ?_
      obtain ⟨q, hq, eq⟩ := and31 (xs (zI (4 * (j : Int))).toNatClampNeg)
      rw [eq]
      refine law_step hq hfl X hNc hX hbl hzz hI hW hS (by omega) hL hl (by omega) (by omega) ?_
      intro B1 C1 S1 T1 H1 locs1 ls1 hI1 hW1 hS1 hl1
      refine z_iinc (lv' := [(4, .int (zI (4 * (j : Int) + 4))), (0, .ref b), (1, .ref (B1 0 0)), (2, .ref (B1 70 0)), (3, .ref (B1 95 0))]) hx hb dL_law_2034 hl1 (q := 4) rfl (by decide) rfl (fun ls hl => ?_)
      refine lv_goto (tgt := 23) hx hb dL_law_2037 (by decide) ?_
      rw [show 4 * (j : Int) + 4 = 4 * ((j + 1 : Nat) : Int) by omega] at hl
      exact ih (j + 1) S1 T1 B1 C1 H1 locs1 ls (by omega) (by omega) hI1 hW1 hS1 (lv_sub hl [1, 2, 3, 4, 0] rfl)
