/-! THE LAW's loop -/
theorem l6 : ∀ L : Nat, L < 6 → (Int32.ofNat L - 6 : Int32).toInt < 0 := by decide
theorem lLe {i L : Nat} (hL : L ≤ 3072) (hi : i ≤ 3072) (h : ¬ (Int32.ofNat L - 6 : Int32) < nI i) : i + 6 ≤ L := by
  rcases Nat.lt_or_ge L 6 with q | q
  · refine absurd ?_ h
    rw [Int32.lt_iff_toInt_lt, show (nI i).toInt = (i : Int) from nI_toInt (by omega)]
    have := l6 L q
    omega
  · obtain ⟨k, rfl⟩ : ∃ k, L = k + 6 := ⟨L - 6, by omega⟩
    have e : (Int32.ofNat (k + 6) - 6 : Int32) = nI k := by
      show nI (k + 6) - 6 = nI k
      rw [← nI_add k 6]
      exact Int32.add_sub_cancel _ _
    rw [e] at h
    rcases Nat.lt_or_ge k i with g | g
    · exact absurd (nI_lt g (by omega)) h
    · omega
set_option maxHeartbeats 4000000 in
set_option maxRecDepth 100000 in
theorem lSwitch {p : Program} {l : Launch} {e : Env} {s : State} {m : MethodId} {below : List Frame} {meth : Method} {c : Code} {D : va_G} {cI cS : ClassId} {cs : CSt} {b L a0 e0 : Nat} {xs : Nat → Int32} (F : Nat) (hFu : 300 ≤ F) (C0 : CX p s m #[Value.ref b] meth c RL cL_law 4 (some .boolean) wsL_law D cI cS) (hX : va_X b L xs s s.heap) (hbl : b < s.heap.size) (hCS : CST cs (lA s) s s.heap) (hL : L ≤ 3072) {j i : Nat} {H : Heap} {locs : List Loc} {ls : Array Slot} (hj : j < 64) (hl : lv_has ls 4 [(0, .ref b), (1, .ref a0), (2, .ref e0), (3, .int (nI i))]) (hi : i + 6 ≤ L) (hS : va_S (lA s) s.heap H locs) (hI : LI D cI cS cs (lA s) a0 e0 H)
    (kk : ∀ (H1 : Heap) (locs1 : List Loc), LI D cI cS cs (lA s) a0 e0 H1 → va_S (lA s) s.heap H1 locs1 → W p l e room_1 s m #[Value.ref b] below meth c H1 locs1 35 1791 (lw_Z below #[Value.ref b] s) (F0 m 1473 ls [])) : W p l e room_1 s m #[Value.ref b] below meth c H locs 35 1791 (lw_Z below #[Value.ref b] s) (F0 m 33 ls [.int (nI j)]) := by
  obtain ⟨hx, hb, hr, hml, hown, hts, hlk, hE⟩ := id C0
  have exj : (nI j).toInt = (j : Int) := nI_toInt (by omega)
  by_cases h41 : 41 < j
  · exact lv_tableOut (tgt := 1473) hx hb dL_law_33 (Or.inr (by rw [exj]; omega)) (by decide) (kk H locs hI hS)
  · have h42 : j < 42 := by omega
    clear h41 hj exj
    match j, h42 with
    | 0, _ => exact lv_tableIn (off := 183) (tgt := 216) hx hb dL_law_33 (by decide) (by decide) (by decide) (by decide) (lc_list hFu C0 hX hbl hCS hl hi hL hS hI kk)
    | 1, _ => exact lv_tableIn (off := 216) (tgt := 249) hx hb dL_law_33 (by decide) (by decide) (by decide) (by decide) (lc_listed hFu C0 hX hbl hCS hl hi hL hS hI kk)
    | 2, _ => exact lv_tableIn (off := 239) (tgt := 272) hx hb dL_law_33 (by decide) (by decide) (by decide) (by decide) (lc_saying hFu C0 hX hbl hCS hl hi hL hS hI kk)
    | 3, _ => exact lv_tableIn (off := 282) (tgt := 315) hx hb dL_law_33 (by decide) (by decide) (by decide) (by decide) (lc_ship hFu C0 hX hbl hCS hl hi hL hS hI kk)
    | 4, _ => exact lv_tableIn (off := 315) (tgt := 348) hx hb dL_law_33 (by decide) (by decide) (by decide) (by decide) (lc_of hFu C0 hX hbl hCS hl hi hL hS hI kk)
    | 5, _ => exact lv_tableIn (off := 348) (tgt := 381) hx hb dL_law_33 (by decide) (by decide) (by decide) (by decide) (lc_change hFu C0 hX hbl hCS hl hi hL hS hI kk)
    | 6, _ => exact lv_tableIn (off := 391) (tgt := 424) hx hb dL_law_33 (by decide) (by decide) (by decide) (by decide) (lc_ofShip hFu C0 hX hbl hCS hl hi hL hS hI kk)
    | 7, _ => exact lv_tableIn (off := 424) (tgt := 457) hx hb dL_law_33 (by decide) (by decide) (by decide) (by decide) (lc_steer hFu C0 hX hbl hCS hl hi hL hS hI kk)
    | 8, _ => exact lv_tableIn (off := 467) (tgt := 500) hx hb dL_law_33 (by decide) (by decide) (by decide) (by decide) (lc_thick hFu C0 hX hbl hCS hl hi hL hS hI kk)
    | 9, _ => exact lv_tableIn (off := 490) (tgt := 523) hx hb dL_law_33 (by decide) (by decide) (by decide) (by decide) (lc_go hFu C0 hX hbl hCS hl hi hL hS hI kk)
    | 10, _ => exact lv_tableIn (off := 513) (tgt := 546) hx hb dL_law_33 (by decide) (by decide) (by decide) (by decide) (lc_now hFu C0 hX hbl hCS hl hi hL hS hI kk)
    | 11, _ => exact lv_tableIn (off := 536) (tgt := 569) hx hb dL_law_33 (by decide) (by decide) (by decide) (by decide) (lc_ahead hFu C0 hX hbl hCS hl hi hL hS hI kk)
    | 12, _ => exact lv_tableIn (off := 579) (tgt := 612) hx hb dL_law_33 (by decide) (by decide) (by decide) (by decide) (lc_later hFu C0 hX hbl hCS hl hi hL hS hI kk)
    | 13, _ => exact lv_tableIn (off := 622) (tgt := 655) hx hb dL_law_33 (by decide) (by decide) (by decide) (by decide) (lc_fog hFu C0 hX hbl hCS hl hi hL hS hI kk)
    | 14, _ => exact lv_tableIn (off := 655) (tgt := 688) hx hb dL_law_33 (by decide) (by decide) (by decide) (by decide) (lc_lands hFu C0 hX hbl hCS hl hi hL hS hI kk)
    | 15, _ => exact lv_tableIn (off := 678) (tgt := 711) hx hb dL_law_33 (by decide) (by decide) (by decide) (by decide) (lc_closes hFu C0 hX hbl hCS hl hi hL hS hI kk)
    | 16, _ => exact lv_tableIn (off := 711) (tgt := 744) hx hb dL_law_33 (by decide) (by decide) (by decide) (by decide) (lc_settled hFu C0 hX hbl hCS hl hi hL hS hI kk)
    | 17, _ => exact lv_tableIn (off := 724) (tgt := 757) hx hb dL_law_33 (by decide) (by decide) (by decide) (by decide) (lc_finishFor hFu C0 hX hbl hCS hl hi hL hS hI kk)
    | 18, _ => exact lv_tableIn (off := 757) (tgt := 790) hx hb dL_law_33 (by decide) (by decide) (by decide) (by decide) (lc_kindFor hFu C0 hX hbl hCS hl hi hL hS hI kk)
    | 19, _ => exact lv_tableIn (off := 790) (tgt := 823) hx hb dL_law_33 (by decide) (by decide) (by decide) (by decide) (lc_eyesFor hFu C0 hX hbl hCS hl hi hL hS hI kk)
    | 20, _ => exact lv_tableIn (off := 823) (tgt := 856) hx hb dL_law_33 (by decide) (by decide) (by decide) (by decide) (lc_speedFor hFu C0 hX hbl hCS hl hi hL hS hI kk)
    | 21, _ => exact lv_tableIn (off := 856) (tgt := 889) hx hb dL_law_33 (by decide) (by decide) (by decide) (by decide) (lc_decide hFu C0 hX hbl hCS hl hi hL hS hI kk)
    | 22, _ => exact lv_tableIn (off := 879) (tgt := 912) hx hb dL_law_33 (by decide) (by decide) (by decide) (by decide) (lc_fits hFu C0 hX hbl hCS hl hi hL hS hI kk)
    | 23, _ => exact lv_tableIn (off := 912) (tgt := 945) hx hb dL_law_33 (by decide) (by decide) (by decide) (by decide) (lc_kinds hFu C0 hX hbl hCS hl hi hL hS hI kk)
    | 24, _ => exact lv_tableIn (off := 945) (tgt := 978) hx hb dL_law_33 (by decide) (by decide) (by decide) (by decide) (lc_committee hFu C0 hX hbl hCS hl hi hL hS hI kk)
    | 25, _ => exact lv_tableIn (off := 968) (tgt := 1001) hx hb dL_law_33 (by decide) (by decide) (by decide) (by decide) (lc_odds hFu C0 hX hbl hCS hl hi hL hS hI kk)
    | 26, _ => exact lv_tableIn (off := 1012) (tgt := 1045) hx hb dL_law_33 (by decide) (by decide) (by decide) (by decide) (lc_seed hFu C0 hX hbl hCS hl hi hL hS hI kk)
    | 27, _ => exact lv_tableIn (off := 1035) (tgt := 1068) hx hb dL_law_33 (by decide) (by decide) (by decide) (by decide) (lc_feed hFu C0 hX hbl hCS hl hi hL hS hI kk)
    | 28, _ => exact lv_tableIn (off := 1068) (tgt := 1101) hx hb dL_law_33 (by decide) (by decide) (by decide) (by decide) (lc_wipe hFu C0 hX hbl hCS hl hi hL hS hI kk)
    | 29, _ => exact lv_tableIn (off := 1081) (tgt := 1114) hx hb dL_law_33 (by decide) (by decide) (by decide) (by decide) (lc_text hFu C0 hX hbl hCS hl hi hL hS hI kk)
    | 30, _ => exact lv_tableIn (off := 1094) (tgt := 1127) hx hb dL_law_33 (by decide) (by decide) (by decide) (by decide) (lc_hold hFu C0 hX hbl hCS hl hi hL hS hI kk)
    | 31, _ => exact lv_tableIn (off := 1127) (tgt := 1160) hx hb dL_law_33 (by decide) (by decide) (by decide) (by decide) (lc_as hFu C0 hX hbl hCS hl hi hL hS hI kk)
    | 32, _ => exact lv_tableIn (off := 1160) (tgt := 1193) hx hb dL_law_33 (by decide) (by decide) (by decide) (by decide) (lc_sheet hFu C0 hX hbl hCS hl hi hL hS hI kk)
    | 33, _ => exact lv_tableIn (off := 1203) (tgt := 1236) hx hb dL_law_33 (by decide) (by decide) (by decide) (by decide) (lc_write hFu C0 hX hbl hCS hl hi hL hS hI kk)
    | 34, _ => exact lv_tableIn (off := 1246) (tgt := 1279) hx hb dL_law_33 (by decide) (by decide) (by decide) (by decide) (lc_copy hFu C0 hX hbl hCS hl hi hL hS hI kk)
    | 35, _ => exact lv_tableIn (off := 1309) (tgt := 1342) hx hb dL_law_33 (by decide) (by decide) (by decide) (by decide) (lc_load hFu C0 hX hbl hCS hl hi hL hS hI kk)
    | 36, _ => exact lv_tableIn (off := 1332) (tgt := 1365) hx hb dL_law_33 (by decide) (by decide) (by decide) (by decide) (lc_judge hFu C0 hX hbl hCS hl hi hL hS hI kk)
    | 37, _ => exact lv_tableIn (off := 1355) (tgt := 1388) hx hb dL_law_33 (by decide) (by decide) (by decide) (by decide) (lc_image hFu C0 hX hbl hCS hl hi hL hS hI kk)
    | 38, _ => exact lv_tableIn (off := 1368) (tgt := 1401) hx hb dL_law_33 (by decide) (by decide) (by decide) (by decide) (lc_undo hFu C0 hX hbl hCS hl hi hL hS hI kk)
    | 39, _ => exact lv_tableIn (off := 1381) (tgt := 1414) hx hb dL_law_33 (by decide) (by decide) (by decide) (by decide) (lc_tear hFu C0 hX hbl hCS hl hi hL hS hI kk)
    | 40, _ => exact lv_tableIn (off := 1394) (tgt := 1427) hx hb dL_law_33 (by decide) (by decide) (by decide) (by decide) (lc_count hFu C0 hX hbl hCS hl hi hL hS hI kk)
    | 41, _ => exact lv_tableIn (off := 1417) (tgt := 1450) hx hb dL_law_33 (by decide) (by decide) (by decide) (by decide) (lc_status hFu C0 hX hbl hCS hl hi hL hS hI kk)
    | n + 42, h => exact absurd h (by omega)
set_option maxHeartbeats 4000000 in
set_option maxRecDepth 100000 in
theorem lLoop {p : Program} {l : Launch} {e : Env} {s : State} {m : MethodId} {below : List Frame} {meth : Method} {c : Code} {D : va_G} {cI cS : ClassId} {cs : CSt} {b L a0 e0 : Nat} {xs : Nat → Int32} (F : Nat) (hFu : 300 ≤ F) (C0 : CX p s m #[Value.ref b] meth c RL cL_law 4 (some .boolean) wsL_law D cI cS) (hX : va_X b L xs s s.heap) (hbl : b < s.heap.size) (hCS : CST cs (lA s) s s.heap) (hL : L ≤ 3072) (hr : meth.sig.returnType = ret) :
    ∀ (n i : Nat) (H : Heap) (locs : List Loc) (ls : Array Slot), i ≤ L → L < i + n → lv_has ls 4 [(0, .ref b), (1, .ref a0), (2, .ref e0), (3, .int (nI i))] → va_S (lA s) s.heap H locs → LI D cI cS cs (lA s) a0 e0 H → W p l e room_1 s m #[Value.ref b] below meth c H locs 35 1791 (lw_Z below #[Value.ref b] s) (F0 m 18 ls []) := by
  obtain ⟨hx, hb, -, hml, hown, hts, hlk, hE⟩ := id C0
  have hbA : ¬ lA s b := Nat.not_le.mpr hbl
  intro n
  induction n with
  | zero =>
    intro i H locs ls h1 h2
    exact absurd h2 (by omega)
  | succ n ih =>
    intro i H locs ls hi hin hl hS hI
    refine lv_iload_n hx hb dL_law_18 rfl (lv_at hl 3 rfl) ?_
    refine lv_aload_n hx hb dL_law_19 rfl (lv_at hl 0 rfl) ?_
    refine va_slen hx hb hX hbl hbA hS dL_law_20 ?_
    refine lv_bipush (v := 6) hx hb dL_law_21 (by decide) ?_
    refine lv_isub hx hb dL_law_23 ?_
    refine lv_icmp_gt (tgt := 1479) hx hb dL_law_24 (by decide) (fun c1 => ?_) (fun c1 => ?_)
    · refine lv_iconst (v := 1) hx hb dL_law_1479 (by decide) ?_
      refine va_forget (fun q hq => hS.2.2 q hq) ?_
      exact lw_ret hx hb hr hlk dL_law_1480
    · have hlt : i + 6 ≤ L := lLe hL (by omega) c1
      refine lv_aload_n hx hb dL_law_27 rfl (lv_at hl 0 rfl) ?_
      refine lv_iload_n hx hb dL_law_28 rfl (lv_at hl 3 rfl) ?_
      refine va_sld hx hb hX hbl hbA hS (vp_in_nI (by omega) (by omega)) dL_law_29 ?_
      refine lv_bipush (v := 63) hx hb dL_law_30 (by decide) ?_
      refine lv_iand hx hb dL_law_32 ?_
      obtain ⟨j, hj, ej⟩ := pk_andE (xs (nI i).toNatClampNeg) (m := 63) 6 (by decide)
      rw [ej]
      refine lSwitch F hFu C0 hX hbl hCS hL hj hl hlt hS hI (fun H1 locs1 hI1 hS1 => ?_)
      refine lv_iinc (v := nI (i + 6)) (lv' := [(3, .int (nI (i + 6))), (0, .ref b), (1, .ref a0), (2, .ref e0)]) hx hb dL_law_1473 hl (k := 3) rfl (show nI i + Int32.ofInt 6 = nI (i + 6) from by rw [show Int32.ofInt 6 = nI 6 from by decide, nI_add]) (by decide) rfl (fun ls hl => ?_)
      refine lv_goto (tgt := 18) hx hb dL_law_1476 (by decide) ?_
      exact ih (i + 6) H1 locs1 ls hlt (by omega) (lv_sub hl [1, 2, 3, 0] rfl) hS1 hI1
