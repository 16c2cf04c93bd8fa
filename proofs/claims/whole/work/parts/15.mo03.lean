def fX5_change (nw : Nat → Int32) (fd : Nat → Int32) (v1 : Int32) (v2 : Int32) (v3 : Int32) : Option (Int32 × (Nat → Int32) × (Nat → Int32)) := (if (fX5_isSaying nw v1) = 0 then Option.bind (fX5_finding fd (-1000001)) (fun z_2 => some (z_2.1, nw, z_2.2)) else (if (fX5_isField v2 v3) = 0 then Option.bind (fX5_finding fd (-1000001)) (fun z_5 => some (z_5.1, nw, z_5.2)) else Option.bind (fX5_become nw (fX5_sayingAt v1 v2) v3) (fun z_7 => some (z_7.1, z_7.2, fd))))
abbrev rmX5_change : Room := { frames := 3, cells := 0, slots := 0, locals := 63 }
theorem pdX5_change : (yX5_change.cls = RX5 ∧ yX5_change.cls ≠ "java/lang/invoke/MethodHandle" ∧ yX5_change.cls ≠ "java/lang/invoke/VarHandle" ∧ (parseMethodDescriptor yX5_change.desc).map (fun d => d.parameters.length) = some 3) := by decide +kernel
set_option maxHeartbeats 4000000 in
set_option maxRecDepth 100000 in
theorem tX5_change (l : Launch) (D : va_G) (cI cS : ClassId) (a0 a1 a2 a3 a4 a5 a6 a7 a8 a9 a10 a11 : Nat) (nw : Nat → Int32) (kp : Nat → Int32) (ad : Nat → Int32) (fd : Nat → Int32) (tp : Nat → Int32) (kn : Nat → Option Nat) (it : Nat → Int32) (wd : Nat → Int32) (sz : Nat → Int32) (nm : Nat → Int32) (mv : Nat → Int32) (ik : Int32) (td : Int32) (bg : Int32) (en : Int32) (so : Int32) (va : Int32) (iw : Int32) (im : Int32) (st : Int32) (ht : Int32) (v1 : Int32) (v2 : Int32) (v3 : Int32) (z0 : Int32) (z1 : Nat → Int32) (z2 : Nat → Int32) (h : fX5_change nw fd v1 v2 v3 = some (z0, z1, z2)) (hD0 : va_D (fun _ => True) (wX5 cI cS a0 a1 a2 a3 a4 a5 a6 a7 a8 a9 a10 a11 nw kp ad fd tp kn it wd sz nm mv ik td bg en so va iw im st ht)) : Met l yX5_change wsX5_change rmX5_change (PZ D cI cS [.ref a0, .int v1, .int v2, .int v3] (fun U => va_P D vwCl (wX5 cI cS a0 a1 a2 a3 a4 a5 a6 a7 a8 a9 a10 a11 nw kp ad fd tp kn it wd sz nm mv ik td bg en so va iw im st ht) U.heap)) (qI D (wX5 cI cS a0 a1 a2 a3 a4 a5 a6 a7 a8 a9 a10 a11 nw kp ad fd tp kn it wd sz nm mv ik td bg en so va iw im st ht) (wX5 cI cS a0 a1 a2 a3 a4 a5 a6 a7 a8 a9 a10 a11 z1 kp ad z2 tp kn it wd sz nm mv ik td bg en so va iw im st ht) z0) 0 0 (wA (wX5 cI cS a0 a1 a2 a3 a4 a5 a6 a7 a8 a9 a10 a11 nw kp ad fd tp kn it wd sz nm mv ik td bg en so va iw im st ht)) := by
  refine Met.mk RX5 (by decide) rfl rfl (Nat.le_of_ble_eq_true rfl) ?_
  intro p e s m below meth c ls C0 hP hl
  have hl : lv_has ls 4 [(0, .ref a0), (1, .int v1), (2, .int v2), (3, .int v3)] := hl
  obtain ⟨hx, hb, hr, hml, hown, hts, hlk, hE⟩ := id C0
  have hD : ∀ W : va_W, W.map Prod.fst = [a0, a1, a2, a3, a4, a5, a6, a7, a8, a9, a10, a11] → va_D (wA (wX5 cI cS a0 a1 a2 a3 a4 a5 a6 a7 a8 a9 a10 a11 nw kp ad fd tp kn it wd sz nm mv ik td bg en so va iw im st ht)) W := fun W hW => hD0.own.re hW
  have hS : va_S (wA (wX5 cI cS a0 a1 a2 a3 a4 a5 a6 a7 a8 a9 a10 a11 nw kp ad fd tp kn it wd sz nm mv ik td bg en so va iw im st ht)) s.heap s.heap [] := va_S.rf
  have hP : va_P D vwCl (wX5 cI cS a0 a1 a2 a3 a4 a5 a6 a7 a8 a9 a10 a11 nw kp ad fd tp kn it wd sz nm mv ik td bg en so va iw im st ht) s.heap := hP
  rw [fX5_change] at h
  refine lv_aload_n hx hb dX5_change_0 rfl (lv_at hl 0 rfl) ?_
  refine lv_iload_n hx hb dX5_change_1 rfl (lv_at hl 1 rfl) ?_
  have hPc := hP.sub (ws' := (wX5 cI cS a0 a1 a2 a3 a4 a5 a6 a7 a8 a9 a10 a11 nw kp ad fd tp kn it wd sz nm mv ik td bg en so va iw im st ht)) [0, 1, 2, 3, 4, 5, 6, 7, 8, 9, 10, 11] rfl
  refine kRi (rV C0 (tX5_isSaying l D cI cS a0 a1 a2 a3 a4 a5 a6 a7 a8 a9 a10 a11 nw kp ad fd tp kn it wd sz nm mv ik td bg en so va iw im st ht v1 (fX5_isSaying nw v1) rfl) RX5 gX5_change_X5_isSaying rfl ⟨rfl, rfl⟩ pdX5_isSaying rfl ⟨Nat.le_of_ble_eq_true rfl, Nat.le_of_ble_eq_true rfl⟩ (fun _ _ _ _ q => q) (va_recv hE.1 hPc (ci := 4) (q0 := 0) rfl rfl) (fun U hU _ _ => by rw [hU]; exact hPc) hl.1 rfl (Nat.le_of_ble_eq_true rfl) dX5_change_2 ⟨Nat.zero_le _, Nat.zero_le _⟩) ?_
  refine lv_if_eq (tgt := 29) hx hb dX5_change_5 (by decide) (fun c_1 => ?_) (fun c_1 => ?_)
  · have h := ifp c_1 h
    refine lv_aload_n hx hb dX5_change_29 rfl (lv_at hl 0 rfl) ?_
    refine lv_ldc (v := (-1000001)) hx hb hown (hts _ (List.mem_of_getElem? (i := 1) rfl)) dX5_change_30 ?_
    obtain ⟨z_2, e_3, h⟩ := bds h
    have hPc := hP.sub (ws' := (wX5 cI cS a0 a1 a2 a3 a4 a5 a6 a7 a8 a9 a10 a11 nw kp ad fd tp kn it wd sz nm mv ik td bg en so va iw im st ht)) [0, 1, 2, 3, 4, 5, 6, 7, 8, 9, 10, 11] rfl
    refine kMi (wf' := (wX5 cI cS a0 a1 a2 a3 a4 a5 a6 a7 a8 a9 a10 a11 nw kp ad z_2.2 tp kn it wd sz nm mv ik td bg en so va iw im st ht)) [0, 1, 2, 3, 4, 5, 6, 7, 8, 9, 10, 11] [some 0, some 1, some 2, some 3, some 4, some 5, some 6, some 7, some 8, some 9, some 10, some 11] (rV C0 (tX5_finding l D cI cS a0 a1 a2 a3 a4 a5 a6 a7 a8 a9 a10 a11 nw kp ad fd tp kn it wd sz nm mv ik td bg en so va iw im st ht (-1000001) z_2.1 z_2.2 e_3 (((hD (wX5 cI cS a0 a1 a2 a3 a4 a5 a6 a7 a8 a9 a10 a11 nw kp ad fd tp kn it wd sz nm mv ik td bg en so va iw im st ht) rfl).sub [0, 1, 2, 3, 4, 5, 6, 7, 8, 9, 10, 11] (by decide) rfl).weaken (fun _ _ _ _ => trivial))) RX5 gX5_change_X5_finding rfl ⟨rfl, rfl⟩ pdX5_finding rfl ⟨Nat.le_of_ble_eq_true rfl, Nat.le_of_ble_eq_true rfl⟩ (fun _ _ _ _ q => q) (va_recv hE.1 hPc (ci := 4) (q0 := 0) rfl rfl) (fun U hU _ _ => by rw [hU]; exact hPc) hl.1 rfl (Nat.le_of_ble_eq_true rfl) dX5_change_32 ⟨Nat.zero_le _, Nat.zero_le _⟩) hP (hD _ rfl) hS rfl rfl rfl (fun H locs hP hS => ?_)
    obtain ⟨q0, g0⟩ := Prod.mk.inj (Option.some.inj h)
    obtain ⟨q1, q2⟩ := Prod.mk.inj g0
    subst q0 q1 q2
    exact eMi C0 hP hS rfl rfl dX5_change_35
  · have h := ifn c_1 h
    refine lv_iload_n hx hb dX5_change_8 rfl (lv_at hl 2 rfl) ?_
    refine lv_iload_n hx hb dX5_change_9 rfl (lv_at hl 3 rfl) ?_
    refine kRi (rS C0 (tX5_isField l D cI cS v2 v3 (fX5_isField v2 v3) rfl) gX5_change_X5_isField rfl ⟨rfl, rfl⟩ pdX5_isField rfl ⟨Nat.le_of_ble_eq_true rfl, Nat.le_of_ble_eq_true rfl⟩ (fun _ _ _ _ q => q) (fun _ _ _ _ => vp0) hl.1 rfl (Nat.le_of_ble_eq_true rfl) dX5_change_10 ⟨Nat.zero_le _, Nat.zero_le _⟩) ?_
    refine lv_if_eq (tgt := 29) hx hb dX5_change_13 (by decide) (fun c_4 => ?_) (fun c_4 => ?_)
    · have h := ifp c_4 h
      refine lv_aload_n hx hb dX5_change_29 rfl (lv_at hl 0 rfl) ?_
      refine lv_ldc (v := (-1000001)) hx hb hown (hts _ (List.mem_of_getElem? (i := 1) rfl)) dX5_change_30 ?_
      obtain ⟨z_5, e_6, h⟩ := bds h
      have hPc := hP.sub (ws' := (wX5 cI cS a0 a1 a2 a3 a4 a5 a6 a7 a8 a9 a10 a11 nw kp ad fd tp kn it wd sz nm mv ik td bg en so va iw im st ht)) [0, 1, 2, 3, 4, 5, 6, 7, 8, 9, 10, 11] rfl
      refine kMi (wf' := (wX5 cI cS a0 a1 a2 a3 a4 a5 a6 a7 a8 a9 a10 a11 nw kp ad z_5.2 tp kn it wd sz nm mv ik td bg en so va iw im st ht)) [0, 1, 2, 3, 4, 5, 6, 7, 8, 9, 10, 11] [some 0, some 1, some 2, some 3, some 4, some 5, some 6, some 7, some 8, some 9, some 10, some 11] (rV C0 (tX5_finding l D cI cS a0 a1 a2 a3 a4 a5 a6 a7 a8 a9 a10 a11 nw kp ad fd tp kn it wd sz nm mv ik td bg en so va iw im st ht (-1000001) z_5.1 z_5.2 e_6 (((hD (wX5 cI cS a0 a1 a2 a3 a4 a5 a6 a7 a8 a9 a10 a11 nw kp ad fd tp kn it wd sz nm mv ik td bg en so va iw im st ht) rfl).sub [0, 1, 2, 3, 4, 5, 6, 7, 8, 9, 10, 11] (by decide) rfl).weaken (fun _ _ _ _ => trivial))) RX5 gX5_change_X5_finding rfl ⟨rfl, rfl⟩ pdX5_finding rfl ⟨Nat.le_of_ble_eq_true rfl, Nat.le_of_ble_eq_true rfl⟩ (fun _ _ _ _ q => q) (va_recv hE.1 hPc (ci := 4) (q0 := 0) rfl rfl) (fun U hU _ _ => by rw [hU]; exact hPc) hl.1 rfl (Nat.le_of_ble_eq_true rfl) dX5_change_32 ⟨Nat.zero_le _, Nat.zero_le _⟩) hP (hD _ rfl) hS rfl rfl rfl (fun H locs hP hS => ?_)
      obtain ⟨q0, g0⟩ := Prod.mk.inj (Option.some.inj h)
      obtain ⟨q1, q2⟩ := Prod.mk.inj g0
      subst q0 q1 q2
      exact eMi C0 hP hS rfl rfl dX5_change_35
    · have h := ifn c_4 h
      refine lv_aload_n hx hb dX5_change_16 rfl (lv_at hl 0 rfl) ?_
      refine lv_iload_n hx hb dX5_change_17 rfl (lv_at hl 1 rfl) ?_
      refine lv_iload_n hx hb dX5_change_18 rfl (lv_at hl 2 rfl) ?_
      refine kRi (rS C0 (tX5_sayingAt l D cI cS v1 v2 (fX5_sayingAt v1 v2) rfl) gX5_change_X5_sayingAt rfl ⟨rfl, rfl⟩ pdX5_sayingAt rfl ⟨Nat.le_of_ble_eq_true rfl, Nat.le_of_ble_eq_true rfl⟩ (fun _ _ _ _ q => q) (fun _ _ _ _ => vp0) hl.1 rfl (Nat.le_of_ble_eq_true rfl) dX5_change_19 ⟨Nat.zero_le _, Nat.zero_le _⟩) ?_
      refine lv_iload_n hx hb dX5_change_22 rfl (lv_at hl 3 rfl) ?_
      obtain ⟨z_7, e_8, h⟩ := bds h
      have hPc := hP.sub (ws' := (wX5 cI cS a0 a1 a2 a3 a4 a5 a6 a7 a8 a9 a10 a11 nw kp ad fd tp kn it wd sz nm mv ik td bg en so va iw im st ht)) [0, 1, 2, 3, 4, 5, 6, 7, 8, 9, 10, 11] rfl
      refine kMi (wf' := (wX5 cI cS a0 a1 a2 a3 a4 a5 a6 a7 a8 a9 a10 a11 z_7.2 kp ad fd tp kn it wd sz nm mv ik td bg en so va iw im st ht)) [0, 1, 2, 3, 4, 5, 6, 7, 8, 9, 10, 11] [some 0, some 1, some 2, some 3, some 4, some 5, some 6, some 7, some 8, some 9, some 10, some 11] (rV C0 (tX5_become l D cI cS a0 a1 a2 a3 a4 a5 a6 a7 a8 a9 a10 a11 nw kp ad fd tp kn it wd sz nm mv ik td bg en so va iw im st ht (fX5_sayingAt v1 v2) v3 z_7.1 z_7.2 e_8 (((hD (wX5 cI cS a0 a1 a2 a3 a4 a5 a6 a7 a8 a9 a10 a11 nw kp ad fd tp kn it wd sz nm mv ik td bg en so va iw im st ht) rfl).sub [0, 1, 2, 3, 4, 5, 6, 7, 8, 9, 10, 11] (by decide) rfl).weaken (fun _ _ _ _ => trivial))) RX5 gX5_change_X5_become rfl ⟨rfl, rfl⟩ pdX5_become rfl ⟨Nat.le_of_ble_eq_true rfl, Nat.le_of_ble_eq_true rfl⟩ (fun _ _ _ _ q => q) (va_recv hE.1 hPc (ci := 4) (q0 := 0) rfl rfl) (fun U hU _ _ => by rw [hU]; exact hPc) hl.1 rfl (Nat.le_of_ble_eq_true rfl) dX5_change_23 ⟨Nat.zero_le _, Nat.zero_le _⟩) hP (hD _ rfl) hS rfl rfl rfl (fun H locs hP hS => ?_)
      refine lv_goto (tgt := 35) hx hb dX5_change_26 (by decide) ?_
      obtain ⟨q0, g0⟩ := Prod.mk.inj (Option.some.inj h)
      obtain ⟨q1, q2⟩ := Prod.mk.inj g0
      subst q0 q1 q2
      exact eMi C0 hP hS rfl rfl dX5_change_35
def fX5_ofShip (nw : Nat → Int32) (fd : Nat → Int32) (v1 : Int32) (v2 : Int32) : Option (Int32 × (Nat → Int32)) := (if (fX5_isShip nw v1) = 0 then Option.bind (fX5_finding fd (-1000001)) (fun z_2 => some (z_2.1, z_2.2)) else (if (fX5_within v2 0 3) = 0 then Option.bind (fX5_finding fd (-1000001)) (fun z_5 => some (z_5.1, z_5.2)) else Option.bind (fX5_shipIs nw v1 v2) (fun z_7 => some (z_7, fd))))
abbrev rmX5_ofShip : Room := { frames := 2, cells := 0, slots := 0, locals := 43 }
theorem pdX5_ofShip : (yX5_ofShip.cls = RX5 ∧ yX5_ofShip.cls ≠ "java/lang/invoke/MethodHandle" ∧ yX5_ofShip.cls ≠ "java/lang/invoke/VarHandle" ∧ (parseMethodDescriptor yX5_ofShip.desc).map (fun d => d.parameters.length) = some 2) := by decide +kernel
set_option maxHeartbeats 4000000 in
set_option maxRecDepth 100000 in
theorem tX5_ofShip (l : Launch) (D : va_G) (cI cS : ClassId) (a0 a1 a2 a3 a4 a5 a6 a7 a8 a9 a10 a11 : Nat) (nw : Nat → Int32) (kp : Nat → Int32) (ad : Nat → Int32) (fd : Nat → Int32) (tp : Nat → Int32) (kn : Nat → Option Nat) (it : Nat → Int32) (wd : Nat → Int32) (sz : Nat → Int32) (nm : Nat → Int32) (mv : Nat → Int32) (ik : Int32) (td : Int32) (bg : Int32) (en : Int32) (so : Int32) (va : Int32) (iw : Int32) (im : Int32) (st : Int32) (ht : Int32) (v1 : Int32) (v2 : Int32) (z0 : Int32) (z1 : Nat → Int32) (h : fX5_ofShip nw fd v1 v2 = some (z0, z1)) (hD0 : va_D (fun _ => True) (wX5 cI cS a0 a1 a2 a3 a4 a5 a6 a7 a8 a9 a10 a11 nw kp ad fd tp kn it wd sz nm mv ik td bg en so va iw im st ht)) : Met l yX5_ofShip wsX5_ofShip rmX5_ofShip (PZ D cI cS [.ref a0, .int v1, .int v2] (fun U => va_P D vwCl (wX5 cI cS a0 a1 a2 a3 a4 a5 a6 a7 a8 a9 a10 a11 nw kp ad fd tp kn it wd sz nm mv ik td bg en so va iw im st ht) U.heap)) (qI D (wX5 cI cS a0 a1 a2 a3 a4 a5 a6 a7 a8 a9 a10 a11 nw kp ad fd tp kn it wd sz nm mv ik td bg en so va iw im st ht) (wX5 cI cS a0 a1 a2 a3 a4 a5 a6 a7 a8 a9 a10 a11 nw kp ad z1 tp kn it wd sz nm mv ik td bg en so va iw im st ht) z0) 0 0 (wA (wX5 cI cS a0 a1 a2 a3 a4 a5 a6 a7 a8 a9 a10 a11 nw kp ad fd tp kn it wd sz nm mv ik td bg en so va iw im st ht)) := by
  refine Met.mk RX5 (by decide) rfl rfl (Nat.le_of_ble_eq_true rfl) ?_
  intro p e s m below meth c ls C0 hP hl
  have hl : lv_has ls 3 [(0, .ref a0), (1, .int v1), (2, .int v2)] := hl
  obtain ⟨hx, hb, hr, hml, hown, hts, hlk, hE⟩ := id C0
  have hD : ∀ W : va_W, W.map Prod.fst = [a0, a1, a2, a3, a4, a5, a6, a7, a8, a9, a10, a11] → va_D (wA (wX5 cI cS a0 a1 a2 a3 a4 a5 a6 a7 a8 a9 a10 a11 nw kp ad fd tp kn it wd sz nm mv ik td bg en so va iw im st ht)) W := fun W hW => hD0.own.re hW
  have hS : va_S (wA (wX5 cI cS a0 a1 a2 a3 a4 a5 a6 a7 a8 a9 a10 a11 nw kp ad fd tp kn it wd sz nm mv ik td bg en so va iw im st ht)) s.heap s.heap [] := va_S.rf
  have hP : va_P D vwCl (wX5 cI cS a0 a1 a2 a3 a4 a5 a6 a7 a8 a9 a10 a11 nw kp ad fd tp kn it wd sz nm mv ik td bg en so va iw im st ht) s.heap := hP
  rw [fX5_ofShip] at h
  refine lv_aload_n hx hb dX5_ofShip_0 rfl (lv_at hl 0 rfl) ?_
  refine lv_iload_n hx hb dX5_ofShip_1 rfl (lv_at hl 1 rfl) ?_
  have hPc := hP.sub (ws' := (wX5 cI cS a0 a1 a2 a3 a4 a5 a6 a7 a8 a9 a10 a11 nw kp ad fd tp kn it wd sz nm mv ik td bg en so va iw im st ht)) [0, 1, 2, 3, 4, 5, 6, 7, 8, 9, 10, 11] rfl
  refine kRi (rV C0 (tX5_isShip l D cI cS a0 a1 a2 a3 a4 a5 a6 a7 a8 a9 a10 a11 nw kp ad fd tp kn it wd sz nm mv ik td bg en so va iw im st ht v1 (fX5_isShip nw v1) rfl) RX5 gX5_ofShip_X5_isShip rfl ⟨rfl, rfl⟩ pdX5_isShip rfl ⟨Nat.le_of_ble_eq_true rfl, Nat.le_of_ble_eq_true rfl⟩ (fun _ _ _ _ q => q) (va_recv hE.1 hPc (ci := 4) (q0 := 0) rfl rfl) (fun U hU _ _ => by rw [hU]; exact hPc) hl.1 rfl (Nat.le_of_ble_eq_true rfl) dX5_ofShip_2 ⟨Nat.zero_le _, Nat.zero_le _⟩) ?_
  refine lv_if_eq (tgt := 26) hx hb dX5_ofShip_5 (by decide) (fun c_1 => ?_) (fun c_1 => ?_)
  · have h := ifp c_1 h
    refine lv_aload_n hx hb dX5_ofShip_26 rfl (lv_at hl 0 rfl) ?_
    refine lv_ldc (v := (-1000001)) hx hb hown (hts _ (List.mem_of_getElem? (i := 1) rfl)) dX5_ofShip_27 ?_
    obtain ⟨z_2, e_3, h⟩ := bds h
    have hPc := hP.sub (ws' := (wX5 cI cS a0 a1 a2 a3 a4 a5 a6 a7 a8 a9 a10 a11 nw kp ad fd tp kn it wd sz nm mv ik td bg en so va iw im st ht)) [0, 1, 2, 3, 4, 5, 6, 7, 8, 9, 10, 11] rfl
    refine kMi (wf' := (wX5 cI cS a0 a1 a2 a3 a4 a5 a6 a7 a8 a9 a10 a11 nw kp ad z_2.2 tp kn it wd sz nm mv ik td bg en so va iw im st ht)) [0, 1, 2, 3, 4, 5, 6, 7, 8, 9, 10, 11] [some 0, some 1, some 2, some 3, some 4, some 5, some 6, some 7, some 8, some 9, some 10, some 11] (rV C0 (tX5_finding l D cI cS a0 a1 a2 a3 a4 a5 a6 a7 a8 a9 a10 a11 nw kp ad fd tp kn it wd sz nm mv ik td bg en so va iw im st ht (-1000001) z_2.1 z_2.2 e_3 (((hD (wX5 cI cS a0 a1 a2 a3 a4 a5 a6 a7 a8 a9 a10 a11 nw kp ad fd tp kn it wd sz nm mv ik td bg en so va iw im st ht) rfl).sub [0, 1, 2, 3, 4, 5, 6, 7, 8, 9, 10, 11] (by decide) rfl).weaken (fun _ _ _ _ => trivial))) RX5 gX5_ofShip_X5_finding rfl ⟨rfl, rfl⟩ pdX5_finding rfl ⟨Nat.le_of_ble_eq_true rfl, Nat.le_of_ble_eq_true rfl⟩ (fun _ _ _ _ q => q) (va_recv hE.1 hPc (ci := 4) (q0 := 0) rfl rfl) (fun U hU _ _ => by rw [hU]; exact hPc) hl.1 rfl (Nat.le_of_ble_eq_true rfl) dX5_ofShip_29 ⟨Nat.zero_le _, Nat.zero_le _⟩) hP (hD _ rfl) hS rfl rfl rfl (fun H locs hP hS => ?_)
    obtain ⟨q0, q1⟩ := Prod.mk.inj (Option.some.inj h)
    subst q0 q1
    exact eMi C0 hP hS rfl rfl dX5_ofShip_32
  · have h := ifn c_1 h
    refine lv_iload_n hx hb dX5_ofShip_8 rfl (lv_at hl 2 rfl) ?_
    refine lv_iconst (v := 0) hx hb dX5_ofShip_9 (by decide) ?_
    refine lv_iconst (v := 3) hx hb dX5_ofShip_10 (by decide) ?_
    refine kRi (rS C0 (tX5_within l D cI cS v2 0 3 (fX5_within v2 0 3) rfl) gX5_ofShip_X5_within rfl ⟨rfl, rfl⟩ pdX5_within rfl ⟨Nat.le_of_ble_eq_true rfl, Nat.le_of_ble_eq_true rfl⟩ (fun _ _ _ _ q => q) (fun _ _ _ _ => vp0) hl.1 rfl (Nat.le_of_ble_eq_true rfl) dX5_ofShip_11 ⟨Nat.zero_le _, Nat.zero_le _⟩) ?_
    refine lv_if_eq (tgt := 26) hx hb dX5_ofShip_14 (by decide) (fun c_4 => ?_) (fun c_4 => ?_)
    · have h := ifp c_4 h
      refine lv_aload_n hx hb dX5_ofShip_26 rfl (lv_at hl 0 rfl) ?_
      refine lv_ldc (v := (-1000001)) hx hb hown (hts _ (List.mem_of_getElem? (i := 1) rfl)) dX5_ofShip_27 ?_
      obtain ⟨z_5, e_6, h⟩ := bds h
      have hPc := hP.sub (ws' := (wX5 cI cS a0 a1 a2 a3 a4 a5 a6 a7 a8 a9 a10 a11 nw kp ad fd tp kn it wd sz nm mv ik td bg en so va iw im st ht)) [0, 1, 2, 3, 4, 5, 6, 7, 8, 9, 10, 11] rfl
      refine kMi (wf' := (wX5 cI cS a0 a1 a2 a3 a4 a5 a6 a7 a8 a9 a10 a11 nw kp ad z_5.2 tp kn it wd sz nm mv ik td bg en so va iw im st ht)) [0, 1, 2, 3, 4, 5, 6, 7, 8, 9, 10, 11] [some 0, some 1, some 2, some 3, some 4, some 5, some 6, some 7, some 8, some 9, some 10, some 11] (rV C0 (tX5_finding l D cI cS a0 a1 a2 a3 a4 a5 a6 a7 a8 a9 a10 a11 nw kp ad fd tp kn it wd sz nm mv ik td bg en so va iw im st ht (-1000001) z_5.1 z_5.2 e_6 (((hD (wX5 cI cS a0 a1 a2 a3 a4 a5 a6 a7 a8 a9 a10 a11 nw kp ad fd tp kn it wd sz nm mv ik td bg en so va iw im st ht) rfl).sub [0, 1, 2, 3, 4, 5, 6, 7, 8, 9, 10, 11] (by decide) rfl).weaken (fun _ _ _ _ => trivial))) RX5 gX5_ofShip_X5_finding rfl ⟨rfl, rfl⟩ pdX5_finding rfl ⟨Nat.le_of_ble_eq_true rfl, Nat.le_of_ble_eq_true rfl⟩ (fun _ _ _ _ q => q) (va_recv hE.1 hPc (ci := 4) (q0 := 0) rfl rfl) (fun U hU _ _ => by rw [hU]; exact hPc) hl.1 rfl (Nat.le_of_ble_eq_true rfl) dX5_ofShip_29 ⟨Nat.zero_le _, Nat.zero_le _⟩) hP (hD _ rfl) hS rfl rfl rfl (fun H locs hP hS => ?_)
      obtain ⟨q0, q1⟩ := Prod.mk.inj (Option.some.inj h)
      subst q0 q1
      exact eMi C0 hP hS rfl rfl dX5_ofShip_32
    · have h := ifn c_4 h
      refine lv_aload_n hx hb dX5_ofShip_17 rfl (lv_at hl 0 rfl) ?_
      refine lv_iload_n hx hb dX5_ofShip_18 rfl (lv_at hl 1 rfl) ?_
      refine lv_iload_n hx hb dX5_ofShip_19 rfl (lv_at hl 2 rfl) ?_
      obtain ⟨z_7, e_8, h⟩ := bds h
      have hPc := hP.sub (ws' := (wX5 cI cS a0 a1 a2 a3 a4 a5 a6 a7 a8 a9 a10 a11 nw kp ad fd tp kn it wd sz nm mv ik td bg en so va iw im st ht)) [0, 1, 2, 3, 4, 5, 6, 7, 8, 9, 10, 11] rfl
      refine kRi (rV C0 (tX5_shipIs l D cI cS a0 a1 a2 a3 a4 a5 a6 a7 a8 a9 a10 a11 nw kp ad fd tp kn it wd sz nm mv ik td bg en so va iw im st ht v1 v2 z_7 e_8) RX5 gX5_ofShip_X5_shipIs rfl ⟨rfl, rfl⟩ pdX5_shipIs rfl ⟨Nat.le_of_ble_eq_true rfl, Nat.le_of_ble_eq_true rfl⟩ (fun _ _ _ _ q => q) (va_recv hE.1 hPc (ci := 4) (q0 := 0) rfl rfl) (fun U hU _ _ => by rw [hU]; exact hPc) hl.1 rfl (Nat.le_of_ble_eq_true rfl) dX5_ofShip_20 ⟨Nat.zero_le _, Nat.zero_le _⟩) ?_
      refine lv_goto (tgt := 32) hx hb dX5_ofShip_23 (by decide) ?_
      obtain ⟨q0, q1⟩ := Prod.mk.inj (Option.some.inj h)
      subst q0 q1
      exact eMi C0 hP hS rfl rfl dX5_ofShip_32
def fX5_isShipField (v0 : Int32) (v1 : Int32) : Int32 := (if v0 = 0 then (fX5_isCell v1) else if v0 = 1 then (fX5_isMany v1) else if v0 = 2 then (fX5_isFast v1) else if v0 = 3 then (fX5_within v1 0 9999) else 0)
abbrev rmX5_isShipField : Room := { frames := 2, cells := 0, slots := 0, locals := 42 }
theorem pdX5_isShipField : (yX5_isShipField.cls ≠ "java/lang/invoke/MethodHandle" ∧ yX5_isShipField.cls ≠ "java/lang/invoke/VarHandle" ∧ (parseMethodDescriptor yX5_isShipField.desc).map (fun d => d.parameters.length) = some 2) := by decide +kernel
set_option maxHeartbeats 4000000 in
set_option maxRecDepth 100000 in
theorem tX5_isShipField (l : Launch) (D : va_G) (cI cS : ClassId) (v0 : Int32) (v1 : Int32) (z0 : Int32) (h : fX5_isShipField v0 v1 = z0) : Met l yX5_isShipField wsX5_isShipField rmX5_isShipField (PZ D cI cS [.int v0, .int v1] (fun U => va_P D vwCl ([] : va_W) U.heap)) (vp_Si (fun x => x = z0)) 0 0 (fun _ => False) := by
  refine Met.mk RX5 (by decide) rfl rfl (Nat.le_of_ble_eq_true rfl) ?_
  intro p e s m below meth c ls C0 hP hl
  have hl : lv_has ls 2 [(0, .int v0), (1, .int v1)] := hl
  obtain ⟨hx, hb, hr, hml, hown, hts, hlk, hE⟩ := id C0
  rw [fX5_isShipField] at h
  refine lv_iload_n hx hb dX5_isShipField_0 rfl (lv_at hl 0 rfl) ?_
  by_cases c_1 : v0 = 0
  · have h := ifp c_1 h
    refine lv_tableIn (tgt := 32) hx hb dX5_isShipField_1 (by rw [c_1]; decide) (by rw [c_1]; decide) (by rw [c_1]; rfl) (by decide) ?_
    refine lv_iload_n hx hb dX5_isShipField_32 rfl (lv_at hl 1 rfl) ?_
    refine kRi (rS C0 (tX5_isCell l D cI cS v1 (fX5_isCell v1) rfl) gX5_isShipField_X5_isCell rfl ⟨rfl, rfl⟩ pdX5_isCell rfl ⟨Nat.le_of_ble_eq_true rfl, Nat.le_of_ble_eq_true rfl⟩ (fun _ _ _ _ q => q) (fun _ _ _ _ => vp0) hl.1 rfl (Nat.le_of_ble_eq_true rfl) dX5_isShipField_33 ⟨Nat.zero_le _, Nat.zero_le _⟩) ?_
    exact eRz C0 (zzX5_isCell ..) h dX5_isShipField_36
  have h := ifn c_1 h
  by_cases c_2 : v0 = 1
  · have h := ifp c_2 h
    refine lv_tableIn (tgt := 37) hx hb dX5_isShipField_1 (by rw [c_2]; decide) (by rw [c_2]; decide) (by rw [c_2]; rfl) (by decide) ?_
    refine lv_iload_n hx hb dX5_isShipField_37 rfl (lv_at hl 1 rfl) ?_
    refine kRi (rS C0 (tX5_isMany l D cI cS v1 (fX5_isMany v1) rfl) gX5_isShipField_X5_isMany rfl ⟨rfl, rfl⟩ pdX5_isMany rfl ⟨Nat.le_of_ble_eq_true rfl, Nat.le_of_ble_eq_true rfl⟩ (fun _ _ _ _ q => q) (fun _ _ _ _ => vp0) hl.1 rfl (Nat.le_of_ble_eq_true rfl) dX5_isShipField_38 ⟨Nat.zero_le _, Nat.zero_le _⟩) ?_
    exact eRz C0 (zzX5_isMany ..) h dX5_isShipField_41
  have h := ifn c_2 h
  by_cases c_3 : v0 = 2
  · have h := ifp c_3 h
    refine lv_tableIn (tgt := 42) hx hb dX5_isShipField_1 (by rw [c_3]; decide) (by rw [c_3]; decide) (by rw [c_3]; rfl) (by decide) ?_
    refine lv_iload_n hx hb dX5_isShipField_42 rfl (lv_at hl 1 rfl) ?_
    refine kRi (rS C0 (tX5_isFast l D cI cS v1 (fX5_isFast v1) rfl) gX5_isShipField_X5_isFast rfl ⟨rfl, rfl⟩ pdX5_isFast rfl ⟨Nat.le_of_ble_eq_true rfl, Nat.le_of_ble_eq_true rfl⟩ (fun _ _ _ _ q => q) (fun _ _ _ _ => vp0) hl.1 rfl (Nat.le_of_ble_eq_true rfl) dX5_isShipField_43 ⟨Nat.zero_le _, Nat.zero_le _⟩) ?_
    exact eRz C0 (zzX5_isFast ..) h dX5_isShipField_46
  have h := ifn c_3 h
  by_cases c_4 : v0 = 3
  · have h := ifp c_4 h
    refine lv_tableIn (tgt := 47) hx hb dX5_isShipField_1 (by rw [c_4]; decide) (by rw [c_4]; decide) (by rw [c_4]; rfl) (by decide) ?_
    refine lv_iload_n hx hb dX5_isShipField_47 rfl (lv_at hl 1 rfl) ?_
    refine lv_iconst (v := 0) hx hb dX5_isShipField_48 (by decide) ?_
    refine lv_sipush (v := 9999) hx hb dX5_isShipField_49 (by decide) ?_
    refine kRi (rS C0 (tX5_within l D cI cS v1 0 9999 (fX5_within v1 0 9999) rfl) gX5_isShipField_X5_within rfl ⟨rfl, rfl⟩ pdX5_within rfl ⟨Nat.le_of_ble_eq_true rfl, Nat.le_of_ble_eq_true rfl⟩ (fun _ _ _ _ q => q) (fun _ _ _ _ => vp0) hl.1 rfl (Nat.le_of_ble_eq_true rfl) dX5_isShipField_52 ⟨Nat.zero_le _, Nat.zero_le _⟩) ?_
    exact eRz C0 (zzX5_within ..) h dX5_isShipField_55
  have h := ifn c_4 h
  refine lv_tableOut (tgt := 56) hx hb dX5_isShipField_1 (tb0 (tbS (k := 0) (by decide) c_1 (tbS (k := 1) (by decide) c_2 (tbS (k := 2) (by decide) c_3 (tbS (k := 3) (by decide) c_4 (tbE (by decide))))))) (by decide) ?_
  refine lv_iconst (v := 0) hx hb dX5_isShipField_56 (by decide) ?_
  exact eRz C0 rfl h dX5_isShipField_57
theorem zzX5_isShipField (v0 : Int32) (v1 : Int32) : narrow .boolean (.int (fX5_isShipField v0 v1)) = .int (fX5_isShipField v0 v1) := by unfold fX5_isShipField; (repeat' split) <;> first | rfl | exact zzX5_within .. | exact zzX5_isCell .. | exact zzX5_isMany .. | exact zzX5_isPlace .. | exact zzX5_isSaying .. | exact zzX5_isShip .. | exact zzX5_isKind .. | exact zzX5_isFast .. | exact zzX5_isField ..
def fX5_steer (nw : Nat → Int32) (fd : Nat → Int32) (v1 : Int32) (v2 : Int32) (v3 : Int32) : Option (Int32 × (Nat → Int32) × (Nat → Int32)) := (if (fX5_isShip nw v1) = 0 then Option.bind (fX5_finding fd (-1000001)) (fun z_2 => some (z_2.1, nw, z_2.2)) else (if (fX5_isShipField v2 v3) = 0 then Option.bind (fX5_finding fd (-1000001)) (fun z_5 => some (z_5.1, nw, z_5.2)) else Option.bind (fX5_become nw (fX5_shipAt v1 v2) v3) (fun z_7 => some (z_7.1, z_7.2, fd))))
abbrev rmX5_steer : Room := { frames := 3, cells := 0, slots := 0, locals := 63 }
theorem pdX5_steer : (yX5_steer.cls = RX5 ∧ yX5_steer.cls ≠ "java/lang/invoke/MethodHandle" ∧ yX5_steer.cls ≠ "java/lang/invoke/VarHandle" ∧ (parseMethodDescriptor yX5_steer.desc).map (fun d => d.parameters.length) = some 3) := by decide +kernel
set_option maxHeartbeats 4000000 in
set_option maxRecDepth 100000 in
theorem tX5_steer (l : Launch) (D : va_G) (cI cS : ClassId) (a0 a1 a2 a3 a4 a5 a6 a7 a8 a9 a10 a11 : Nat) (nw : Nat → Int32) (kp : Nat → Int32) (ad : Nat → Int32) (fd : Nat → Int32) (tp : Nat → Int32) (kn : Nat → Option Nat) (it : Nat → Int32) (wd : Nat → Int32) (sz : Nat → Int32) (nm : Nat → Int32) (mv : Nat → Int32) (ik : Int32) (td : Int32) (bg : Int32) (en : Int32) (so : Int32) (va : Int32) (iw : Int32) (im : Int32) (st : Int32) (ht : Int32) (v1 : Int32) (v2 : Int32) (v3 : Int32) (z0 : Int32) (z1 : Nat → Int32) (z2 : Nat → Int32) (h : fX5_steer nw fd v1 v2 v3 = some (z0, z1, z2)) (hD0 : va_D (fun _ => True) (wX5 cI cS a0 a1 a2 a3 a4 a5 a6 a7 a8 a9 a10 a11 nw kp ad fd tp kn it wd sz nm mv ik td bg en so va iw im st ht)) : Met l yX5_steer wsX5_steer rmX5_steer (PZ D cI cS [.ref a0, .int v1, .int v2, .int v3] (fun U => va_P D vwCl (wX5 cI cS a0 a1 a2 a3 a4 a5 a6 a7 a8 a9 a10 a11 nw kp ad fd tp kn it wd sz nm mv ik td bg en so va iw im st ht) U.heap)) (qI D (wX5 cI cS a0 a1 a2 a3 a4 a5 a6 a7 a8 a9 a10 a11 nw kp ad fd tp kn it wd sz nm mv ik td bg en so va iw im st ht) (wX5 cI cS a0 a1 a2 a3 a4 a5 a6 a7 a8 a9 a10 a11 z1 kp ad z2 tp kn it wd sz nm mv ik td bg en so va iw im st ht) z0) 0 0 (wA (wX5 cI cS a0 a1 a2 a3 a4 a5 a6 a7 a8 a9 a10 a11 nw kp ad fd tp kn it wd sz nm mv ik td bg en so va iw im st ht)) := by
  refine Met.mk RX5 (by decide) rfl rfl (Nat.le_of_ble_eq_true rfl) ?_
  intro p e s m below meth c ls C0 hP hl
  have hl : lv_has ls 4 [(0, .ref a0), (1, .int v1), (2, .int v2), (3, .int v3)] := hl
  obtain ⟨hx, hb, hr, hml, hown, hts, hlk, hE⟩ := id C0
  have hD : ∀ W : va_W, W.map Prod.fst = [a0, a1, a2, a3, a4, a5, a6, a7, a8, a9, a10, a11] → va_D (wA (wX5 cI cS a0 a1 a2 a3 a4 a5 a6 a7 a8 a9 a10 a11 nw kp ad fd tp kn it wd sz nm mv ik td bg en so va iw im st ht)) W := fun W hW => hD0.own.re hW
  have hS : va_S (wA (wX5 cI cS a0 a1 a2 a3 a4 a5 a6 a7 a8 a9 a10 a11 nw kp ad fd tp kn it wd sz nm mv ik td bg en so va iw im st ht)) s.heap s.heap [] := va_S.rf
  have hP : va_P D vwCl (wX5 cI cS a0 a1 a2 a3 a4 a5 a6 a7 a8 a9 a10 a11 nw kp ad fd tp kn it wd sz nm mv ik td bg en so va iw im st ht) s.heap := hP
  rw [fX5_steer] at h
  refine lv_aload_n hx hb dX5_steer_0 rfl (lv_at hl 0 rfl) ?_
  refine lv_iload_n hx hb dX5_steer_1 rfl (lv_at hl 1 rfl) ?_
  have hPc := hP.sub (ws' := (wX5 cI cS a0 a1 a2 a3 a4 a5 a6 a7 a8 a9 a10 a11 nw kp ad fd tp kn it wd sz nm mv ik td bg en so va iw im st ht)) [0, 1, 2, 3, 4, 5, 6, 7, 8, 9, 10, 11] rfl
  refine kRi (rV C0 (tX5_isShip l D cI cS a0 a1 a2 a3 a4 a5 a6 a7 a8 a9 a10 a11 nw kp ad fd tp kn it wd sz nm mv ik td bg en so va iw im st ht v1 (fX5_isShip nw v1) rfl) RX5 gX5_steer_X5_isShip rfl ⟨rfl, rfl⟩ pdX5_isShip rfl ⟨Nat.le_of_ble_eq_true rfl, Nat.le_of_ble_eq_true rfl⟩ (fun _ _ _ _ q => q) (va_recv hE.1 hPc (ci := 4) (q0 := 0) rfl rfl) (fun U hU _ _ => by rw [hU]; exact hPc) hl.1 rfl (Nat.le_of_ble_eq_true rfl) dX5_steer_2 ⟨Nat.zero_le _, Nat.zero_le _⟩) ?_
  refine lv_if_eq (tgt := 29) hx hb dX5_steer_5 (by decide) (fun c_1 => ?_) (fun c_1 => ?_)
  · have h := ifp c_1 h
    refine lv_aload_n hx hb dX5_steer_29 rfl (lv_at hl 0 rfl) ?_
    refine lv_ldc (v := (-1000001)) hx hb hown (hts _ (List.mem_of_getElem? (i := 1) rfl)) dX5_steer_30 ?_
    obtain ⟨z_2, e_3, h⟩ := bds h
    have hPc := hP.sub (ws' := (wX5 cI cS a0 a1 a2 a3 a4 a5 a6 a7 a8 a9 a10 a11 nw kp ad fd tp kn it wd sz nm mv ik td bg en so va iw im st ht)) [0, 1, 2, 3, 4, 5, 6, 7, 8, 9, 10, 11] rfl
    refine kMi (wf' := (wX5 cI cS a0 a1 a2 a3 a4 a5 a6 a7 a8 a9 a10 a11 nw kp ad z_2.2 tp kn it wd sz nm mv ik td bg en so va iw im st ht)) [0, 1, 2, 3, 4, 5, 6, 7, 8, 9, 10, 11] [some 0, some 1, some 2, some 3, some 4, some 5, some 6, some 7, some 8, some 9, some 10, some 11] (rV C0 (tX5_finding l D cI cS a0 a1 a2 a3 a4 a5 a6 a7 a8 a9 a10 a11 nw kp ad fd tp kn it wd sz nm mv ik td bg en so va iw im st ht (-1000001) z_2.1 z_2.2 e_3 (((hD (wX5 cI cS a0 a1 a2 a3 a4 a5 a6 a7 a8 a9 a10 a11 nw kp ad fd tp kn it wd sz nm mv ik td bg en so va iw im st ht) rfl).sub [0, 1, 2, 3, 4, 5, 6, 7, 8, 9, 10, 11] (by decide) rfl).weaken (fun _ _ _ _ => trivial))) RX5 gX5_steer_X5_finding rfl ⟨rfl, rfl⟩ pdX5_finding rfl ⟨Nat.le_of_ble_eq_true rfl, Nat.le_of_ble_eq_true rfl⟩ (fun _ _ _ _ q => q) (va_recv hE.1 hPc (ci := 4) (q0 := 0) rfl rfl) (fun U hU _ _ => by rw [hU]; exact hPc) hl.1 rfl (Nat.le_of_ble_eq_true rfl) dX5_steer_32 ⟨Nat.zero_le _, Nat.zero_le _⟩) hP (hD _ rfl) hS rfl rfl rfl (fun H locs hP hS => ?_)
    obtain ⟨q0, g0⟩ := Prod.mk.inj (Option.some.inj h)
    obtain ⟨q1, q2⟩ := Prod.mk.inj g0
    subst q0 q1 q2
    exact eMi C0 hP hS rfl rfl dX5_steer_35
  · have h := ifn c_1 h
    refine lv_iload_n hx hb dX5_steer_8 rfl (lv_at hl 2 rfl) ?_
    refine lv_iload_n hx hb dX5_steer_9 rfl (lv_at hl 3 rfl) ?_
    refine kRi (rS C0 (tX5_isShipField l D cI cS v2 v3 (fX5_isShipField v2 v3) rfl) gX5_steer_X5_isShipField rfl ⟨rfl, rfl⟩ pdX5_isShipField rfl ⟨Nat.le_of_ble_eq_true rfl, Nat.le_of_ble_eq_true rfl⟩ (fun _ _ _ _ q => q) (fun _ _ _ _ => vp0) hl.1 rfl (Nat.le_of_ble_eq_true rfl) dX5_steer_10 ⟨Nat.zero_le _, Nat.zero_le _⟩) ?_
    refine lv_if_eq (tgt := 29) hx hb dX5_steer_13 (by decide) (fun c_4 => ?_) (fun c_4 => ?_)
    · have h := ifp c_4 h
      refine lv_aload_n hx hb dX5_steer_29 rfl (lv_at hl 0 rfl) ?_
      refine lv_ldc (v := (-1000001)) hx hb hown (hts _ (List.mem_of_getElem? (i := 1) rfl)) dX5_steer_30 ?_
      obtain ⟨z_5, e_6, h⟩ := bds h
      have hPc := hP.sub (ws' := (wX5 cI cS a0 a1 a2 a3 a4 a5 a6 a7 a8 a9 a10 a11 nw kp ad fd tp kn it wd sz nm mv ik td bg en so va iw im st ht)) [0, 1, 2, 3, 4, 5, 6, 7, 8, 9, 10, 11] rfl
      refine kMi (wf' := (wX5 cI cS a0 a1 a2 a3 a4 a5 a6 a7 a8 a9 a10 a11 nw kp ad z_5.2 tp kn it wd sz nm mv ik td bg en so va iw im st ht)) [0, 1, 2, 3, 4, 5, 6, 7, 8, 9, 10, 11] [some 0, some 1, some 2, some 3, some 4, some 5, some 6, some 7, some 8, some 9, some 10, some 11] (rV C0 (tX5_finding l D cI cS a0 a1 a2 a3 a4 a5 a6 a7 a8 a9 a10 a11 nw kp ad fd tp kn it wd sz nm mv ik td bg en so va iw im st ht (-1000001) z_5.1 z_5.2 e_6 (((hD (wX5 cI cS a0 a1 a2 a3 a4 a5 a6 a7 a8 a9 a10 a11 nw kp ad fd tp kn it wd sz nm mv ik td bg en so va iw im st ht) rfl).sub [0, 1, 2, 3, 4, 5, 6, 7, 8, 9, 10, 11] (by decide) rfl).weaken (fun _ _ _ _ => trivial))) RX5 gX5_steer_X5_finding rfl ⟨rfl, rfl⟩ pdX5_finding rfl ⟨Nat.le_of_ble_eq_true rfl, Nat.le_of_ble_eq_true rfl⟩ (fun _ _ _ _ q => q) (va_recv hE.1 hPc (ci := 4) (q0 := 0) rfl rfl) (fun U hU _ _ => by rw [hU]; exact hPc) hl.1 rfl (Nat.le_of_ble_eq_true rfl) dX5_steer_32 ⟨Nat.zero_le _, Nat.zero_le _⟩) hP (hD _ rfl) hS rfl rfl rfl (fun H locs hP hS => ?_)
      obtain ⟨q0, g0⟩ := Prod.mk.inj (Option.some.inj h)
      obtain ⟨q1, q2⟩ := Prod.mk.inj g0
      subst q0 q1 q2
      exact eMi C0 hP hS rfl rfl dX5_steer_35
    · have h := ifn c_4 h
      refine lv_aload_n hx hb dX5_steer_16 rfl (lv_at hl 0 rfl) ?_
      refine lv_iload_n hx hb dX5_steer_17 rfl (lv_at hl 1 rfl) ?_
      refine lv_iload_n hx hb dX5_steer_18 rfl (lv_at hl 2 rfl) ?_
      refine kRi (rS C0 (tX5_shipAt l D cI cS v1 v2 (fX5_shipAt v1 v2) rfl) gX5_steer_X5_shipAt rfl ⟨rfl, rfl⟩ pdX5_shipAt rfl ⟨Nat.le_of_ble_eq_true rfl, Nat.le_of_ble_eq_true rfl⟩ (fun _ _ _ _ q => q) (fun _ _ _ _ => vp0) hl.1 rfl (Nat.le_of_ble_eq_true rfl) dX5_steer_19 ⟨Nat.zero_le _, Nat.zero_le _⟩) ?_
      refine lv_iload_n hx hb dX5_steer_22 rfl (lv_at hl 3 rfl) ?_
      obtain ⟨z_7, e_8, h⟩ := bds h
      have hPc := hP.sub (ws' := (wX5 cI cS a0 a1 a2 a3 a4 a5 a6 a7 a8 a9 a10 a11 nw kp ad fd tp kn it wd sz nm mv ik td bg en so va iw im st ht)) [0, 1, 2, 3, 4, 5, 6, 7, 8, 9, 10, 11] rfl
      refine kMi (wf' := (wX5 cI cS a0 a1 a2 a3 a4 a5 a6 a7 a8 a9 a10 a11 z_7.2 kp ad fd tp kn it wd sz nm mv ik td bg en so va iw im st ht)) [0, 1, 2, 3, 4, 5, 6, 7, 8, 9, 10, 11] [some 0, some 1, some 2, some 3, some 4, some 5, some 6, some 7, some 8, some 9, some 10, some 11] (rV C0 (tX5_become l D cI cS a0 a1 a2 a3 a4 a5 a6 a7 a8 a9 a10 a11 nw kp ad fd tp kn it wd sz nm mv ik td bg en so va iw im st ht (fX5_shipAt v1 v2) v3 z_7.1 z_7.2 e_8 (((hD (wX5 cI cS a0 a1 a2 a3 a4 a5 a6 a7 a8 a9 a10 a11 nw kp ad fd tp kn it wd sz nm mv ik td bg en so va iw im st ht) rfl).sub [0, 1, 2, 3, 4, 5, 6, 7, 8, 9, 10, 11] (by decide) rfl).weaken (fun _ _ _ _ => trivial))) RX5 gX5_steer_X5_become rfl ⟨rfl, rfl⟩ pdX5_become rfl ⟨Nat.le_of_ble_eq_true rfl, Nat.le_of_ble_eq_true rfl⟩ (fun _ _ _ _ q => q) (va_recv hE.1 hPc (ci := 4) (q0 := 0) rfl rfl) (fun U hU _ _ => by rw [hU]; exact hPc) hl.1 rfl (Nat.le_of_ble_eq_true rfl) dX5_steer_23 ⟨Nat.zero_le _, Nat.zero_le _⟩) hP (hD _ rfl) hS rfl rfl rfl (fun H locs hP hS => ?_)
      refine lv_goto (tgt := 35) hx hb dX5_steer_26 (by decide) ?_
      obtain ⟨q0, g0⟩ := Prod.mk.inj (Option.some.inj h)
      obtain ⟨q1, q2⟩ := Prod.mk.inj g0
      subst q0 q1 q2
      exact eMi C0 hP hS rfl rfl dX5_steer_35
def fX5_thickAt_4 (nw : Nat → Int32) (v1 : Int32) : Nat → Int32 → Int32 → Option (Int32)
  | 0, _, _ => none
  | n + 1, v2, v3 => (if (nw 1) ≤ v3 then some (if 0 < v2 then v2 else 0) else Option.bind (fX5_sayingIs nw v3 1) (fun z_2 => Option.bind (fX5_sayingIs nw v3 3) (fun z_4 => (if z_4 = 0 then Option.bind (fX5_reaches nw v3) (fun z_7 => (if z_7 < (if 0 ≤ (v1 - z_2) then v1 - z_2 else 0 - (v1 - z_2)) then fX5_thickAt_4 nw v1 n v2 (v3 + 1) else Option.bind (fX5_thickens nw v3) (fun z_10 => Option.bind (fX5_sayingIs nw v3 0) (fun z_12 => (if z_12 = 5 then fX5_thickAt_4 nw v1 n (v2 + (z_10 - ((if 0 ≤ (v1 - z_2) then v1 - z_2 else 0 - (v1 - z_2)) * (z_10 / 10)))) (v3 + 1) else fX5_thickAt_4 nw v1 n (v2 + (z_10 - ((if 0 ≤ (v1 - z_2) then v1 - z_2 else 0 - (v1 - z_2)) * (z_10 / 5)))) (v3 + 1)))))) else fX5_thickAt_4 nw v1 n v2 (v3 + 1)))))
def fX5_thickAt (F : Nat) (nw : Nat → Int32) (v1 : Int32) : Option (Int32) := fX5_thickAt_4 nw v1 F 0 0
abbrev rmX5_thickAt : Room := { frames := 3, cells := 0, slots := 0, locals := 66 }
theorem pdX5_thickAt : (yX5_thickAt.cls = RX5 ∧ yX5_thickAt.cls ≠ "java/lang/invoke/MethodHandle" ∧ yX5_thickAt.cls ≠ "java/lang/invoke/VarHandle" ∧ (parseMethodDescriptor yX5_thickAt.desc).map (fun d => d.parameters.length) = some 1) := by decide +kernel
set_option maxHeartbeats 4000000 in
set_option maxRecDepth 100000 in
theorem lX5_thickAt_4 {p : Program} {l : Launch} {e : Env} {s : State} {m : MethodId} {av : Array Value} {below : List Frame} {meth : Method} {c : Code} {D : va_G} {cI cS : ClassId} {a0 a1 a2 a3 a4 a5 a6 a7 a8 a9 a10 a11 : Nat} (C0 : CX p s m av meth c RX5 cX5_thickAt 6 (some .int) wsX5_thickAt D cI cS) (F : Nat) (nw : Nat → Int32) (kp : Nat → Int32) (ad : Nat → Int32) (fd : Nat → Int32) (tp : Nat → Int32) (kn : Nat → Option Nat) (it : Nat → Int32) (wd : Nat → Int32) (sz : Nat → Int32) (nm : Nat → Int32) (mv : Nat → Int32) (ik : Int32) (td : Int32) (bg : Int32) (en : Int32) (so : Int32) (va : Int32) (iw : Int32) (im : Int32) (st : Int32) (ht : Int32) (v1 : Int32) (z0 : Int32) (hP : va_P D vwCl (wX5 cI cS a0 a1 a2 a3 a4 a5 a6 a7 a8 a9 a10 a11 nw kp ad fd tp kn it wd sz nm mv ik td bg en so va iw im st ht) s.heap) : ∀ (n : Nat) (v2 : Int32) (v3 : Int32), ∀ (ls : Array Slot), lv_has ls 6 [(0, .ref a0), (1, .int v1), (2, .int v2), (3, .int v3)] → fX5_thickAt_4 nw v1 n v2 v3 = some z0 → W p l e rmX5_thickAt s m av below meth c s.heap [] 0 0 (MQ below (vp_Si (fun x => x = z0)) av s 0 0 (fun _ => False)) (F0 m 4 ls []) := by
  obtain ⟨hx, hb, hr, hml, hown, hts, hlk, hE⟩ := id C0
  have hinX5 : ∀ w ∈ u_ws RX5 TX5 21, w ∈ wsX5_thickAt := by decide +kernel
  intro n
  induction n with
  | zero =>
    intro v2 v3 ls hl h
    cases (show none = some z0 from h)
  | succ n ih =>
    intro v2 v3 ls hl h
    rw [fX5_thickAt_4] at h
    refine lv_iload_n hx hb dX5_thickAt_4 rfl (lv_at hl 3 rfl) ?_
    refine lv_aload_n hx hb dX5_thickAt_5 rfl (lv_at hl 0 rfl) ?_
    refine va_get (D := D) (ci := 4) (v := .ref a1) (C := RX5) (T := TX5) (N := 21) hx hb hts hinX5 hown hE.1 hP 0 rfl rfl 0 (by decide) (hts _ (List.mem_of_getElem? (i := 1) rfl)) (fun _ h9 => h9) rfl dX5_thickAt_6 ?_
    refine lv_iconst (v := 1) hx hb dX5_thickAt_9 (by decide) ?_
    refine va_iald hx hb hE.1 hP 1 0 rfl rfl (by unfold vp_in; decide : vp_in 1 84) dX5_thickAt_10 ?_
    refine lv_eqi (y := nw 1) rfl ?_
    refine lv_icmp_ge (tgt := 90) hx hb dX5_thickAt_11 (by decide) (fun c_1 => ?_) (fun c_1 => ?_)
    · have h := ifp c_1 h
      refine lv_iconst (v := 0) hx hb dX5_thickAt_90 (by decide) ?_
      refine lv_iload_n hx hb dX5_thickAt_91 rfl (lv_at hl 2 rfl) ?_
      refine va_mmax hx hb (hml.trans hl.1.symm) hown (hts _ (List.mem_of_getElem? (i := 6) rfl)) (hts _ (List.mem_of_getElem? (i := 7) rfl)) (hts _ (List.mem_of_getElem? (i := 4) rfl)) (hts _ (List.mem_of_getElem? (i := 8) rfl)) (Nat.le_of_ble_eq_true rfl) (Nat.le_of_ble_eq_true rfl) (Nat.zero_le _) (Nat.zero_le _) dX5_thickAt_92 ?_
      exact eRi C0 (Option.some.inj h) dX5_thickAt_95
    · have h := ifn c_1 h
      refine lv_iload_n hx hb dX5_thickAt_14 rfl (lv_at hl 1 rfl) ?_
      refine lv_aload_n hx hb dX5_thickAt_15 rfl (lv_at hl 0 rfl) ?_
      refine lv_iload_n hx hb dX5_thickAt_16 rfl (lv_at hl 3 rfl) ?_
      refine lv_iconst (v := 1) hx hb dX5_thickAt_17 (by decide) ?_
      obtain ⟨z_2, e_3, h⟩ := bds h
      have hPc := hP.sub (ws' := (wX5 cI cS a0 a1 a2 a3 a4 a5 a6 a7 a8 a9 a10 a11 nw kp ad fd tp kn it wd sz nm mv ik td bg en so va iw im st ht)) [0, 1, 2, 3, 4, 5, 6, 7, 8, 9, 10, 11] rfl
      refine kRi (rV C0 (tX5_sayingIs l D cI cS a0 a1 a2 a3 a4 a5 a6 a7 a8 a9 a10 a11 nw kp ad fd tp kn it wd sz nm mv ik td bg en so va iw im st ht v3 1 z_2 e_3) RX5 gX5_thickAt_X5_sayingIs rfl ⟨rfl, rfl⟩ pdX5_sayingIs rfl ⟨Nat.le_of_ble_eq_true rfl, Nat.le_of_ble_eq_true rfl⟩ (fun _ _ _ _ q => q) (va_recv hE.1 hPc (ci := 4) (q0 := 0) rfl rfl) (fun U hU _ _ => by rw [hU]; exact hPc) hl.1 rfl (Nat.le_of_ble_eq_true rfl) dX5_thickAt_18 ⟨Nat.zero_le _, Nat.zero_le _⟩) ?_
      refine lv_isub hx hb dX5_thickAt_21 ?_
      refine va_mabs hx hb (hml.trans hl.1.symm) hown (hts _ (List.mem_of_getElem? (i := 2) rfl)) (hts _ (List.mem_of_getElem? (i := 3) rfl)) (hts _ (List.mem_of_getElem? (i := 4) rfl)) (hts _ (List.mem_of_getElem? (i := 5) rfl)) (Nat.le_of_ble_eq_true rfl) (Nat.le_of_ble_eq_true rfl) (Nat.zero_le _) (Nat.zero_le _) dX5_thickAt_22 ?_
      refine lv_istore (lv' := [(4, .int (if 0 ≤ (v1 - z_2) then v1 - z_2 else 0 - (v1 - z_2))), (0, .ref a0), (1, .int v1), (2, .int v2), (3, .int v3)]) hx hb dX5_thickAt_25 hl (by decide) rfl (fun ls hl => ?_)
      refine lv_aload_n hx hb dX5_thickAt_27 rfl (lv_at hl 1 rfl) ?_
      refine lv_iload_n hx hb dX5_thickAt_28 rfl (lv_at hl 4 rfl) ?_
      refine lv_iconst (v := 3) hx hb dX5_thickAt_29 (by decide) ?_
      obtain ⟨z_4, e_5, h⟩ := bds h
      have hPc := hP.sub (ws' := (wX5 cI cS a0 a1 a2 a3 a4 a5 a6 a7 a8 a9 a10 a11 nw kp ad fd tp kn it wd sz nm mv ik td bg en so va iw im st ht)) [0, 1, 2, 3, 4, 5, 6, 7, 8, 9, 10, 11] rfl
      refine kRi (rV C0 (tX5_sayingIs l D cI cS a0 a1 a2 a3 a4 a5 a6 a7 a8 a9 a10 a11 nw kp ad fd tp kn it wd sz nm mv ik td bg en so va iw im st ht v3 3 z_4 e_5) RX5 gX5_thickAt_X5_sayingIs rfl ⟨rfl, rfl⟩ pdX5_sayingIs rfl ⟨Nat.le_of_ble_eq_true rfl, Nat.le_of_ble_eq_true rfl⟩ (fun _ _ _ _ q => q) (va_recv hE.1 hPc (ci := 4) (q0 := 0) rfl rfl) (fun U hU _ _ => by rw [hU]; exact hPc) hl.1 rfl (Nat.le_of_ble_eq_true rfl) dX5_thickAt_30 ⟨Nat.zero_le _, Nat.zero_le _⟩) ?_
      refine lv_if_ne (tgt := 84) hx hb dX5_thickAt_33 (by decide) (fun c_6 => ?_) (fun c_6 => ?_)
      · have h := ifn c_6 h
        refine lv_iinc (v := v3 + 1) (lv' := [(3, .int (v3 + 1)), (4, .int (if 0 ≤ (v1 - z_2) then v1 - z_2 else 0 - (v1 - z_2))), (0, .ref a0), (1, .int v1), (2, .int v2)]) hx hb dX5_thickAt_84 hl (k := 4) rfl rfl (by decide) rfl (fun ls hl => ?_)
        refine lv_goto (tgt := 4) hx hb dX5_thickAt_87 (by decide) ?_
        exact ih v2 (v3 + 1) _ (lv_sub hl [2, 3, 4, 0] rfl) h
      · have h := ifp c_6 h
        refine lv_iload hx hb dX5_thickAt_36 (lv_at hl 0 rfl) ?_
        refine lv_aload_n hx hb dX5_thickAt_38 rfl (lv_at hl 1 rfl) ?_
        refine lv_iload_n hx hb dX5_thickAt_39 rfl (lv_at hl 4 rfl) ?_
        obtain ⟨z_7, e_8, h⟩ := bds h
        have hPc := hP.sub (ws' := (wX5 cI cS a0 a1 a2 a3 a4 a5 a6 a7 a8 a9 a10 a11 nw kp ad fd tp kn it wd sz nm mv ik td bg en so va iw im st ht)) [0, 1, 2, 3, 4, 5, 6, 7, 8, 9, 10, 11] rfl
        refine kRi (rV C0 (tX5_reaches l D cI cS a0 a1 a2 a3 a4 a5 a6 a7 a8 a9 a10 a11 nw kp ad fd tp kn it wd sz nm mv ik td bg en so va iw im st ht v3 z_7 e_8) RX5 gX5_thickAt_X5_reaches rfl ⟨rfl, rfl⟩ pdX5_reaches rfl ⟨Nat.le_of_ble_eq_true rfl, Nat.le_of_ble_eq_true rfl⟩ (fun _ _ _ _ q => q) (va_recv hE.1 hPc (ci := 4) (q0 := 0) rfl rfl) (fun U hU _ _ => by rw [hU]; exact hPc) hl.1 rfl (Nat.le_of_ble_eq_true rfl) dX5_thickAt_40 ⟨Nat.zero_le _, Nat.zero_le _⟩) ?_
        refine lv_icmp_gt (tgt := 84) hx hb dX5_thickAt_43 (by decide) (fun c_9 => ?_) (fun c_9 => ?_)
        · have h := ifp c_9 h
          refine lv_iinc (v := v3 + 1) (lv' := [(3, .int (v3 + 1)), (4, .int (if 0 ≤ (v1 - z_2) then v1 - z_2 else 0 - (v1 - z_2))), (0, .ref a0), (1, .int v1), (2, .int v2)]) hx hb dX5_thickAt_84 hl (k := 4) rfl rfl (by decide) rfl (fun ls hl => ?_)
          refine lv_goto (tgt := 4) hx hb dX5_thickAt_87 (by decide) ?_
          exact ih v2 (v3 + 1) _ (lv_sub hl [2, 3, 4, 0] rfl) h
        · have h := ifn c_9 h
          refine lv_aload_n hx hb dX5_thickAt_46 rfl (lv_at hl 1 rfl) ?_
          refine lv_iload_n hx hb dX5_thickAt_47 rfl (lv_at hl 4 rfl) ?_
          obtain ⟨z_10, e_11, h⟩ := bds h
          have hPc := hP.sub (ws' := (wX5 cI cS a0 a1 a2 a3 a4 a5 a6 a7 a8 a9 a10 a11 nw kp ad fd tp kn it wd sz nm mv ik td bg en so va iw im st ht)) [0, 1, 2, 3, 4, 5, 6, 7, 8, 9, 10, 11] rfl
          refine kRi (rV C0 (tX5_thickens l D cI cS a0 a1 a2 a3 a4 a5 a6 a7 a8 a9 a10 a11 nw kp ad fd tp kn it wd sz nm mv ik td bg en so va iw im st ht v3 z_10 e_11) RX5 gX5_thickAt_X5_thickens rfl ⟨rfl, rfl⟩ pdX5_thickens rfl ⟨Nat.le_of_ble_eq_true rfl, Nat.le_of_ble_eq_true rfl⟩ (fun _ _ _ _ q => q) (va_recv hE.1 hPc (ci := 4) (q0 := 0) rfl rfl) (fun U hU _ _ => by rw [hU]; exact hPc) hl.1 rfl (Nat.le_of_ble_eq_true rfl) dX5_thickAt_48 ⟨Nat.zero_le _, Nat.zero_le _⟩) ?_
          refine lv_istore (lv' := [(5, .int z_10), (4, .int (if 0 ≤ (v1 - z_2) then v1 - z_2 else 0 - (v1 - z_2))), (0, .ref a0), (1, .int v1), (2, .int v2), (3, .int v3)]) hx hb dX5_thickAt_51 hl (by decide) rfl (fun ls hl => ?_)
          refine lv_iload_n hx hb dX5_thickAt_53 rfl (lv_at hl 4 rfl) ?_
          refine lv_iload hx hb dX5_thickAt_54 (lv_at hl 0 rfl) ?_
          refine lv_iload hx hb dX5_thickAt_56 (lv_at hl 1 rfl) ?_
          refine lv_aload_n hx hb dX5_thickAt_58 rfl (lv_at hl 2 rfl) ?_
          refine lv_iload_n hx hb dX5_thickAt_59 rfl (lv_at hl 5 rfl) ?_
          refine lv_iconst (v := 0) hx hb dX5_thickAt_60 (by decide) ?_
          obtain ⟨z_12, e_13, h⟩ := bds h
          have hPc := hP.sub (ws' := (wX5 cI cS a0 a1 a2 a3 a4 a5 a6 a7 a8 a9 a10 a11 nw kp ad fd tp kn it wd sz nm mv ik td bg en so va iw im st ht)) [0, 1, 2, 3, 4, 5, 6, 7, 8, 9, 10, 11] rfl
          refine kRi (rV C0 (tX5_sayingIs l D cI cS a0 a1 a2 a3 a4 a5 a6 a7 a8 a9 a10 a11 nw kp ad fd tp kn it wd sz nm mv ik td bg en so va iw im st ht v3 0 z_12 e_13) RX5 gX5_thickAt_X5_sayingIs rfl ⟨rfl, rfl⟩ pdX5_sayingIs rfl ⟨Nat.le_of_ble_eq_true rfl, Nat.le_of_ble_eq_true rfl⟩ (fun _ _ _ _ q => q) (va_recv hE.1 hPc (ci := 4) (q0 := 0) rfl rfl) (fun U hU _ _ => by rw [hU]; exact hPc) hl.1 rfl (Nat.le_of_ble_eq_true rfl) dX5_thickAt_61 ⟨Nat.zero_le _, Nat.zero_le _⟩) ?_
          refine lv_iconst (v := 5) hx hb dX5_thickAt_64 (by decide) ?_
          refine lv_icmp_ne (tgt := 76) hx hb dX5_thickAt_65 (by decide) (fun c_14 => ?_) (fun c_14 => ?_)
          · have h := ifn c_14 h
            refine lv_iload hx hb dX5_thickAt_76 (lv_at hl 0 rfl) ?_
            refine lv_iconst (v := 5) hx hb dX5_thickAt_78 (by decide) ?_
            refine lv_idiv hx hb dX5_thickAt_79 (by decide) ?_
            refine lv_imul hx hb dX5_thickAt_80 ?_
            refine lv_isub hx hb dX5_thickAt_81 ?_
            refine lv_iadd hx hb dX5_thickAt_82 ?_
            refine lv_istore_n (lv' := [(2, .int (v2 + (z_10 - ((if 0 ≤ (v1 - z_2) then v1 - z_2 else 0 - (v1 - z_2)) * (z_10 / 5))))), (5, .int z_10), (4, .int (if 0 ≤ (v1 - z_2) then v1 - z_2 else 0 - (v1 - z_2))), (0, .ref a0), (1, .int v1), (3, .int v3)]) hx hb dX5_thickAt_83 rfl hl (by decide) rfl (fun ls hl => ?_)
            refine lv_iinc (v := v3 + 1) (lv' := [(3, .int (v3 + 1)), (2, .int (v2 + (z_10 - ((if 0 ≤ (v1 - z_2) then v1 - z_2 else 0 - (v1 - z_2)) * (z_10 / 5))))), (5, .int z_10), (4, .int (if 0 ≤ (v1 - z_2) then v1 - z_2 else 0 - (v1 - z_2))), (0, .ref a0), (1, .int v1)]) hx hb dX5_thickAt_84 hl (k := 5) rfl rfl (by decide) rfl (fun ls hl => ?_)
            refine lv_goto (tgt := 4) hx hb dX5_thickAt_87 (by decide) ?_
            exact ih (v2 + (z_10 - ((if 0 ≤ (v1 - z_2) then v1 - z_2 else 0 - (v1 - z_2)) * (z_10 / 5)))) (v3 + 1) _ (lv_sub hl [4, 5, 1, 0] rfl) h
          · have h := ifp c_14 h
            refine lv_iload hx hb dX5_thickAt_68 (lv_at hl 0 rfl) ?_
            refine lv_bipush (v := 10) hx hb dX5_thickAt_70 (by decide) ?_
            refine lv_idiv hx hb dX5_thickAt_72 (by decide) ?_
            refine lv_goto (tgt := 80) hx hb dX5_thickAt_73 (by decide) ?_
            refine lv_imul hx hb dX5_thickAt_80 ?_
            refine lv_isub hx hb dX5_thickAt_81 ?_
            refine lv_iadd hx hb dX5_thickAt_82 ?_
            refine lv_istore_n (lv' := [(2, .int (v2 + (z_10 - ((if 0 ≤ (v1 - z_2) then v1 - z_2 else 0 - (v1 - z_2)) * (z_10 / 10))))), (5, .int z_10), (4, .int (if 0 ≤ (v1 - z_2) then v1 - z_2 else 0 - (v1 - z_2))), (0, .ref a0), (1, .int v1), (3, .int v3)]) hx hb dX5_thickAt_83 rfl hl (by decide) rfl (fun ls hl => ?_)
            refine lv_iinc (v := v3 + 1) (lv' := [(3, .int (v3 + 1)), (2, .int (v2 + (z_10 - ((if 0 ≤ (v1 - z_2) then v1 - z_2 else 0 - (v1 - z_2)) * (z_10 / 10))))), (5, .int z_10), (4, .int (if 0 ≤ (v1 - z_2) then v1 - z_2 else 0 - (v1 - z_2))), (0, .ref a0), (1, .int v1)]) hx hb dX5_thickAt_84 hl (k := 5) rfl rfl (by decide) rfl (fun ls hl => ?_)
            refine lv_goto (tgt := 4) hx hb dX5_thickAt_87 (by decide) ?_
            exact ih (v2 + (z_10 - ((if 0 ≤ (v1 - z_2) then v1 - z_2 else 0 - (v1 - z_2)) * (z_10 / 10)))) (v3 + 1) _ (lv_sub hl [4, 5, 1, 0] rfl) h
set_option maxHeartbeats 4000000 in
set_option maxRecDepth 100000 in
theorem tX5_thickAt (l : Launch) (D : va_G) (cI cS : ClassId) (F : Nat) (a0 a1 a2 a3 a4 a5 a6 a7 a8 a9 a10 a11 : Nat) (nw : Nat → Int32) (kp : Nat → Int32) (ad : Nat → Int32) (fd : Nat → Int32) (tp : Nat → Int32) (kn : Nat → Option Nat) (it : Nat → Int32) (wd : Nat → Int32) (sz : Nat → Int32) (nm : Nat → Int32) (mv : Nat → Int32) (ik : Int32) (td : Int32) (bg : Int32) (en : Int32) (so : Int32) (va : Int32) (iw : Int32) (im : Int32) (st : Int32) (ht : Int32) (v1 : Int32) (z0 : Int32) (h : fX5_thickAt F nw v1 = some z0) : Met l yX5_thickAt wsX5_thickAt rmX5_thickAt (PZ D cI cS [.ref a0, .int v1] (fun U => va_P D vwCl (wX5 cI cS a0 a1 a2 a3 a4 a5 a6 a7 a8 a9 a10 a11 nw kp ad fd tp kn it wd sz nm mv ik td bg en so va iw im st ht) U.heap)) (vp_Si (fun x => x = z0)) 0 0 (fun _ => False) := by
  refine Met.mk RX5 (by decide) rfl rfl (Nat.le_of_ble_eq_true rfl) ?_
  intro p e s m below meth c ls C0 hP hl
  have hl : lv_has ls 6 [(0, .ref a0), (1, .int v1)] := hl
  obtain ⟨hx, hb, hr, hml, hown, hts, hlk, hE⟩ := id C0
  have hinX5 : ∀ w ∈ u_ws RX5 TX5 21, w ∈ wsX5_thickAt := by decide +kernel
  rw [fX5_thickAt] at h
  refine lv_iconst (v := 0) hx hb dX5_thickAt_0 (by decide) ?_
  refine lv_istore_n (lv' := [(2, .int 0), (0, .ref a0), (1, .int v1)]) hx hb dX5_thickAt_1 rfl hl (by decide) rfl (fun ls hl => ?_)
  refine lv_iconst (v := 0) hx hb dX5_thickAt_2 (by decide) ?_
  refine lv_istore_n (lv' := [(3, .int 0), (2, .int 0), (0, .ref a0), (1, .int v1)]) hx hb dX5_thickAt_3 rfl hl (by decide) rfl (fun ls hl => ?_)
  exact lX5_thickAt_4 (l := l) (e := e) (below := below) C0 F nw kp ad fd tp kn it wd sz nm mv ik td bg en so va iw im st ht v1 z0 hP F 0 0 _ (lv_sub hl [2, 3, 1, 0] rfl) h
def fX5_thick (F : Nat) (nw : Nat → Int32) (fd : Nat → Int32) (v1 : Int32) : Option (Int32 × (Nat → Int32)) := (if (fX5_isCell v1) = 0 then Option.bind (fX5_finding fd (-1000001)) (fun z_2 => some (z_2.1, z_2.2)) else Option.bind (fX5_thickAt F nw v1) (fun z_4 => some (z_4, fd)))
abbrev rmX5_thick : Room := { frames := 4, cells := 0, slots := 0, locals := 91 }
theorem pdX5_thick : (yX5_thick.cls = RX5 ∧ yX5_thick.cls ≠ "java/lang/invoke/MethodHandle" ∧ yX5_thick.cls ≠ "java/lang/invoke/VarHandle" ∧ (parseMethodDescriptor yX5_thick.desc).map (fun d => d.parameters.length) = some 1) := by decide +kernel
set_option maxHeartbeats 4000000 in
set_option maxRecDepth 100000 in
theorem tX5_thick (l : Launch) (D : va_G) (cI cS : ClassId) (F : Nat) (a0 a1 a2 a3 a4 a5 a6 a7 a8 a9 a10 a11 : Nat) (nw : Nat → Int32) (kp : Nat → Int32) (ad : Nat → Int32) (fd : Nat → Int32) (tp : Nat → Int32) (kn : Nat → Option Nat) (it : Nat → Int32) (wd : Nat → Int32) (sz : Nat → Int32) (nm : Nat → Int32) (mv : Nat → Int32) (ik : Int32) (td : Int32) (bg : Int32) (en : Int32) (so : Int32) (va : Int32) (iw : Int32) (im : Int32) (st : Int32) (ht : Int32) (v1 : Int32) (z0 : Int32) (z1 : Nat → Int32) (h : fX5_thick F nw fd v1 = some (z0, z1)) (hD0 : va_D (fun _ => True) (wX5 cI cS a0 a1 a2 a3 a4 a5 a6 a7 a8 a9 a10 a11 nw kp ad fd tp kn it wd sz nm mv ik td bg en so va iw im st ht)) : Met l yX5_thick wsX5_thick rmX5_thick (PZ D cI cS [.ref a0, .int v1] (fun U => va_P D vwCl (wX5 cI cS a0 a1 a2 a3 a4 a5 a6 a7 a8 a9 a10 a11 nw kp ad fd tp kn it wd sz nm mv ik td bg en so va iw im st ht) U.heap)) (qI D (wX5 cI cS a0 a1 a2 a3 a4 a5 a6 a7 a8 a9 a10 a11 nw kp ad fd tp kn it wd sz nm mv ik td bg en so va iw im st ht) (wX5 cI cS a0 a1 a2 a3 a4 a5 a6 a7 a8 a9 a10 a11 nw kp ad z1 tp kn it wd sz nm mv ik td bg en so va iw im st ht) z0) 0 0 (wA (wX5 cI cS a0 a1 a2 a3 a4 a5 a6 a7 a8 a9 a10 a11 nw kp ad fd tp kn it wd sz nm mv ik td bg en so va iw im st ht)) := by
  refine Met.mk RX5 (by decide) rfl rfl (Nat.le_of_ble_eq_true rfl) ?_
  intro p e s m below meth c ls C0 hP hl
  have hl : lv_has ls 2 [(0, .ref a0), (1, .int v1)] := hl
  obtain ⟨hx, hb, hr, hml, hown, hts, hlk, hE⟩ := id C0
  have hD : ∀ W : va_W, W.map Prod.fst = [a0, a1, a2, a3, a4, a5, a6, a7, a8, a9, a10, a11] → va_D (wA (wX5 cI cS a0 a1 a2 a3 a4 a5 a6 a7 a8 a9 a10 a11 nw kp ad fd tp kn it wd sz nm mv ik td bg en so va iw im st ht)) W := fun W hW => hD0.own.re hW
  have hS : va_S (wA (wX5 cI cS a0 a1 a2 a3 a4 a5 a6 a7 a8 a9 a10 a11 nw kp ad fd tp kn it wd sz nm mv ik td bg en so va iw im st ht)) s.heap s.heap [] := va_S.rf
  have hP : va_P D vwCl (wX5 cI cS a0 a1 a2 a3 a4 a5 a6 a7 a8 a9 a10 a11 nw kp ad fd tp kn it wd sz nm mv ik td bg en so va iw im st ht) s.heap := hP
  rw [fX5_thick] at h
  refine lv_iload_n hx hb dX5_thick_0 rfl (lv_at hl 1 rfl) ?_
  refine kRi (rS C0 (tX5_isCell l D cI cS v1 (fX5_isCell v1) rfl) gX5_thick_X5_isCell rfl ⟨rfl, rfl⟩ pdX5_isCell rfl ⟨Nat.le_of_ble_eq_true rfl, Nat.le_of_ble_eq_true rfl⟩ (fun _ _ _ _ q => q) (fun _ _ _ _ => vp0) hl.1 rfl (Nat.le_of_ble_eq_true rfl) dX5_thick_1 ⟨Nat.zero_le _, Nat.zero_le _⟩) ?_
  refine lv_if_eq (tgt := 15) hx hb dX5_thick_4 (by decide) (fun c_1 => ?_) (fun c_1 => ?_)
  · have h := ifp c_1 h
    refine lv_aload_n hx hb dX5_thick_15 rfl (lv_at hl 0 rfl) ?_
    refine lv_ldc (v := (-1000001)) hx hb hown (hts _ (List.mem_of_getElem? (i := 1) rfl)) dX5_thick_16 ?_
    obtain ⟨z_2, e_3, h⟩ := bds h
    have hPc := hP.sub (ws' := (wX5 cI cS a0 a1 a2 a3 a4 a5 a6 a7 a8 a9 a10 a11 nw kp ad fd tp kn it wd sz nm mv ik td bg en so va iw im st ht)) [0, 1, 2, 3, 4, 5, 6, 7, 8, 9, 10, 11] rfl
    refine kMi (wf' := (wX5 cI cS a0 a1 a2 a3 a4 a5 a6 a7 a8 a9 a10 a11 nw kp ad z_2.2 tp kn it wd sz nm mv ik td bg en so va iw im st ht)) [0, 1, 2, 3, 4, 5, 6, 7, 8, 9, 10, 11] [some 0, some 1, some 2, some 3, some 4, some 5, some 6, some 7, some 8, some 9, some 10, some 11] (rV C0 (tX5_finding l D cI cS a0 a1 a2 a3 a4 a5 a6 a7 a8 a9 a10 a11 nw kp ad fd tp kn it wd sz nm mv ik td bg en so va iw im st ht (-1000001) z_2.1 z_2.2 e_3 (((hD (wX5 cI cS a0 a1 a2 a3 a4 a5 a6 a7 a8 a9 a10 a11 nw kp ad fd tp kn it wd sz nm mv ik td bg en so va iw im st ht) rfl).sub [0, 1, 2, 3, 4, 5, 6, 7, 8, 9, 10, 11] (by decide) rfl).weaken (fun _ _ _ _ => trivial))) RX5 gX5_thick_X5_finding rfl ⟨rfl, rfl⟩ pdX5_finding rfl ⟨Nat.le_of_ble_eq_true rfl, Nat.le_of_ble_eq_true rfl⟩ (fun _ _ _ _ q => q) (va_recv hE.1 hPc (ci := 4) (q0 := 0) rfl rfl) (fun U hU _ _ => by rw [hU]; exact hPc) hl.1 rfl (Nat.le_of_ble_eq_true rfl) dX5_thick_18 ⟨Nat.zero_le _, Nat.zero_le _⟩) hP (hD _ rfl) hS rfl rfl rfl (fun H locs hP hS => ?_)
    obtain ⟨q0, q1⟩ := Prod.mk.inj (Option.some.inj h)
    subst q0 q1
    exact eMi C0 hP hS rfl rfl dX5_thick_21
  · have h := ifn c_1 h
    refine lv_aload_n hx hb dX5_thick_7 rfl (lv_at hl 0 rfl) ?_
    refine lv_iload_n hx hb dX5_thick_8 rfl (lv_at hl 1 rfl) ?_
    obtain ⟨z_4, e_5, h⟩ := bds h
    have hPc := hP.sub (ws' := (wX5 cI cS a0 a1 a2 a3 a4 a5 a6 a7 a8 a9 a10 a11 nw kp ad fd tp kn it wd sz nm mv ik td bg en so va iw im st ht)) [0, 1, 2, 3, 4, 5, 6, 7, 8, 9, 10, 11] rfl
    refine kRi (rV C0 (tX5_thickAt l D cI cS F a0 a1 a2 a3 a4 a5 a6 a7 a8 a9 a10 a11 nw kp ad fd tp kn it wd sz nm mv ik td bg en so va iw im st ht v1 z_4 e_5) RX5 gX5_thick_X5_thickAt rfl ⟨rfl, rfl⟩ pdX5_thickAt rfl ⟨Nat.le_of_ble_eq_true rfl, Nat.le_of_ble_eq_true rfl⟩ (fun _ _ _ _ q => q) (va_recv hE.1 hPc (ci := 4) (q0 := 0) rfl rfl) (fun U hU _ _ => by rw [hU]; exact hPc) hl.1 rfl (Nat.le_of_ble_eq_true rfl) dX5_thick_9 ⟨Nat.zero_le _, Nat.zero_le _⟩) ?_
    refine lv_goto (tgt := 21) hx hb dX5_thick_12 (by decide) ?_
    obtain ⟨q0, q1⟩ := Prod.mk.inj (Option.some.inj h)
    subst q0 q1
    exact eMi C0 hP hS rfl rfl dX5_thick_21
def fX5_more (nw : Nat → Int32) (v1 : Int32) (v2 : Int32) (v3 : Int32) : Option ((Nat → Int32)) := if ¬ (v1 < 0 ∨ 84 ≤ v1.toNatClampNeg) then if ¬ (v1 < 0 ∨ 84 ≤ v1.toNatClampNeg) then some (upd nw v1.toNatClampNeg (if ((nw v1.toNatClampNeg) + v2) < v3 then (nw v1.toNatClampNeg) + v2 else v3)) else none else none
abbrev rmX5_more : Room := { frames := 1, cells := 0, slots := 0, locals := 21 }
theorem pdX5_more : (yX5_more.cls = RX5 ∧ yX5_more.cls ≠ "java/lang/invoke/MethodHandle" ∧ yX5_more.cls ≠ "java/lang/invoke/VarHandle" ∧ (parseMethodDescriptor yX5_more.desc).map (fun d => d.parameters.length) = some 3) := by decide +kernel
set_option maxHeartbeats 4000000 in
set_option maxRecDepth 100000 in
theorem tX5_more (l : Launch) (D : va_G) (cI cS : ClassId) (a0 a1 a2 a3 a4 a5 a6 a7 a8 a9 a10 a11 : Nat) (nw : Nat → Int32) (kp : Nat → Int32) (ad : Nat → Int32) (fd : Nat → Int32) (tp : Nat → Int32) (kn : Nat → Option Nat) (it : Nat → Int32) (wd : Nat → Int32) (sz : Nat → Int32) (nm : Nat → Int32) (mv : Nat → Int32) (ik : Int32) (td : Int32) (bg : Int32) (en : Int32) (so : Int32) (va : Int32) (iw : Int32) (im : Int32) (st : Int32) (ht : Int32) (v1 : Int32) (v2 : Int32) (v3 : Int32) (z0 : Nat → Int32) (h : fX5_more nw v1 v2 v3 = some z0) (hD0 : va_D (fun _ => True) (wX5 cI cS a0 a1 a2 a3 a4 a5 a6 a7 a8 a9 a10 a11 nw kp ad fd tp kn it wd sz nm mv ik td bg en so va iw im st ht)) : Met l yX5_more wsX5_more rmX5_more (PZ D cI cS [.ref a0, .int v1, .int v2, .int v3] (fun U => va_P D vwCl (wX5 cI cS a0 a1 a2 a3 a4 a5 a6 a7 a8 a9 a10 a11 nw kp ad fd tp kn it wd sz nm mv ik td bg en so va iw im st ht) U.heap)) (qV D (wX5 cI cS a0 a1 a2 a3 a4 a5 a6 a7 a8 a9 a10 a11 nw kp ad fd tp kn it wd sz nm mv ik td bg en so va iw im st ht) (wX5 cI cS a0 a1 a2 a3 a4 a5 a6 a7 a8 a9 a10 a11 z0 kp ad fd tp kn it wd sz nm mv ik td bg en so va iw im st ht)) 0 0 (wA (wX5 cI cS a0 a1 a2 a3 a4 a5 a6 a7 a8 a9 a10 a11 nw kp ad fd tp kn it wd sz nm mv ik td bg en so va iw im st ht)) := by
  refine Met.mk RX5 (by decide) rfl rfl (Nat.le_of_ble_eq_true rfl) ?_
  intro p e s m below meth c ls C0 hP hl
  have hl : lv_has ls 4 [(0, .ref a0), (1, .int v1), (2, .int v2), (3, .int v3)] := hl
  obtain ⟨hx, hb, hr, hml, hown, hts, hlk, hE⟩ := id C0
  have hinX5 : ∀ w ∈ u_ws RX5 TX5 21, w ∈ wsX5_more := by decide +kernel
  have hD : ∀ W : va_W, W.map Prod.fst = [a0, a1, a2, a3, a4, a5, a6, a7, a8, a9, a10, a11] → va_D (wA (wX5 cI cS a0 a1 a2 a3 a4 a5 a6 a7 a8 a9 a10 a11 nw kp ad fd tp kn it wd sz nm mv ik td bg en so va iw im st ht)) W := fun W hW => hD0.own.re hW
  have hS : va_S (wA (wX5 cI cS a0 a1 a2 a3 a4 a5 a6 a7 a8 a9 a10 a11 nw kp ad fd tp kn it wd sz nm mv ik td bg en so va iw im st ht)) s.heap s.heap [] := va_S.rf
  have hP : va_P D vwCl (wX5 cI cS a0 a1 a2 a3 a4 a5 a6 a7 a8 a9 a10 a11 nw kp ad fd tp kn it wd sz nm mv ik td bg en so va iw im st ht) s.heap := hP
  rw [fX5_more] at h
  refine lv_aload_n hx hb dX5_more_0 rfl (lv_at hl 0 rfl) ?_
  refine va_get (D := D) (ci := 4) (v := .ref a1) (C := RX5) (T := TX5) (N := 21) hx hb hts hinX5 hown hE.1 hP 0 rfl rfl 0 (by decide) (hts _ (List.mem_of_getElem? (i := 1) rfl)) (fun _ h9 => h9) rfl dX5_more_1 ?_
  refine lv_iload_n hx hb dX5_more_4 rfl (lv_at hl 1 rfl) ?_
  refine lv_iload_n hx hb dX5_more_5 rfl (lv_at hl 3 rfl) ?_
  refine lv_aload_n hx hb dX5_more_6 rfl (lv_at hl 0 rfl) ?_
  refine va_get (D := D) (ci := 4) (v := .ref a1) (C := RX5) (T := TX5) (N := 21) hx hb hts hinX5 hown hE.1 hP 0 rfl rfl 0 (by decide) (hts _ (List.mem_of_getElem? (i := 1) rfl)) (fun _ h9 => h9) rfl dX5_more_7 ?_
  refine lv_iload_n hx hb dX5_more_10 rfl (lv_at hl 1 rfl) ?_
  obtain ⟨hi_1, h⟩ := ifs h
  refine va_iald hx hb hE.1 hP 1 0 rfl rfl hi_1 dX5_more_11 ?_
  refine lv_iload_n hx hb dX5_more_12 rfl (lv_at hl 2 rfl) ?_
  refine lv_iadd hx hb dX5_more_13 ?_
  refine va_mmin hx hb (hml.trans hl.1.symm) hown (hts _ (List.mem_of_getElem? (i := 2) rfl)) (hts _ (List.mem_of_getElem? (i := 3) rfl)) (hts _ (List.mem_of_getElem? (i := 4) rfl)) (hts _ (List.mem_of_getElem? (i := 5) rfl)) (Nat.le_of_ble_eq_true rfl) (Nat.le_of_ble_eq_true rfl) (Nat.zero_le _) (Nat.zero_le _) dX5_more_14 ?_
  obtain ⟨hi_2, h⟩ := ifs h
  refine va_iast hx hb hE.1 hP (hD _ rfl) hS 1 0 rfl rfl hi_2 dX5_more_17 (fun H locs hP _ hS => ?_)
  have hP : va_P D vwCl (wX5 cI cS a0 a1 a2 a3 a4 a5 a6 a7 a8 a9 a10 a11 (upd nw v1.toNatClampNeg (if ((nw v1.toNatClampNeg) + v2) < v3 then (nw v1.toNatClampNeg) + v2 else v3)) kp ad fd tp kn it wd sz nm mv ik td bg en so va iw im st ht) H := hP
  obtain rfl := Option.some.inj h
  exact eMv C0 hP hS rfl dX5_more_18
def fX5_isInPort (nw : Nat → Int32) (v1 : Int32) : Option (Int32) := Option.bind (fX5_shipIs nw v1 0) (fun z_1 => (if z_1 = 15 then some 1 else some 0))
abbrev rmX5_isInPort : Room := { frames := 2, cells := 0, slots := 0, locals := 43 }
theorem pdX5_isInPort : (yX5_isInPort.cls = RX5 ∧ yX5_isInPort.cls ≠ "java/lang/invoke/MethodHandle" ∧ yX5_isInPort.cls ≠ "java/lang/invoke/VarHandle" ∧ (parseMethodDescriptor yX5_isInPort.desc).map (fun d => d.parameters.length) = some 1) := by decide +kernel
set_option maxHeartbeats 4000000 in
set_option maxRecDepth 100000 in
theorem tX5_isInPort (l : Launch) (D : va_G) (cI cS : ClassId) (a0 a1 a2 a3 a4 a5 a6 a7 a8 a9 a10 a11 : Nat) (nw : Nat → Int32) (kp : Nat → Int32) (ad : Nat → Int32) (fd : Nat → Int32) (tp : Nat → Int32) (kn : Nat → Option Nat) (it : Nat → Int32) (wd : Nat → Int32) (sz : Nat → Int32) (nm : Nat → Int32) (mv : Nat → Int32) (ik : Int32) (td : Int32) (bg : Int32) (en : Int32) (so : Int32) (va : Int32) (iw : Int32) (im : Int32) (st : Int32) (ht : Int32) (v1 : Int32) (z0 : Int32) (h : fX5_isInPort nw v1 = some z0) : Met l yX5_isInPort wsX5_isInPort rmX5_isInPort (PZ D cI cS [.ref a0, .int v1] (fun U => va_P D vwCl (wX5 cI cS a0 a1 a2 a3 a4 a5 a6 a7 a8 a9 a10 a11 nw kp ad fd tp kn it wd sz nm mv ik td bg en so va iw im st ht) U.heap)) (vp_Si (fun x => x = z0)) 0 0 (fun _ => False) := by
  refine Met.mk RX5 (by decide) rfl rfl (Nat.le_of_ble_eq_true rfl) ?_
  intro p e s m below meth c ls C0 hP hl
  have hl : lv_has ls 2 [(0, .ref a0), (1, .int v1)] := hl
  obtain ⟨hx, hb, hr, hml, hown, hts, hlk, hE⟩ := id C0
  rw [fX5_isInPort] at h
  refine lv_aload_n hx hb dX5_isInPort_0 rfl (lv_at hl 0 rfl) ?_
  refine lv_iload_n hx hb dX5_isInPort_1 rfl (lv_at hl 1 rfl) ?_
  refine lv_iconst (v := 0) hx hb dX5_isInPort_2 (by decide) ?_
  obtain ⟨z_1, e_2, h⟩ := bds h
  have hPc := hP.sub (ws' := (wX5 cI cS a0 a1 a2 a3 a4 a5 a6 a7 a8 a9 a10 a11 nw kp ad fd tp kn it wd sz nm mv ik td bg en so va iw im st ht)) [0, 1, 2, 3, 4, 5, 6, 7, 8, 9, 10, 11] rfl
  refine kRi (rV C0 (tX5_shipIs l D cI cS a0 a1 a2 a3 a4 a5 a6 a7 a8 a9 a10 a11 nw kp ad fd tp kn it wd sz nm mv ik td bg en so va iw im st ht v1 0 z_1 e_2) RX5 gX5_isInPort_X5_shipIs rfl ⟨rfl, rfl⟩ pdX5_shipIs rfl ⟨Nat.le_of_ble_eq_true rfl, Nat.le_of_ble_eq_true rfl⟩ (fun _ _ _ _ q => q) (va_recv hE.1 hPc (ci := 4) (q0 := 0) rfl rfl) (fun U hU _ _ => by rw [hU]; exact hPc) hl.1 rfl (Nat.le_of_ble_eq_true rfl) dX5_isInPort_3 ⟨Nat.zero_le _, Nat.zero_le _⟩) ?_
  refine lv_bipush (v := 15) hx hb dX5_isInPort_6 (by decide) ?_
  refine lv_icmp_ne (tgt := 15) hx hb dX5_isInPort_8 (by decide) (fun c_3 => ?_) (fun c_3 => ?_)
  · have h := ifn c_3 h
    refine lv_iconst (v := 0) hx hb dX5_isInPort_15 (by decide) ?_
    exact eRz C0 rfl (Option.some.inj h) dX5_isInPort_16
  · have h := ifp c_3 h
    refine lv_iconst (v := 1) hx hb dX5_isInPort_11 (by decide) ?_
    refine lv_goto (tgt := 16) hx hb dX5_isInPort_12 (by decide) ?_
    exact eRz C0 rfl (Option.some.inj h) dX5_isInPort_16
def fX5_wouldGoAt (F : Nat) (nw : Nat → Int32) (v1 : Int32) (v2 : Int32) : Option (Int32) := (if v2 = 15 then some 0 else Option.bind (fX5_shipIs nw v1 1) (fun z_2 => Option.bind (fX5_thickAt F nw v2) (fun z_4 => (if z_2 < z_4 then some 0 else some 1))))
abbrev rmX5_wouldGoAt : Room := { frames := 4, cells := 0, slots := 0, locals := 91 }
theorem pdX5_wouldGoAt : (yX5_wouldGoAt.cls = RX5 ∧ yX5_wouldGoAt.cls ≠ "java/lang/invoke/MethodHandle" ∧ yX5_wouldGoAt.cls ≠ "java/lang/invoke/VarHandle" ∧ (parseMethodDescriptor yX5_wouldGoAt.desc).map (fun d => d.parameters.length) = some 2) := by decide +kernel
set_option maxHeartbeats 4000000 in
set_option maxRecDepth 100000 in
theorem tX5_wouldGoAt (l : Launch) (D : va_G) (cI cS : ClassId) (F : Nat) (a0 a1 a2 a3 a4 a5 a6 a7 a8 a9 a10 a11 : Nat) (nw : Nat → Int32) (kp : Nat → Int32) (ad : Nat → Int32) (fd : Nat → Int32) (tp : Nat → Int32) (kn : Nat → Option Nat) (it : Nat → Int32) (wd : Nat → Int32) (sz : Nat → Int32) (nm : Nat → Int32) (mv : Nat → Int32) (ik : Int32) (td : Int32) (bg : Int32) (en : Int32) (so : Int32) (va : Int32) (iw : Int32) (im : Int32) (st : Int32) (ht : Int32) (v1 : Int32) (v2 : Int32) (z0 : Int32) (h : fX5_wouldGoAt F nw v1 v2 = some z0) : Met l yX5_wouldGoAt wsX5_wouldGoAt rmX5_wouldGoAt (PZ D cI cS [.ref a0, .int v1, .int v2] (fun U => va_P D vwCl (wX5 cI cS a0 a1 a2 a3 a4 a5 a6 a7 a8 a9 a10 a11 nw kp ad fd tp kn it wd sz nm mv ik td bg en so va iw im st ht) U.heap)) (vp_Si (fun x => x = z0)) 0 0 (fun _ => False) := by
  refine Met.mk RX5 (by decide) rfl rfl (Nat.le_of_ble_eq_true rfl) ?_
  intro p e s m below meth c ls C0 hP hl
  have hl : lv_has ls 3 [(0, .ref a0), (1, .int v1), (2, .int v2)] := hl
  obtain ⟨hx, hb, hr, hml, hown, hts, hlk, hE⟩ := id C0
  rw [fX5_wouldGoAt] at h
  refine lv_iload_n hx hb dX5_wouldGoAt_0 rfl (lv_at hl 2 rfl) ?_
  refine lv_bipush (v := 15) hx hb dX5_wouldGoAt_1 (by decide) ?_
  refine lv_icmp_eq (tgt := 24) hx hb dX5_wouldGoAt_3 (by decide) (fun c_1 => ?_) (fun c_1 => ?_)
  · have h := ifp c_1 h
    refine lv_iconst (v := 0) hx hb dX5_wouldGoAt_24 (by decide) ?_
    exact eRz C0 rfl (Option.some.inj h) dX5_wouldGoAt_25
  · have h := ifn c_1 h
    refine lv_aload_n hx hb dX5_wouldGoAt_6 rfl (lv_at hl 0 rfl) ?_
    refine lv_iload_n hx hb dX5_wouldGoAt_7 rfl (lv_at hl 1 rfl) ?_
    refine lv_iconst (v := 1) hx hb dX5_wouldGoAt_8 (by decide) ?_
    obtain ⟨z_2, e_3, h⟩ := bds h
    have hPc := hP.sub (ws' := (wX5 cI cS a0 a1 a2 a3 a4 a5 a6 a7 a8 a9 a10 a11 nw kp ad fd tp kn it wd sz nm mv ik td bg en so va iw im st ht)) [0, 1, 2, 3, 4, 5, 6, 7, 8, 9, 10, 11] rfl
    refine kRi (rV C0 (tX5_shipIs l D cI cS a0 a1 a2 a3 a4 a5 a6 a7 a8 a9 a10 a11 nw kp ad fd tp kn it wd sz nm mv ik td bg en so va iw im st ht v1 1 z_2 e_3) RX5 gX5_wouldGoAt_X5_shipIs rfl ⟨rfl, rfl⟩ pdX5_shipIs rfl ⟨Nat.le_of_ble_eq_true rfl, Nat.le_of_ble_eq_true rfl⟩ (fun _ _ _ _ q => q) (va_recv hE.1 hPc (ci := 4) (q0 := 0) rfl rfl) (fun U hU _ _ => by rw [hU]; exact hPc) hl.1 rfl (Nat.le_of_ble_eq_true rfl) dX5_wouldGoAt_9 ⟨Nat.zero_le _, Nat.zero_le _⟩) ?_
    refine lv_aload_n hx hb dX5_wouldGoAt_12 rfl (lv_at hl 0 rfl) ?_
    refine lv_iload_n hx hb dX5_wouldGoAt_13 rfl (lv_at hl 2 rfl) ?_
    obtain ⟨z_4, e_5, h⟩ := bds h
    have hPc := hP.sub (ws' := (wX5 cI cS a0 a1 a2 a3 a4 a5 a6 a7 a8 a9 a10 a11 nw kp ad fd tp kn it wd sz nm mv ik td bg en so va iw im st ht)) [0, 1, 2, 3, 4, 5, 6, 7, 8, 9, 10, 11] rfl
    refine kRi (rV C0 (tX5_thickAt l D cI cS F a0 a1 a2 a3 a4 a5 a6 a7 a8 a9 a10 a11 nw kp ad fd tp kn it wd sz nm mv ik td bg en so va iw im st ht v2 z_4 e_5) RX5 gX5_wouldGoAt_X5_thickAt rfl ⟨rfl, rfl⟩ pdX5_thickAt rfl ⟨Nat.le_of_ble_eq_true rfl, Nat.le_of_ble_eq_true rfl⟩ (fun _ _ _ _ q => q) (va_recv hE.1 hPc (ci := 4) (q0 := 0) rfl rfl) (fun U hU _ _ => by rw [hU]; exact hPc) hl.1 rfl (Nat.le_of_ble_eq_true rfl) dX5_wouldGoAt_14 ⟨Nat.zero_le _, Nat.zero_le _⟩) ?_
    refine lv_icmp_lt (tgt := 24) hx hb dX5_wouldGoAt_17 (by decide) (fun c_6 => ?_) (fun c_6 => ?_)
    · have h := ifp c_6 h
      refine lv_iconst (v := 0) hx hb dX5_wouldGoAt_24 (by decide) ?_
      exact eRz C0 rfl (Option.some.inj h) dX5_wouldGoAt_25
    · have h := ifn c_6 h
      refine lv_iconst (v := 1) hx hb dX5_wouldGoAt_20 (by decide) ?_
      refine lv_goto (tgt := 25) hx hb dX5_wouldGoAt_21 (by decide) ?_
      exact eRz C0 rfl (Option.some.inj h) dX5_wouldGoAt_25
def fX5_finishes (nw : Nat → Int32) (v1 : Int32) : Option ((Nat → Int32)) := Option.bind (fX5_sayingIs nw v1 2) (fun z_1 => Option.bind (fX5_resists nw v1) (fun z_3 => (if z_3 < z_1 then if ¬ ((fX5_sayingAt v1 2) < 0 ∨ 84 ≤ (fX5_sayingAt v1 2).toNatClampNeg) then if ¬ ((fX5_sayingAt v1 2) < 0 ∨ 84 ≤ (fX5_sayingAt v1 2).toNatClampNeg) then some (upd nw (fX5_sayingAt v1 2).toNatClampNeg ((nw (fX5_sayingAt v1 2).toNatClampNeg) / 2)) else none else none else if ¬ ((fX5_sayingAt v1 3) < 0 ∨ 84 ≤ (fX5_sayingAt v1 3).toNatClampNeg) then some (upd nw (fX5_sayingAt v1 3).toNatClampNeg 1) else none)))
abbrev rmX5_finishes : Room := { frames := 3, cells := 0, slots := 0, locals := 64 }
theorem pdX5_finishes : (yX5_finishes.cls = RX5 ∧ yX5_finishes.cls ≠ "java/lang/invoke/MethodHandle" ∧ yX5_finishes.cls ≠ "java/lang/invoke/VarHandle" ∧ (parseMethodDescriptor yX5_finishes.desc).map (fun d => d.parameters.length) = some 1) := by decide +kernel
set_option maxHeartbeats 4000000 in
set_option maxRecDepth 100000 in
theorem tX5_finishes (l : Launch) (D : va_G) (cI cS : ClassId) (a0 a1 a2 a3 a4 a5 a6 a7 a8 a9 a10 a11 : Nat) (nw : Nat → Int32) (kp : Nat → Int32) (ad : Nat → Int32) (fd : Nat → Int32) (tp : Nat → Int32) (kn : Nat → Option Nat) (it : Nat → Int32) (wd : Nat → Int32) (sz : Nat → Int32) (nm : Nat → Int32) (mv : Nat → Int32) (ik : Int32) (td : Int32) (bg : Int32) (en : Int32) (so : Int32) (va : Int32) (iw : Int32) (im : Int32) (st : Int32) (ht : Int32) (v1 : Int32) (z0 : Nat → Int32) (h : fX5_finishes nw v1 = some z0) (hD0 : va_D (fun _ => True) (wX5 cI cS a0 a1 a2 a3 a4 a5 a6 a7 a8 a9 a10 a11 nw kp ad fd tp kn it wd sz nm mv ik td bg en so va iw im st ht)) : Met l yX5_finishes wsX5_finishes rmX5_finishes (PZ D cI cS [.ref a0, .int v1] (fun U => va_P D vwCl (wX5 cI cS a0 a1 a2 a3 a4 a5 a6 a7 a8 a9 a10 a11 nw kp ad fd tp kn it wd sz nm mv ik td bg en so va iw im st ht) U.heap)) (qV D (wX5 cI cS a0 a1 a2 a3 a4 a5 a6 a7 a8 a9 a10 a11 nw kp ad fd tp kn it wd sz nm mv ik td bg en so va iw im st ht) (wX5 cI cS a0 a1 a2 a3 a4 a5 a6 a7 a8 a9 a10 a11 z0 kp ad fd tp kn it wd sz nm mv ik td bg en so va iw im st ht)) 0 0 (wA (wX5 cI cS a0 a1 a2 a3 a4 a5 a6 a7 a8 a9 a10 a11 nw kp ad fd tp kn it wd sz nm mv ik td bg en so va iw im st ht)) := by
  refine Met.mk RX5 (by decide) rfl rfl (Nat.le_of_ble_eq_true rfl) ?_
  intro p e s m below meth c ls C0 hP hl
  have hl : lv_has ls 2 [(0, .ref a0), (1, .int v1)] := hl
  obtain ⟨hx, hb, hr, hml, hown, hts, hlk, hE⟩ := id C0
  have hinX5 : ∀ w ∈ u_ws RX5 TX5 21, w ∈ wsX5_finishes := by decide +kernel
  have hD : ∀ W : va_W, W.map Prod.fst = [a0, a1, a2, a3, a4, a5, a6, a7, a8, a9, a10, a11] → va_D (wA (wX5 cI cS a0 a1 a2 a3 a4 a5 a6 a7 a8 a9 a10 a11 nw kp ad fd tp kn it wd sz nm mv ik td bg en so va iw im st ht)) W := fun W hW => hD0.own.re hW
  have hS : va_S (wA (wX5 cI cS a0 a1 a2 a3 a4 a5 a6 a7 a8 a9 a10 a11 nw kp ad fd tp kn it wd sz nm mv ik td bg en so va iw im st ht)) s.heap s.heap [] := va_S.rf
  have hP : va_P D vwCl (wX5 cI cS a0 a1 a2 a3 a4 a5 a6 a7 a8 a9 a10 a11 nw kp ad fd tp kn it wd sz nm mv ik td bg en so va iw im st ht) s.heap := hP
  rw [fX5_finishes] at h
  refine lv_aload_n hx hb dX5_finishes_0 rfl (lv_at hl 0 rfl) ?_
  refine lv_iload_n hx hb dX5_finishes_1 rfl (lv_at hl 1 rfl) ?_
  refine lv_iconst (v := 2) hx hb dX5_finishes_2 (by decide) ?_
  obtain ⟨z_1, e_2, h⟩ := bds h
  have hPc := hP.sub (ws' := (wX5 cI cS a0 a1 a2 a3 a4 a5 a6 a7 a8 a9 a10 a11 nw kp ad fd tp kn it wd sz nm mv ik td bg en so va iw im st ht)) [0, 1, 2, 3, 4, 5, 6, 7, 8, 9, 10, 11] rfl
  refine kRi (rV C0 (tX5_sayingIs l D cI cS a0 a1 a2 a3 a4 a5 a6 a7 a8 a9 a10 a11 nw kp ad fd tp kn it wd sz nm mv ik td bg en so va iw im st ht v1 2 z_1 e_2) RX5 gX5_finishes_X5_sayingIs rfl ⟨rfl, rfl⟩ pdX5_sayingIs rfl ⟨Nat.le_of_ble_eq_true rfl, Nat.le_of_ble_eq_true rfl⟩ (fun _ _ _ _ q => q) (va_recv hE.1 hPc (ci := 4) (q0 := 0) rfl rfl) (fun U hU _ _ => by rw [hU]; exact hPc) hl.1 rfl (Nat.le_of_ble_eq_true rfl) dX5_finishes_3 ⟨Nat.zero_le _, Nat.zero_le _⟩) ?_
  refine lv_aload_n hx hb dX5_finishes_6 rfl (lv_at hl 0 rfl) ?_
  refine lv_iload_n hx hb dX5_finishes_7 rfl (lv_at hl 1 rfl) ?_
  obtain ⟨z_3, e_4, h⟩ := bds h
  have hPc := hP.sub (ws' := (wX5 cI cS a0 a1 a2 a3 a4 a5 a6 a7 a8 a9 a10 a11 nw kp ad fd tp kn it wd sz nm mv ik td bg en so va iw im st ht)) [0, 1, 2, 3, 4, 5, 6, 7, 8, 9, 10, 11] rfl
  refine kRi (rV C0 (tX5_resists l D cI cS a0 a1 a2 a3 a4 a5 a6 a7 a8 a9 a10 a11 nw kp ad fd tp kn it wd sz nm mv ik td bg en so va iw im st ht v1 z_3 e_4) RX5 gX5_finishes_X5_resists rfl ⟨rfl, rfl⟩ pdX5_resists rfl ⟨Nat.le_of_ble_eq_true rfl, Nat.le_of_ble_eq_true rfl⟩ (fun _ _ _ _ q => q) (va_recv hE.1 hPc (ci := 4) (q0 := 0) rfl rfl) (fun U hU _ _ => by rw [hU]; exact hPc) hl.1 rfl (Nat.le_of_ble_eq_true rfl) dX5_finishes_8 ⟨Nat.zero_le _, Nat.zero_le _⟩) ?_
  refine lv_icmp_gt (tgt := 28) hx hb dX5_finishes_11 (by decide) (fun c_5 => ?_) (fun c_5 => ?_)
  · have h := ifp c_5 h
    refine lv_aload_n hx hb dX5_finishes_28 rfl (lv_at hl 0 rfl) ?_
    refine va_get (D := D) (ci := 4) (v := .ref a1) (C := RX5) (T := TX5) (N := 21) hx hb hts hinX5 hown hE.1 hP 0 rfl rfl 0 (by decide) (hts _ (List.mem_of_getElem? (i := 1) rfl)) (fun _ h9 => h9) rfl dX5_finishes_29 ?_
    refine lv_iload_n hx hb dX5_finishes_32 rfl (lv_at hl 1 rfl) ?_
    refine lv_iconst (v := 2) hx hb dX5_finishes_33 (by decide) ?_
    refine kRi (rS C0 (tX5_sayingAt l D cI cS v1 2 (fX5_sayingAt v1 2) rfl) gX5_finishes_X5_sayingAt rfl ⟨rfl, rfl⟩ pdX5_sayingAt rfl ⟨Nat.le_of_ble_eq_true rfl, Nat.le_of_ble_eq_true rfl⟩ (fun _ _ _ _ q => q) (fun _ _ _ _ => vp0) hl.1 rfl (Nat.le_of_ble_eq_true rfl) dX5_finishes_34 ⟨Nat.zero_le _, Nat.zero_le _⟩) ?_
    refine lv_dup2_11 hx hb dX5_finishes_37 rfl rfl ?_
    obtain ⟨hi_6, h⟩ := ifs h
    refine va_iald hx hb hE.1 hP 1 0 rfl rfl hi_6 dX5_finishes_38 ?_
    refine lv_iconst (v := 2) hx hb dX5_finishes_39 (by decide) ?_
    refine lv_idiv hx hb dX5_finishes_40 (by decide) ?_
    obtain ⟨hi_7, h⟩ := ifs h
    refine va_iast hx hb hE.1 hP (hD _ rfl) hS 1 0 rfl rfl hi_7 dX5_finishes_41 (fun H locs hP _ hS => ?_)
    have hP : va_P D vwCl (wX5 cI cS a0 a1 a2 a3 a4 a5 a6 a7 a8 a9 a10 a11 (upd nw (fX5_sayingAt v1 2).toNatClampNeg ((nw (fX5_sayingAt v1 2).toNatClampNeg) / 2)) kp ad fd tp kn it wd sz nm mv ik td bg en so va iw im st ht) H := hP
    obtain rfl := Option.some.inj h
    exact eMv C0 hP hS rfl dX5_finishes_42
  · have h := ifn c_5 h
    refine lv_aload_n hx hb dX5_finishes_14 rfl (lv_at hl 0 rfl) ?_
    refine va_get (D := D) (ci := 4) (v := .ref a1) (C := RX5) (T := TX5) (N := 21) hx hb hts hinX5 hown hE.1 hP 0 rfl rfl 0 (by decide) (hts _ (List.mem_of_getElem? (i := 1) rfl)) (fun _ h9 => h9) rfl dX5_finishes_15 ?_
    refine lv_iload_n hx hb dX5_finishes_18 rfl (lv_at hl 1 rfl) ?_
    refine lv_iconst (v := 3) hx hb dX5_finishes_19 (by decide) ?_
    refine kRi (rS C0 (tX5_sayingAt l D cI cS v1 3 (fX5_sayingAt v1 3) rfl) gX5_finishes_X5_sayingAt rfl ⟨rfl, rfl⟩ pdX5_sayingAt rfl ⟨Nat.le_of_ble_eq_true rfl, Nat.le_of_ble_eq_true rfl⟩ (fun _ _ _ _ q => q) (fun _ _ _ _ => vp0) hl.1 rfl (Nat.le_of_ble_eq_true rfl) dX5_finishes_20 ⟨Nat.zero_le _, Nat.zero_le _⟩) ?_
    refine lv_iconst (v := 1) hx hb dX5_finishes_23 (by decide) ?_
    obtain ⟨hi_8, h⟩ := ifs h
    refine va_iast hx hb hE.1 hP (hD _ rfl) hS 1 0 rfl rfl hi_8 dX5_finishes_24 (fun H locs hP _ hS => ?_)
    have hP : va_P D vwCl (wX5 cI cS a0 a1 a2 a3 a4 a5 a6 a7 a8 a9 a10 a11 (upd nw (fX5_sayingAt v1 3).toNatClampNeg 1) kp ad fd tp kn it wd sz nm mv ik td bg en so va iw im st ht) H := hP
    refine lv_goto (tgt := 42) hx hb dX5_finishes_25 (by decide) ?_
    obtain rfl := Option.some.inj h
    exact eMv C0 hP hS rfl dX5_finishes_42
def fX5_day_2 (F : Nat) (k : (Nat → Int32) → Option ((Nat → Int32))) : Nat → Int32 → (Nat → Int32) → Option ((Nat → Int32))
  | 0, _, _ => none
  | n + 1, v1, nw => (if (nw 3) ≤ v1 then k nw else Option.bind (fX5_shipIs nw v1 0) (fun z_2 => Option.bind (fX5_wouldGoAt F nw v1 z_2) (fun z_4 => (if z_4 = 0 then Option.bind (fX5_isInPort nw v1) (fun z_7 => (if z_7 = 0 then Option.bind (fX5_more nw (fX5_shipAt v1 3) 1 9999) (fun z_10 => fX5_day_2 F k n (v1 + 1) z_10) else fX5_day_2 F k n (v1 + 1) nw)) else Option.bind (fX5_shipIs nw v1 2) (fun z_12 => Option.bind (fX5_more nw (fX5_shipAt v1 0) z_12 15) (fun z_14 => fX5_day_2 F k n (v1 + 1) z_14))))))
def fX5_day_107 : Nat → Int32 → (Nat → Int32) → Option ((Nat → Int32))
  | 0, _, _ => none
  | n + 1, v2, nw => (if (nw 1) ≤ v2 then Option.bind (fX5_more nw 0 1 99999) (fun z_20 => some z_20) else Option.bind (fX5_sayingIs nw v2 3) (fun z_22 => (if z_22 = 0 then Option.bind (fX5_sayingIs nw v2 2) (fun z_25 => Option.bind (fX5_blurs nw v2) (fun z_27 => if ¬ ((fX5_sayingAt v2 2) < 0 ∨ 84 ≤ (fX5_sayingAt v2 2).toNatClampNeg) then Option.bind (fX5_more (upd nw (fX5_sayingAt v2 2).toNatClampNeg (if 0 < (if (z_25 + z_27) < 99 then z_25 + z_27 else 99) then (if (z_25 + z_27) < 99 then z_25 + z_27 else 99) else 0)) (fX5_sayingAt v2 4) 1 9999) (fun z_30 => fX5_day_107 n (v2 + 1) z_30) else none)) else fX5_day_107 n (v2 + 1) nw)))
def fX5_day (F : Nat) (nw : Nat → Int32) : Option ((Nat → Int32)) := fX5_day_2 F (fun nw__16 => if ¬ ((fX5_placeNow nw__16) < 0 ∨ 84 ≤ (fX5_placeNow nw__16).toNatClampNeg) then (if (fX5_isSaying nw__16 (nw__16 (fX5_placeNow nw__16).toNatClampNeg)) = 0 then fX5_day_107 F 0 nw__16 else Option.bind (fX5_sayingIs nw__16 (nw__16 (fX5_placeNow nw__16).toNatClampNeg) 3) (fun z_32 => (if z_32 = 0 then Option.bind (fX5_finishes nw__16 (nw__16 (fX5_placeNow nw__16).toNatClampNeg)) (fun z_35 => fX5_day_107 F 0 z_35) else fX5_day_107 F 0 nw__16))) else none) F 0 nw
abbrev rmX5_day : Room := { frames := 5, cells := 0, slots := 0, locals := 113 }
theorem pdX5_day : (yX5_day.cls = RX5 ∧ yX5_day.cls ≠ "java/lang/invoke/MethodHandle" ∧ yX5_day.cls ≠ "java/lang/invoke/VarHandle" ∧ (parseMethodDescriptor yX5_day.desc).map (fun d => d.parameters.length) = some 0) := by decide +kernel
set_option maxHeartbeats 4000000 in
set_option maxRecDepth 100000 in
theorem lX5_day_2 {p : Program} {l : Launch} {e : Env} {s : State} {m : MethodId} {av : Array Value} {below : List Frame} {meth : Method} {c : Code} {D : va_G} {cI cS : ClassId} {a0 a1 a2 a3 a4 a5 a6 a7 a8 a9 a10 a11 : Nat} {W0 : va_W} (C0 : CX p s m av meth c RX5 cX5_day 3 none wsX5_day D cI cS) (F : Nat) (k : (Nat → Int32) → Option ((Nat → Int32))) (kp : Nat → Int32) (ad : Nat → Int32) (fd : Nat → Int32) (tp : Nat → Int32) (kn : Nat → Option Nat) (it : Nat → Int32) (wd : Nat → Int32) (sz : Nat → Int32) (nm : Nat → Int32) (mv : Nat → Int32) (ik : Int32) (td : Int32) (bg : Int32) (en : Int32) (so : Int32) (va : Int32) (iw : Int32) (im : Int32) (st : Int32) (ht : Int32) (z0 : Nat → Int32) (hD : ∀ W : va_W, W.map Prod.fst = [a0, a1, a2, a3, a4, a5, a6, a7, a8, a9, a10, a11] → va_D (wA W0) W) (kk : ∀ (nw : Nat → Int32) (H : Heap) (locs : List Loc), va_P D vwCl (wX5 cI cS a0 a1 a2 a3 a4 a5 a6 a7 a8 a9 a10 a11 nw kp ad fd tp kn it wd sz nm mv ik td bg en so va iw im st ht) H → va_S (wA W0) s.heap H locs → ∀ (ls : Array Slot), lv_has ls 3 [(0, .ref a0)] → k nw = some z0 → W p l e rmX5_day s m av below meth c H locs 0 0 (MQ below (qV D W0 (wX5 cI cS a0 a1 a2 a3 a4 a5 a6 a7 a8 a9 a10 a11 z0 kp ad fd tp kn it wd sz nm mv ik td bg en so va iw im st ht)) av s 0 0 (wA W0)) (F0 m 73 ls [])) : ∀ (n : Nat) (v1 : Int32) (nw : Nat → Int32) (H : Heap) (locs : List Loc), va_P D vwCl (wX5 cI cS a0 a1 a2 a3 a4 a5 a6 a7 a8 a9 a10 a11 nw kp ad fd tp kn it wd sz nm mv ik td bg en so va iw im st ht) H → va_S (wA W0) s.heap H locs → ∀ (ls : Array Slot), lv_has ls 3 [(0, .ref a0), (1, .int v1)] → fX5_day_2 F k n v1 nw = some z0 → W p l e rmX5_day s m av below meth c H locs 0 0 (MQ below (qV D W0 (wX5 cI cS a0 a1 a2 a3 a4 a5 a6 a7 a8 a9 a10 a11 z0 kp ad fd tp kn it wd sz nm mv ik td bg en so va iw im st ht)) av s 0 0 (wA W0)) (F0 m 2 ls []) := by
  obtain ⟨hx, hb, hr, hml, hown, hts, hlk, hE⟩ := id C0
  have hinX5 : ∀ w ∈ u_ws RX5 TX5 21, w ∈ wsX5_day := by decide +kernel
  intro n
  induction n with
  | zero =>
    intro v1 nw H locs hP hS ls hl h
    cases (show none = some z0 from h)
  | succ n ih =>
    intro v1 nw H locs hP hS ls hl h
    rw [fX5_day_2] at h
    refine lv_iload_n hx hb dX5_day_2 rfl (lv_at hl 1 rfl) ?_
    refine lv_aload_n hx hb dX5_day_3 rfl (lv_at hl 0 rfl) ?_
    refine va_get (D := D) (ci := 4) (v := .ref a1) (C := RX5) (T := TX5) (N := 21) hx hb hts hinX5 hown hE.1 hP 0 rfl rfl 0 (by decide) (hts _ (List.mem_of_getElem? (i := 1) rfl)) (fun _ h9 => h9) rfl dX5_day_4 ?_
    refine lv_iconst (v := 3) hx hb dX5_day_7 (by decide) ?_
    refine va_iald hx hb hE.1 hP 1 0 rfl rfl (by unfold vp_in; decide : vp_in 3 84) dX5_day_8 ?_
    refine lv_eqi (y := nw 3) rfl ?_
    refine lv_icmp_ge (tgt := 73) hx hb dX5_day_9 (by decide) (fun c_1 => ?_) (fun c_1 => ?_)
    · have h := ifp c_1 h
      exact kk nw _ _ hP hS _ (lv_sub hl [0] rfl) h
    · have h := ifn c_1 h
      refine lv_aload_n hx hb dX5_day_12 rfl (lv_at hl 0 rfl) ?_
      refine lv_iload_n hx hb dX5_day_13 rfl (lv_at hl 1 rfl) ?_
      refine lv_aload_n hx hb dX5_day_14 rfl (lv_at hl 0 rfl) ?_
      refine lv_iload_n hx hb dX5_day_15 rfl (lv_at hl 1 rfl) ?_
      refine lv_iconst (v := 0) hx hb dX5_day_16 (by decide) ?_
      obtain ⟨z_2, e_3, h⟩ := bds h
      have hPc := hP.sub (ws' := (wX5 cI cS a0 a1 a2 a3 a4 a5 a6 a7 a8 a9 a10 a11 nw kp ad fd tp kn it wd sz nm mv ik td bg en so va iw im st ht)) [0, 1, 2, 3, 4, 5, 6, 7, 8, 9, 10, 11] rfl
      refine kRi (rV C0 (tX5_shipIs l D cI cS a0 a1 a2 a3 a4 a5 a6 a7 a8 a9 a10 a11 nw kp ad fd tp kn it wd sz nm mv ik td bg en so va iw im st ht v1 0 z_2 e_3) RX5 gX5_day_X5_shipIs rfl ⟨rfl, rfl⟩ pdX5_shipIs rfl ⟨Nat.le_of_ble_eq_true rfl, Nat.le_of_ble_eq_true rfl⟩ (fun _ _ _ _ q => q) (va_recv hE.1 hPc (ci := 4) (q0 := 0) rfl rfl) (fun U hU _ _ => by rw [hU]; exact hPc) hl.1 rfl (Nat.le_of_ble_eq_true rfl) dX5_day_17 ⟨Nat.zero_le _, Nat.zero_le _⟩) ?_
      obtain ⟨z_4, e_5, h⟩ := bds h
      have hPc := hP.sub (ws' := (wX5 cI cS a0 a1 a2 a3 a4 a5 a6 a7 a8 a9 a10 a11 nw kp ad fd tp kn it wd sz nm mv ik td bg en so va iw im st ht)) [0, 1, 2, 3, 4, 5, 6, 7, 8, 9, 10, 11] rfl
      refine kRi (rV C0 (tX5_wouldGoAt l D cI cS F a0 a1 a2 a3 a4 a5 a6 a7 a8 a9 a10 a11 nw kp ad fd tp kn it wd sz nm mv ik td bg en so va iw im st ht v1 z_2 z_4 e_5) RX5 gX5_day_X5_wouldGoAt rfl ⟨rfl, rfl⟩ pdX5_wouldGoAt rfl ⟨Nat.le_of_ble_eq_true rfl, Nat.le_of_ble_eq_true rfl⟩ (fun _ _ _ _ q => q) (va_recv hE.1 hPc (ci := 4) (q0 := 0) rfl rfl) (fun U hU _ _ => by rw [hU]; exact hPc) hl.1 rfl (Nat.le_of_ble_eq_true rfl) dX5_day_20 ⟨Nat.zero_le _, Nat.zero_le _⟩) ?_
      refine lv_if_eq (tgt := 46) hx hb dX5_day_23 (by decide) (fun c_6 => ?_) (fun c_6 => ?_)
      · have h := ifp c_6 h
        refine lv_aload_n hx hb dX5_day_46 rfl (lv_at hl 0 rfl) ?_
        refine lv_iload_n hx hb dX5_day_47 rfl (lv_at hl 1 rfl) ?_
        obtain ⟨z_7, e_8, h⟩ := bds h
        have hPc := hP.sub (ws' := (wX5 cI cS a0 a1 a2 a3 a4 a5 a6 a7 a8 a9 a10 a11 nw kp ad fd tp kn it wd sz nm mv ik td bg en so va iw im st ht)) [0, 1, 2, 3, 4, 5, 6, 7, 8, 9, 10, 11] rfl
        refine kRi (rV C0 (tX5_isInPort l D cI cS a0 a1 a2 a3 a4 a5 a6 a7 a8 a9 a10 a11 nw kp ad fd tp kn it wd sz nm mv ik td bg en so va iw im st ht v1 z_7 e_8) RX5 gX5_day_X5_isInPort rfl ⟨rfl, rfl⟩ pdX5_isInPort rfl ⟨Nat.le_of_ble_eq_true rfl, Nat.le_of_ble_eq_true rfl⟩ (fun _ _ _ _ q => q) (va_recv hE.1 hPc (ci := 4) (q0 := 0) rfl rfl) (fun U hU _ _ => by rw [hU]; exact hPc) hl.1 rfl (Nat.le_of_ble_eq_true rfl) dX5_day_48 ⟨Nat.zero_le _, Nat.zero_le _⟩) ?_
        refine lv_if_ne (tgt := 67) hx hb dX5_day_51 (by decide) (fun c_9 => ?_) (fun c_9 => ?_)
        · have h := ifn c_9 h
          refine lv_iinc (v := v1 + 1) (lv' := [(1, .int (v1 + 1)), (0, .ref a0)]) hx hb dX5_day_67 hl (k := 1) rfl rfl (by decide) rfl (fun ls hl => ?_)
          refine lv_goto (tgt := 2) hx hb dX5_day_70 (by decide) ?_
          exact ih (v1 + 1) nw _ _ hP hS _ (lv_sub hl [1, 0] rfl) h
        · have h := ifp c_9 h
          refine lv_aload_n hx hb dX5_day_54 rfl (lv_at hl 0 rfl) ?_
          refine lv_iload_n hx hb dX5_day_55 rfl (lv_at hl 1 rfl) ?_
          refine lv_iconst (v := 3) hx hb dX5_day_56 (by decide) ?_
          refine kRi (rS C0 (tX5_shipAt l D cI cS v1 3 (fX5_shipAt v1 3) rfl) gX5_day_X5_shipAt rfl ⟨rfl, rfl⟩ pdX5_shipAt rfl ⟨Nat.le_of_ble_eq_true rfl, Nat.le_of_ble_eq_true rfl⟩ (fun _ _ _ _ q => q) (fun _ _ _ _ => vp0) hl.1 rfl (Nat.le_of_ble_eq_true rfl) dX5_day_57 ⟨Nat.zero_le _, Nat.zero_le _⟩) ?_
          refine lv_iconst (v := 1) hx hb dX5_day_60 (by decide) ?_
          refine lv_sipush (v := 9999) hx hb dX5_day_61 (by decide) ?_
          obtain ⟨z_10, e_11, h⟩ := bds h
          have hPc := hP.sub (ws' := (wX5 cI cS a0 a1 a2 a3 a4 a5 a6 a7 a8 a9 a10 a11 nw kp ad fd tp kn it wd sz nm mv ik td bg en so va iw im st ht)) [0, 1, 2, 3, 4, 5, 6, 7, 8, 9, 10, 11] rfl
          refine kMv (wf' := (wX5 cI cS a0 a1 a2 a3 a4 a5 a6 a7 a8 a9 a10 a11 z_10 kp ad fd tp kn it wd sz nm mv ik td bg en so va iw im st ht)) [0, 1, 2, 3, 4, 5, 6, 7, 8, 9, 10, 11] [some 0, some 1, some 2, some 3, some 4, some 5, some 6, some 7, some 8, some 9, some 10, some 11] (rV C0 (tX5_more l D cI cS a0 a1 a2 a3 a4 a5 a6 a7 a8 a9 a10 a11 nw kp ad fd tp kn it wd sz nm mv ik td bg en so va iw im st ht (fX5_shipAt v1 3) 1 9999 z_10 e_11 (((hD (wX5 cI cS a0 a1 a2 a3 a4 a5 a6 a7 a8 a9 a10 a11 nw kp ad fd tp kn it wd sz nm mv ik td bg en so va iw im st ht) rfl).sub [0, 1, 2, 3, 4, 5, 6, 7, 8, 9, 10, 11] (by decide) rfl).weaken (fun _ _ _ _ => trivial))) RX5 gX5_day_X5_more rfl ⟨rfl, rfl⟩ pdX5_more rfl ⟨Nat.le_of_ble_eq_true rfl, Nat.le_of_ble_eq_true rfl⟩ (fun _ _ _ _ q => q) (va_recv hE.1 hPc (ci := 4) (q0 := 0) rfl rfl) (fun U hU _ _ => by rw [hU]; exact hPc) hl.1 rfl (Nat.le_of_ble_eq_true rfl) dX5_day_64 ⟨Nat.zero_le _, Nat.zero_le _⟩) hP (hD _ rfl) hS rfl rfl rfl (fun H locs hP hS => ?_)
          refine lv_iinc (v := v1 + 1) (lv' := [(1, .int (v1 + 1)), (0, .ref a0)]) hx hb dX5_day_67 hl (k := 1) rfl rfl (by decide) rfl (fun ls hl => ?_)
          refine lv_goto (tgt := 2) hx hb dX5_day_70 (by decide) ?_
          exact ih (v1 + 1) z_10 _ _ hP hS _ (lv_sub hl [1, 0] rfl) h
      · have h := ifn c_6 h
        refine lv_aload_n hx hb dX5_day_26 rfl (lv_at hl 0 rfl) ?_
        refine lv_iload_n hx hb dX5_day_27 rfl (lv_at hl 1 rfl) ?_
        refine lv_iconst (v := 0) hx hb dX5_day_28 (by decide) ?_
        refine kRi (rS C0 (tX5_shipAt l D cI cS v1 0 (fX5_shipAt v1 0) rfl) gX5_day_X5_shipAt rfl ⟨rfl, rfl⟩ pdX5_shipAt rfl ⟨Nat.le_of_ble_eq_true rfl, Nat.le_of_ble_eq_true rfl⟩ (fun _ _ _ _ q => q) (fun _ _ _ _ => vp0) hl.1 rfl (Nat.le_of_ble_eq_true rfl) dX5_day_29 ⟨Nat.zero_le _, Nat.zero_le _⟩) ?_
        refine lv_aload_n hx hb dX5_day_32 rfl (lv_at hl 0 rfl) ?_
        refine lv_iload_n hx hb dX5_day_33 rfl (lv_at hl 1 rfl) ?_
        refine lv_iconst (v := 2) hx hb dX5_day_34 (by decide) ?_
        obtain ⟨z_12, e_13, h⟩ := bds h
        have hPc := hP.sub (ws' := (wX5 cI cS a0 a1 a2 a3 a4 a5 a6 a7 a8 a9 a10 a11 nw kp ad fd tp kn it wd sz nm mv ik td bg en so va iw im st ht)) [0, 1, 2, 3, 4, 5, 6, 7, 8, 9, 10, 11] rfl
        refine kRi (rV C0 (tX5_shipIs l D cI cS a0 a1 a2 a3 a4 a5 a6 a7 a8 a9 a10 a11 nw kp ad fd tp kn it wd sz nm mv ik td bg en so va iw im st ht v1 2 z_12 e_13) RX5 gX5_day_X5_shipIs rfl ⟨rfl, rfl⟩ pdX5_shipIs rfl ⟨Nat.le_of_ble_eq_true rfl, Nat.le_of_ble_eq_true rfl⟩ (fun _ _ _ _ q => q) (va_recv hE.1 hPc (ci := 4) (q0 := 0) rfl rfl) (fun U hU _ _ => by rw [hU]; exact hPc) hl.1 rfl (Nat.le_of_ble_eq_true rfl) dX5_day_35 ⟨Nat.zero_le _, Nat.zero_le _⟩) ?_
        refine lv_bipush (v := 15) hx hb dX5_day_38 (by decide) ?_
        obtain ⟨z_14, e_15, h⟩ := bds h
        have hPc := hP.sub (ws' := (wX5 cI cS a0 a1 a2 a3 a4 a5 a6 a7 a8 a9 a10 a11 nw kp ad fd tp kn it wd sz nm mv ik td bg en so va iw im st ht)) [0, 1, 2, 3, 4, 5, 6, 7, 8, 9, 10, 11] rfl
        refine kMv (wf' := (wX5 cI cS a0 a1 a2 a3 a4 a5 a6 a7 a8 a9 a10 a11 z_14 kp ad fd tp kn it wd sz nm mv ik td bg en so va iw im st ht)) [0, 1, 2, 3, 4, 5, 6, 7, 8, 9, 10, 11] [some 0, some 1, some 2, some 3, some 4, some 5, some 6, some 7, some 8, some 9, some 10, some 11] (rV C0 (tX5_more l D cI cS a0 a1 a2 a3 a4 a5 a6 a7 a8 a9 a10 a11 nw kp ad fd tp kn it wd sz nm mv ik td bg en so va iw im st ht (fX5_shipAt v1 0) z_12 15 z_14 e_15 (((hD (wX5 cI cS a0 a1 a2 a3 a4 a5 a6 a7 a8 a9 a10 a11 nw kp ad fd tp kn it wd sz nm mv ik td bg en so va iw im st ht) rfl).sub [0, 1, 2, 3, 4, 5, 6, 7, 8, 9, 10, 11] (by decide) rfl).weaken (fun _ _ _ _ => trivial))) RX5 gX5_day_X5_more rfl ⟨rfl, rfl⟩ pdX5_more rfl ⟨Nat.le_of_ble_eq_true rfl, Nat.le_of_ble_eq_true rfl⟩ (fun _ _ _ _ q => q) (va_recv hE.1 hPc (ci := 4) (q0 := 0) rfl rfl) (fun U hU _ _ => by rw [hU]; exact hPc) hl.1 rfl (Nat.le_of_ble_eq_true rfl) dX5_day_40 ⟨Nat.zero_le _, Nat.zero_le _⟩) hP (hD _ rfl) hS rfl rfl rfl (fun H locs hP hS => ?_)
        refine lv_goto (tgt := 67) hx hb dX5_day_43 (by decide) ?_
        refine lv_iinc (v := v1 + 1) (lv' := [(1, .int (v1 + 1)), (0, .ref a0)]) hx hb dX5_day_67 hl (k := 1) rfl rfl (by decide) rfl (fun ls hl => ?_)
        refine lv_goto (tgt := 2) hx hb dX5_day_70 (by decide) ?_
        exact ih (v1 + 1) z_14 _ _ hP hS _ (lv_sub hl [1, 0] rfl) h
set_option maxHeartbeats 4000000 in
set_option maxRecDepth 100000 in
theorem lX5_day_107 {p : Program} {l : Launch} {e : Env} {s : State} {m : MethodId} {av : Array Value} {below : List Frame} {meth : Method} {c : Code} {D : va_G} {cI cS : ClassId} {a0 a1 a2 a3 a4 a5 a6 a7 a8 a9 a10 a11 : Nat} {W0 : va_W} (C0 : CX p s m av meth c RX5 cX5_day 3 none wsX5_day D cI cS) (F : Nat) (kp : Nat → Int32) (ad : Nat → Int32) (fd : Nat → Int32) (tp : Nat → Int32) (kn : Nat → Option Nat) (it : Nat → Int32) (wd : Nat → Int32) (sz : Nat → Int32) (nm : Nat → Int32) (mv : Nat → Int32) (ik : Int32) (td : Int32) (bg : Int32) (en : Int32) (so : Int32) (va : Int32) (iw : Int32) (im : Int32) (st : Int32) (ht : Int32) (z0 : Nat → Int32) (hD : ∀ W : va_W, W.map Prod.fst = [a0, a1, a2, a3, a4, a5, a6, a7, a8, a9, a10, a11] → va_D (wA W0) W) : ∀ (n : Nat) (v2 : Int32) (nw : Nat → Int32) (H : Heap) (locs : List Loc), va_P D vwCl (wX5 cI cS a0 a1 a2 a3 a4 a5 a6 a7 a8 a9 a10 a11 nw kp ad fd tp kn it wd sz nm mv ik td bg en so va iw im st ht) H → va_S (wA W0) s.heap H locs → ∀ (ls : Array Slot), lv_has ls 3 [(0, .ref a0), (2, .int v2)] → fX5_day_107 n v2 nw = some z0 → W p l e rmX5_day s m av below meth c H locs 0 0 (MQ below (qV D W0 (wX5 cI cS a0 a1 a2 a3 a4 a5 a6 a7 a8 a9 a10 a11 z0 kp ad fd tp kn it wd sz nm mv ik td bg en so va iw im st ht)) av s 0 0 (wA W0)) (F0 m 107 ls []) := by
  obtain ⟨hx, hb, hr, hml, hown, hts, hlk, hE⟩ := id C0
  have hinX5 : ∀ w ∈ u_ws RX5 TX5 21, w ∈ wsX5_day := by decide +kernel
  intro n
  induction n with
  | zero =>
    intro v2 nw H locs hP hS ls hl h
    cases (show none = some z0 from h)
  | succ n ih =>
    intro v2 nw H locs hP hS ls hl h
    rw [fX5_day_107] at h
    refine lv_iload_n hx hb dX5_day_107 rfl (lv_at hl 1 rfl) ?_
    refine lv_aload_n hx hb dX5_day_108 rfl (lv_at hl 0 rfl) ?_
    refine va_get (D := D) (ci := 4) (v := .ref a1) (C := RX5) (T := TX5) (N := 21) hx hb hts hinX5 hown hE.1 hP 0 rfl rfl 0 (by decide) (hts _ (List.mem_of_getElem? (i := 1) rfl)) (fun _ h9 => h9) rfl dX5_day_109 ?_
    refine lv_iconst (v := 1) hx hb dX5_day_112 (by decide) ?_
    refine va_iald hx hb hE.1 hP 1 0 rfl rfl (by unfold vp_in; decide : vp_in 1 84) dX5_day_113 ?_
    refine lv_eqi (y := nw 1) rfl ?_
    refine lv_icmp_ge (tgt := 176) hx hb dX5_day_114 (by decide) (fun c_19 => ?_) (fun c_19 => ?_)
    · have h := ifp c_19 h
      refine lv_aload_n hx hb dX5_day_176 rfl (lv_at hl 0 rfl) ?_
      refine lv_iconst (v := 0) hx hb dX5_day_177 (by decide) ?_
      refine lv_iconst (v := 1) hx hb dX5_day_178 (by decide) ?_
      refine lv_ldc (v := 99999) hx hb hown (hts _ (List.mem_of_getElem? (i := 9) rfl)) dX5_day_179 ?_
      obtain ⟨z_20, e_21, h⟩ := bds h
      have hPc := hP.sub (ws' := (wX5 cI cS a0 a1 a2 a3 a4 a5 a6 a7 a8 a9 a10 a11 nw kp ad fd tp kn it wd sz nm mv ik td bg en so va iw im st ht)) [0, 1, 2, 3, 4, 5, 6, 7, 8, 9, 10, 11] rfl
      refine kMv (wf' := (wX5 cI cS a0 a1 a2 a3 a4 a5 a6 a7 a8 a9 a10 a11 z_20 kp ad fd tp kn it wd sz nm mv ik td bg en so va iw im st ht)) [0, 1, 2, 3, 4, 5, 6, 7, 8, 9, 10, 11] [some 0, some 1, some 2, some 3, some 4, some 5, some 6, some 7, some 8, some 9, some 10, some 11] (rV C0 (tX5_more l D cI cS a0 a1 a2 a3 a4 a5 a6 a7 a8 a9 a10 a11 nw kp ad fd tp kn it wd sz nm mv ik td bg en so va iw im st ht 0 1 99999 z_20 e_21 (((hD (wX5 cI cS a0 a1 a2 a3 a4 a5 a6 a7 a8 a9 a10 a11 nw kp ad fd tp kn it wd sz nm mv ik td bg en so va iw im st ht) rfl).sub [0, 1, 2, 3, 4, 5, 6, 7, 8, 9, 10, 11] (by decide) rfl).weaken (fun _ _ _ _ => trivial))) RX5 gX5_day_X5_more rfl ⟨rfl, rfl⟩ pdX5_more rfl ⟨Nat.le_of_ble_eq_true rfl, Nat.le_of_ble_eq_true rfl⟩ (fun _ _ _ _ q => q) (va_recv hE.1 hPc (ci := 4) (q0 := 0) rfl rfl) (fun U hU _ _ => by rw [hU]; exact hPc) hl.1 rfl (Nat.le_of_ble_eq_true rfl) dX5_day_181 ⟨Nat.zero_le _, Nat.zero_le _⟩) hP (hD _ rfl) hS rfl rfl rfl (fun H locs hP hS => ?_)
      obtain rfl := Option.some.inj h
      exact eMv C0 hP hS rfl dX5_day_184
    · have h := ifn c_19 h
      refine lv_aload_n hx hb dX5_day_117 rfl (lv_at hl 0 rfl) ?_
      refine lv_iload_n hx hb dX5_day_118 rfl (lv_at hl 1 rfl) ?_
      refine lv_iconst (v := 3) hx hb dX5_day_119 (by decide) ?_
      obtain ⟨z_22, e_23, h⟩ := bds h
      have hPc := hP.sub (ws' := (wX5 cI cS a0 a1 a2 a3 a4 a5 a6 a7 a8 a9 a10 a11 nw kp ad fd tp kn it wd sz nm mv ik td bg en so va iw im st ht)) [0, 1, 2, 3, 4, 5, 6, 7, 8, 9, 10, 11] rfl
      refine kRi (rV C0 (tX5_sayingIs l D cI cS a0 a1 a2 a3 a4 a5 a6 a7 a8 a9 a10 a11 nw kp ad fd tp kn it wd sz nm mv ik td bg en so va iw im st ht v2 3 z_22 e_23) RX5 gX5_day_X5_sayingIs rfl ⟨rfl, rfl⟩ pdX5_sayingIs rfl ⟨Nat.le_of_ble_eq_true rfl, Nat.le_of_ble_eq_true rfl⟩ (fun _ _ _ _ q => q) (va_recv hE.1 hPc (ci := 4) (q0 := 0) rfl rfl) (fun U hU _ _ => by rw [hU]; exact hPc) hl.1 rfl (Nat.le_of_ble_eq_true rfl) dX5_day_120 ⟨Nat.zero_le _, Nat.zero_le _⟩) ?_
      refine lv_if_ne (tgt := 170) hx hb dX5_day_123 (by decide) (fun c_24 => ?_) (fun c_24 => ?_)
      · have h := ifn c_24 h
        refine lv_iinc (v := v2 + 1) (lv' := [(2, .int (v2 + 1)), (0, .ref a0)]) hx hb dX5_day_170 hl (k := 1) rfl rfl (by decide) rfl (fun ls hl => ?_)
        refine lv_goto (tgt := 107) hx hb dX5_day_173 (by decide) ?_
        exact ih (v2 + 1) nw _ _ hP hS _ (lv_sub hl [1, 0] rfl) h
      · have h := ifp c_24 h
        refine lv_aload_n hx hb dX5_day_126 rfl (lv_at hl 0 rfl) ?_
        refine va_get (D := D) (ci := 4) (v := .ref a1) (C := RX5) (T := TX5) (N := 21) hx hb hts hinX5 hown hE.1 hP 0 rfl rfl 0 (by decide) (hts _ (List.mem_of_getElem? (i := 1) rfl)) (fun _ h9 => h9) rfl dX5_day_127 ?_
        refine lv_iload_n hx hb dX5_day_130 rfl (lv_at hl 1 rfl) ?_
        refine lv_iconst (v := 2) hx hb dX5_day_131 (by decide) ?_
        refine kRi (rS C0 (tX5_sayingAt l D cI cS v2 2 (fX5_sayingAt v2 2) rfl) gX5_day_X5_sayingAt rfl ⟨rfl, rfl⟩ pdX5_sayingAt rfl ⟨Nat.le_of_ble_eq_true rfl, Nat.le_of_ble_eq_true rfl⟩ (fun _ _ _ _ q => q) (fun _ _ _ _ => vp0) hl.1 rfl (Nat.le_of_ble_eq_true rfl) dX5_day_132 ⟨Nat.zero_le _, Nat.zero_le _⟩) ?_
        refine lv_iconst (v := 0) hx hb dX5_day_135 (by decide) ?_
        refine lv_bipush (v := 99) hx hb dX5_day_136 (by decide) ?_
        refine lv_aload_n hx hb dX5_day_138 rfl (lv_at hl 0 rfl) ?_
        refine lv_iload_n hx hb dX5_day_139 rfl (lv_at hl 1 rfl) ?_
        refine lv_iconst (v := 2) hx hb dX5_day_140 (by decide) ?_
        obtain ⟨z_25, e_26, h⟩ := bds h
        have hPc := hP.sub (ws' := (wX5 cI cS a0 a1 a2 a3 a4 a5 a6 a7 a8 a9 a10 a11 nw kp ad fd tp kn it wd sz nm mv ik td bg en so va iw im st ht)) [0, 1, 2, 3, 4, 5, 6, 7, 8, 9, 10, 11] rfl
        refine kRi (rV C0 (tX5_sayingIs l D cI cS a0 a1 a2 a3 a4 a5 a6 a7 a8 a9 a10 a11 nw kp ad fd tp kn it wd sz nm mv ik td bg en so va iw im st ht v2 2 z_25 e_26) RX5 gX5_day_X5_sayingIs rfl ⟨rfl, rfl⟩ pdX5_sayingIs rfl ⟨Nat.le_of_ble_eq_true rfl, Nat.le_of_ble_eq_true rfl⟩ (fun _ _ _ _ q => q) (va_recv hE.1 hPc (ci := 4) (q0 := 0) rfl rfl) (fun U hU _ _ => by rw [hU]; exact hPc) hl.1 rfl (Nat.le_of_ble_eq_true rfl) dX5_day_141 ⟨Nat.zero_le _, Nat.zero_le _⟩) ?_
        refine lv_aload_n hx hb dX5_day_144 rfl (lv_at hl 0 rfl) ?_
        refine lv_iload_n hx hb dX5_day_145 rfl (lv_at hl 1 rfl) ?_
        obtain ⟨z_27, e_28, h⟩ := bds h
        have hPc := hP.sub (ws' := (wX5 cI cS a0 a1 a2 a3 a4 a5 a6 a7 a8 a9 a10 a11 nw kp ad fd tp kn it wd sz nm mv ik td bg en so va iw im st ht)) [0, 1, 2, 3, 4, 5, 6, 7, 8, 9, 10, 11] rfl
        refine kRi (rV C0 (tX5_blurs l D cI cS a0 a1 a2 a3 a4 a5 a6 a7 a8 a9 a10 a11 nw kp ad fd tp kn it wd sz nm mv ik td bg en so va iw im st ht v2 z_27 e_28) RX5 gX5_day_X5_blurs rfl ⟨rfl, rfl⟩ pdX5_blurs rfl ⟨Nat.le_of_ble_eq_true rfl, Nat.le_of_ble_eq_true rfl⟩ (fun _ _ _ _ q => q) (va_recv hE.1 hPc (ci := 4) (q0 := 0) rfl rfl) (fun U hU _ _ => by rw [hU]; exact hPc) hl.1 rfl (Nat.le_of_ble_eq_true rfl) dX5_day_146 ⟨Nat.zero_le _, Nat.zero_le _⟩) ?_
        refine lv_iadd hx hb dX5_day_149 ?_
        refine va_mmin hx hb (hml.trans hl.1.symm) hown (hts _ (List.mem_of_getElem? (i := 2) rfl)) (hts _ (List.mem_of_getElem? (i := 3) rfl)) (hts _ (List.mem_of_getElem? (i := 4) rfl)) (hts _ (List.mem_of_getElem? (i := 5) rfl)) (Nat.le_of_ble_eq_true rfl) (Nat.le_of_ble_eq_true rfl) (Nat.zero_le _) (Nat.zero_le _) dX5_day_150 ?_
        refine va_mmax hx hb (hml.trans hl.1.symm) hown (hts _ (List.mem_of_getElem? (i := 6) rfl)) (hts _ (List.mem_of_getElem? (i := 7) rfl)) (hts _ (List.mem_of_getElem? (i := 4) rfl)) (hts _ (List.mem_of_getElem? (i := 8) rfl)) (Nat.le_of_ble_eq_true rfl) (Nat.le_of_ble_eq_true rfl) (Nat.zero_le _) (Nat.zero_le _) dX5_day_153 ?_
        obtain ⟨hi_29, h⟩ := ifs h
        refine va_iast hx hb hE.1 hP (hD _ rfl) hS 1 0 rfl rfl hi_29 dX5_day_156 (fun H locs hP _ hS => ?_)
        have hP : va_P D vwCl (wX5 cI cS a0 a1 a2 a3 a4 a5 a6 a7 a8 a9 a10 a11 (upd nw (fX5_sayingAt v2 2).toNatClampNeg (if 0 < (if (z_25 + z_27) < 99 then z_25 + z_27 else 99) then (if (z_25 + z_27) < 99 then z_25 + z_27 else 99) else 0)) kp ad fd tp kn it wd sz nm mv ik td bg en so va iw im st ht) H := hP
        refine lv_aload_n hx hb dX5_day_157 rfl (lv_at hl 0 rfl) ?_
        refine lv_iload_n hx hb dX5_day_158 rfl (lv_at hl 1 rfl) ?_
        refine lv_iconst (v := 4) hx hb dX5_day_159 (by decide) ?_
        refine kRi (rS C0 (tX5_sayingAt l D cI cS v2 4 (fX5_sayingAt v2 4) rfl) gX5_day_X5_sayingAt rfl ⟨rfl, rfl⟩ pdX5_sayingAt rfl ⟨Nat.le_of_ble_eq_true rfl, Nat.le_of_ble_eq_true rfl⟩ (fun _ _ _ _ q => q) (fun _ _ _ _ => vp0) hl.1 rfl (Nat.le_of_ble_eq_true rfl) dX5_day_160 ⟨Nat.zero_le _, Nat.zero_le _⟩) ?_
        refine lv_iconst (v := 1) hx hb dX5_day_163 (by decide) ?_
        refine lv_sipush (v := 9999) hx hb dX5_day_164 (by decide) ?_
        obtain ⟨z_30, e_31, h⟩ := bds h
        have hPc := hP.sub (ws' := (wX5 cI cS a0 a1 a2 a3 a4 a5 a6 a7 a8 a9 a10 a11 (upd nw (fX5_sayingAt v2 2).toNatClampNeg (if 0 < (if (z_25 + z_27) < 99 then z_25 + z_27 else 99) then (if (z_25 + z_27) < 99 then z_25 + z_27 else 99) else 0)) kp ad fd tp kn it wd sz nm mv ik td bg en so va iw im st ht)) [0, 1, 2, 3, 4, 5, 6, 7, 8, 9, 10, 11] rfl
        refine kMv (wf' := (wX5 cI cS a0 a1 a2 a3 a4 a5 a6 a7 a8 a9 a10 a11 z_30 kp ad fd tp kn it wd sz nm mv ik td bg en so va iw im st ht)) [0, 1, 2, 3, 4, 5, 6, 7, 8, 9, 10, 11] [some 0, some 1, some 2, some 3, some 4, some 5, some 6, some 7, some 8, some 9, some 10, some 11] (rV C0 (tX5_more l D cI cS a0 a1 a2 a3 a4 a5 a6 a7 a8 a9 a10 a11 (upd nw (fX5_sayingAt v2 2).toNatClampNeg (if 0 < (if (z_25 + z_27) < 99 then z_25 + z_27 else 99) then (if (z_25 + z_27) < 99 then z_25 + z_27 else 99) else 0)) kp ad fd tp kn it wd sz nm mv ik td bg en so va iw im st ht (fX5_sayingAt v2 4) 1 9999 z_30 e_31 (((hD (wX5 cI cS a0 a1 a2 a3 a4 a5 a6 a7 a8 a9 a10 a11 (upd nw (fX5_sayingAt v2 2).toNatClampNeg (if 0 < (if (z_25 + z_27) < 99 then z_25 + z_27 else 99) then (if (z_25 + z_27) < 99 then z_25 + z_27 else 99) else 0)) kp ad fd tp kn it wd sz nm mv ik td bg en so va iw im st ht) rfl).sub [0, 1, 2, 3, 4, 5, 6, 7, 8, 9, 10, 11] (by decide) rfl).weaken (fun _ _ _ _ => trivial))) RX5 gX5_day_X5_more rfl ⟨rfl, rfl⟩ pdX5_more rfl ⟨Nat.le_of_ble_eq_true rfl, Nat.le_of_ble_eq_true rfl⟩ (fun _ _ _ _ q => q) (va_recv hE.1 hPc (ci := 4) (q0 := 0) rfl rfl) (fun U hU _ _ => by rw [hU]; exact hPc) hl.1 rfl (Nat.le_of_ble_eq_true rfl) dX5_day_167 ⟨Nat.zero_le _, Nat.zero_le _⟩) hP (hD _ rfl) hS rfl rfl rfl (fun H locs hP hS => ?_)
        refine lv_iinc (v := v2 + 1) (lv' := [(2, .int (v2 + 1)), (0, .ref a0)]) hx hb dX5_day_170 hl (k := 1) rfl rfl (by decide) rfl (fun ls hl => ?_)
        refine lv_goto (tgt := 107) hx hb dX5_day_173 (by decide) ?_
        exact ih (v2 + 1) z_30 _ _ hP hS _ (lv_sub hl [1, 0] rfl) h
set_option maxHeartbeats 4000000 in
set_option maxRecDepth 100000 in
theorem tX5_day (l : Launch) (D : va_G) (cI cS : ClassId) (F : Nat) (a0 a1 a2 a3 a4 a5 a6 a7 a8 a9 a10 a11 : Nat) (nw : Nat → Int32) (kp : Nat → Int32) (ad : Nat → Int32) (fd : Nat → Int32) (tp : Nat → Int32) (kn : Nat → Option Nat) (it : Nat → Int32) (wd : Nat → Int32) (sz : Nat → Int32) (nm : Nat → Int32) (mv : Nat → Int32) (ik : Int32) (td : Int32) (bg : Int32) (en : Int32) (so : Int32) (va : Int32) (iw : Int32) (im : Int32) (st : Int32) (ht : Int32) (z0 : Nat → Int32) (h : fX5_day F nw = some z0) (hD0 : va_D (fun _ => True) (wX5 cI cS a0 a1 a2 a3 a4 a5 a6 a7 a8 a9 a10 a11 nw kp ad fd tp kn it wd sz nm mv ik td bg en so va iw im st ht)) : Met l yX5_day wsX5_day rmX5_day (PZ D cI cS [.ref a0] (fun U => va_P D vwCl (wX5 cI cS a0 a1 a2 a3 a4 a5 a6 a7 a8 a9 a10 a11 nw kp ad fd tp kn it wd sz nm mv ik td bg en so va iw im st ht) U.heap)) (qV D (wX5 cI cS a0 a1 a2 a3 a4 a5 a6 a7 a8 a9 a10 a11 nw kp ad fd tp kn it wd sz nm mv ik td bg en so va iw im st ht) (wX5 cI cS a0 a1 a2 a3 a4 a5 a6 a7 a8 a9 a10 a11 z0 kp ad fd tp kn it wd sz nm mv ik td bg en so va iw im st ht)) 0 0 (wA (wX5 cI cS a0 a1 a2 a3 a4 a5 a6 a7 a8 a9 a10 a11 nw kp ad fd tp kn it wd sz nm mv ik td bg en so va iw im st ht)) := by
  refine Met.mk RX5 (by decide) rfl rfl (Nat.le_of_ble_eq_true rfl) ?_
  intro p e s m below meth c ls C0 hP hl
  have hl : lv_has ls 3 [(0, .ref a0)] := hl
  obtain ⟨hx, hb, hr, hml, hown, hts, hlk, hE⟩ := id C0
  have hinX5 : ∀ w ∈ u_ws RX5 TX5 21, w ∈ wsX5_day := by decide +kernel
  have hD : ∀ W : va_W, W.map Prod.fst = [a0, a1, a2, a3, a4, a5, a6, a7, a8, a9, a10, a11] → va_D (wA (wX5 cI cS a0 a1 a2 a3 a4 a5 a6 a7 a8 a9 a10 a11 nw kp ad fd tp kn it wd sz nm mv ik td bg en so va iw im st ht)) W := fun W hW => hD0.own.re hW
  have hS : va_S (wA (wX5 cI cS a0 a1 a2 a3 a4 a5 a6 a7 a8 a9 a10 a11 nw kp ad fd tp kn it wd sz nm mv ik td bg en so va iw im st ht)) s.heap s.heap [] := va_S.rf
  have hP : va_P D vwCl (wX5 cI cS a0 a1 a2 a3 a4 a5 a6 a7 a8 a9 a10 a11 nw kp ad fd tp kn it wd sz nm mv ik td bg en so va iw im st ht) s.heap := hP
  rw [fX5_day] at h
  refine lv_iconst (v := 0) hx hb dX5_day_0 (by decide) ?_
  refine lv_istore_n (lv' := [(1, .int 0), (0, .ref a0)]) hx hb dX5_day_1 rfl hl (by decide) rfl (fun ls hl => ?_)
  refine lX5_day_2 (l := l) (e := e) (below := below) C0 F _ kp ad fd tp kn it wd sz nm mv ik td bg en so va iw im st ht z0 hD (fun nw__16 H locs hP hS ls hl h => ?_) F 0 nw _ _ hP hS _ (lv_sub hl [1, 0] rfl) h
  refine lv_aload_n hx hb dX5_day_73 rfl (lv_at hl 0 rfl) ?_
  refine va_get (D := D) (ci := 4) (v := .ref a1) (C := RX5) (T := TX5) (N := 21) hx hb hts hinX5 hown hE.1 hP 0 rfl rfl 0 (by decide) (hts _ (List.mem_of_getElem? (i := 1) rfl)) (fun _ h9 => h9) rfl dX5_day_74 ?_
  refine lv_aload_n hx hb dX5_day_77 rfl (lv_at hl 0 rfl) ?_
  have hPc := hP.sub (ws' := (wX5 cI cS a0 a1 a2 a3 a4 a5 a6 a7 a8 a9 a10 a11 nw__16 kp ad fd tp kn it wd sz nm mv ik td bg en so va iw im st ht)) [0, 1, 2, 3, 4, 5, 6, 7, 8, 9, 10, 11] rfl
  refine kRi (rV C0 (tX5_placeNow l D cI cS a0 a1 a2 a3 a4 a5 a6 a7 a8 a9 a10 a11 nw__16 kp ad fd tp kn it wd sz nm mv ik td bg en so va iw im st ht  (fX5_placeNow nw__16) rfl) RX5 gX5_day_X5_placeNow rfl ⟨rfl, rfl⟩ pdX5_placeNow rfl ⟨Nat.le_of_ble_eq_true rfl, Nat.le_of_ble_eq_true rfl⟩ (fun _ _ _ _ q => q) (va_recv hE.1 hPc (ci := 4) (q0 := 0) rfl rfl) (fun U hU _ _ => by rw [hU]; exact hPc) hl.1 rfl (Nat.le_of_ble_eq_true rfl) dX5_day_78 ⟨Nat.zero_le _, Nat.zero_le _⟩) ?_
  obtain ⟨hi_17, h⟩ := ifs h
  refine va_iald hx hb hE.1 hP 1 0 rfl rfl hi_17 dX5_day_81 ?_
  refine lv_istore_n (lv' := [(1, .int (nw__16 (fX5_placeNow nw__16).toNatClampNeg)), (0, .ref a0)]) hx hb dX5_day_82 rfl hl (by decide) rfl (fun ls hl => ?_)
  refine lv_aload_n hx hb dX5_day_83 rfl (lv_at hl 1 rfl) ?_
  refine lv_iload_n hx hb dX5_day_84 rfl (lv_at hl 0 rfl) ?_
  have hPc := hP.sub (ws' := (wX5 cI cS a0 a1 a2 a3 a4 a5 a6 a7 a8 a9 a10 a11 nw__16 kp ad fd tp kn it wd sz nm mv ik td bg en so va iw im st ht)) [0, 1, 2, 3, 4, 5, 6, 7, 8, 9, 10, 11] rfl
  refine kRi (rV C0 (tX5_isSaying l D cI cS a0 a1 a2 a3 a4 a5 a6 a7 a8 a9 a10 a11 nw__16 kp ad fd tp kn it wd sz nm mv ik td bg en so va iw im st ht (nw__16 (fX5_placeNow nw__16).toNatClampNeg) (fX5_isSaying nw__16 (nw__16 (fX5_placeNow nw__16).toNatClampNeg)) rfl) RX5 gX5_day_X5_isSaying rfl ⟨rfl, rfl⟩ pdX5_isSaying rfl ⟨Nat.le_of_ble_eq_true rfl, Nat.le_of_ble_eq_true rfl⟩ (fun _ _ _ _ q => q) (va_recv hE.1 hPc (ci := 4) (q0 := 0) rfl rfl) (fun U hU _ _ => by rw [hU]; exact hPc) hl.1 rfl (Nat.le_of_ble_eq_true rfl) dX5_day_85 ⟨Nat.zero_le _, Nat.zero_le _⟩) ?_
  refine lv_if_eq (tgt := 105) hx hb dX5_day_88 (by decide) (fun c_18 => ?_) (fun c_18 => ?_)
  · have h := ifp c_18 h
    refine lv_iconst (v := 0) hx hb dX5_day_105 (by decide) ?_
    refine lv_istore_n (lv' := [(2, .int 0), (1, .int (nw__16 (fX5_placeNow nw__16).toNatClampNeg)), (0, .ref a0)]) hx hb dX5_day_106 rfl hl (by decide) rfl (fun ls hl => ?_)
    exact lX5_day_107 (l := l) (e := e) (below := below) C0 F kp ad fd tp kn it wd sz nm mv ik td bg en so va iw im st ht z0 hD F 0 nw__16 _ _ hP hS _ (lv_sub hl [2, 0] rfl) h
  · have h := ifn c_18 h
    refine lv_aload_n hx hb dX5_day_91 rfl (lv_at hl 1 rfl) ?_
    refine lv_iload_n hx hb dX5_day_92 rfl (lv_at hl 0 rfl) ?_
    refine lv_iconst (v := 3) hx hb dX5_day_93 (by decide) ?_
    obtain ⟨z_32, e_33, h⟩ := bds h
    have hPc := hP.sub (ws' := (wX5 cI cS a0 a1 a2 a3 a4 a5 a6 a7 a8 a9 a10 a11 nw__16 kp ad fd tp kn it wd sz nm mv ik td bg en so va iw im st ht)) [0, 1, 2, 3, 4, 5, 6, 7, 8, 9, 10, 11] rfl
    refine kRi (rV C0 (tX5_sayingIs l D cI cS a0 a1 a2 a3 a4 a5 a6 a7 a8 a9 a10 a11 nw__16 kp ad fd tp kn it wd sz nm mv ik td bg en so va iw im st ht (nw__16 (fX5_placeNow nw__16).toNatClampNeg) 3 z_32 e_33) RX5 gX5_day_X5_sayingIs rfl ⟨rfl, rfl⟩ pdX5_sayingIs rfl ⟨Nat.le_of_ble_eq_true rfl, Nat.le_of_ble_eq_true rfl⟩ (fun _ _ _ _ q => q) (va_recv hE.1 hPc (ci := 4) (q0 := 0) rfl rfl) (fun U hU _ _ => by rw [hU]; exact hPc) hl.1 rfl (Nat.le_of_ble_eq_true rfl) dX5_day_94 ⟨Nat.zero_le _, Nat.zero_le _⟩) ?_
    refine lv_if_ne (tgt := 105) hx hb dX5_day_97 (by decide) (fun c_34 => ?_) (fun c_34 => ?_)
    · have h := ifn c_34 h
      refine lv_iconst (v := 0) hx hb dX5_day_105 (by decide) ?_
      refine lv_istore_n (lv' := [(2, .int 0), (1, .int (nw__16 (fX5_placeNow nw__16).toNatClampNeg)), (0, .ref a0)]) hx hb dX5_day_106 rfl hl (by decide) rfl (fun ls hl => ?_)
      exact lX5_day_107 (l := l) (e := e) (below := below) C0 F kp ad fd tp kn it wd sz nm mv ik td bg en so va iw im st ht z0 hD F 0 nw__16 _ _ hP hS _ (lv_sub hl [2, 0] rfl) h
    · have h := ifp c_34 h
      refine lv_aload_n hx hb dX5_day_100 rfl (lv_at hl 1 rfl) ?_
      refine lv_iload_n hx hb dX5_day_101 rfl (lv_at hl 0 rfl) ?_
      obtain ⟨z_35, e_36, h⟩ := bds h
      have hPc := hP.sub (ws' := (wX5 cI cS a0 a1 a2 a3 a4 a5 a6 a7 a8 a9 a10 a11 nw__16 kp ad fd tp kn it wd sz nm mv ik td bg en so va iw im st ht)) [0, 1, 2, 3, 4, 5, 6, 7, 8, 9, 10, 11] rfl
      refine kMv (wf' := (wX5 cI cS a0 a1 a2 a3 a4 a5 a6 a7 a8 a9 a10 a11 z_35 kp ad fd tp kn it wd sz nm mv ik td bg en so va iw im st ht)) [0, 1, 2, 3, 4, 5, 6, 7, 8, 9, 10, 11] [some 0, some 1, some 2, some 3, some 4, some 5, some 6, some 7, some 8, some 9, some 10, some 11] (rV C0 (tX5_finishes l D cI cS a0 a1 a2 a3 a4 a5 a6 a7 a8 a9 a10 a11 nw__16 kp ad fd tp kn it wd sz nm mv ik td bg en so va iw im st ht (nw__16 (fX5_placeNow nw__16).toNatClampNeg) z_35 e_36 (((hD (wX5 cI cS a0 a1 a2 a3 a4 a5 a6 a7 a8 a9 a10 a11 nw__16 kp ad fd tp kn it wd sz nm mv ik td bg en so va iw im st ht) rfl).sub [0, 1, 2, 3, 4, 5, 6, 7, 8, 9, 10, 11] (by decide) rfl).weaken (fun _ _ _ _ => trivial))) RX5 gX5_day_X5_finishes rfl ⟨rfl, rfl⟩ pdX5_finishes rfl ⟨Nat.le_of_ble_eq_true rfl, Nat.le_of_ble_eq_true rfl⟩ (fun _ _ _ _ q => q) (va_recv hE.1 hPc (ci := 4) (q0 := 0) rfl rfl) (fun U hU _ _ => by rw [hU]; exact hPc) hl.1 rfl (Nat.le_of_ble_eq_true rfl) dX5_day_102 ⟨Nat.zero_le _, Nat.zero_le _⟩) hP (hD _ rfl) hS rfl rfl rfl (fun H locs hP hS => ?_)
      refine lv_iconst (v := 0) hx hb dX5_day_105 (by decide) ?_
      refine lv_istore_n (lv' := [(2, .int 0), (1, .int (nw__16 (fX5_placeNow nw__16).toNatClampNeg)), (0, .ref a0)]) hx hb dX5_day_106 rfl hl (by decide) rfl (fun ls hl => ?_)
      exact lX5_day_107 (l := l) (e := e) (below := below) C0 F kp ad fd tp kn it wd sz nm mv ik td bg en so va iw im st ht z0 hD F 0 z_35 _ _ hP hS _ (lv_sub hl [2, 0] rfl) h
def fX5_daysGo_2 (F : Nat) (v1 : Int32) : Nat → Int32 → (Nat → Int32) → Option ((Nat → Int32))
  | 0, _, _ => none
  | n + 1, v2, nw => (if v1 ≤ v2 then some nw else Option.bind (fX5_day F nw) (fun z_2 => fX5_daysGo_2 F v1 n (v2 + 1) z_2))
def fX5_daysGo (F : Nat) (nw : Nat → Int32) (v1 : Int32) : Option ((Nat → Int32)) := fX5_daysGo_2 F v1 F 0 nw
abbrev rmX5_daysGo : Room := { frames := 6, cells := 0, slots := 0, locals := 135 }
theorem pdX5_daysGo : (yX5_daysGo.cls = RX5 ∧ yX5_daysGo.cls ≠ "java/lang/invoke/MethodHandle" ∧ yX5_daysGo.cls ≠ "java/lang/invoke/VarHandle" ∧ (parseMethodDescriptor yX5_daysGo.desc).map (fun d => d.parameters.length) = some 1) := by decide +kernel
set_option maxHeartbeats 4000000 in
set_option maxRecDepth 100000 in
theorem lX5_daysGo_2 {p : Program} {l : Launch} {e : Env} {s : State} {m : MethodId} {av : Array Value} {below : List Frame} {meth : Method} {c : Code} {D : va_G} {cI cS : ClassId} {a0 a1 a2 a3 a4 a5 a6 a7 a8 a9 a10 a11 : Nat} {W0 : va_W} (C0 : CX p s m av meth c RX5 cX5_daysGo 3 none wsX5_daysGo D cI cS) (F : Nat) (kp : Nat → Int32) (ad : Nat → Int32) (fd : Nat → Int32) (tp : Nat → Int32) (kn : Nat → Option Nat) (it : Nat → Int32) (wd : Nat → Int32) (sz : Nat → Int32) (nm : Nat → Int32) (mv : Nat → Int32) (ik : Int32) (td : Int32) (bg : Int32) (en : Int32) (so : Int32) (va : Int32) (iw : Int32) (im : Int32) (st : Int32) (ht : Int32) (v1 : Int32) (z0 : Nat → Int32) (hD : ∀ W : va_W, W.map Prod.fst = [a0, a1, a2, a3, a4, a5, a6, a7, a8, a9, a10, a11] → va_D (wA W0) W) : ∀ (n : Nat) (v2 : Int32) (nw : Nat → Int32) (H : Heap) (locs : List Loc), va_P D vwCl (wX5 cI cS a0 a1 a2 a3 a4 a5 a6 a7 a8 a9 a10 a11 nw kp ad fd tp kn it wd sz nm mv ik td bg en so va iw im st ht) H → va_S (wA W0) s.heap H locs → ∀ (ls : Array Slot), lv_has ls 3 [(0, .ref a0), (1, .int v1), (2, .int v2)] → fX5_daysGo_2 F v1 n v2 nw = some z0 → W p l e rmX5_daysGo s m av below meth c H locs 0 0 (MQ below (qV D W0 (wX5 cI cS a0 a1 a2 a3 a4 a5 a6 a7 a8 a9 a10 a11 z0 kp ad fd tp kn it wd sz nm mv ik td bg en so va iw im st ht)) av s 0 0 (wA W0)) (F0 m 2 ls []) := by
  obtain ⟨hx, hb, hr, hml, hown, hts, hlk, hE⟩ := id C0
  intro n
  induction n with
  | zero =>
    intro v2 nw H locs hP hS ls hl h
    cases (show none = some z0 from h)
  | succ n ih =>
    intro v2 nw H locs hP hS ls hl h
    rw [fX5_daysGo_2] at h
    refine lv_iload_n hx hb dX5_daysGo_2 rfl (lv_at hl 2 rfl) ?_
    refine lv_iload_n hx hb dX5_daysGo_3 rfl (lv_at hl 1 rfl) ?_
    refine lv_icmp_ge (tgt := 17) hx hb dX5_daysGo_4 (by decide) (fun c_1 => ?_) (fun c_1 => ?_)
    · have h := ifp c_1 h
      obtain rfl := Option.some.inj h
      exact eMv C0 hP hS rfl dX5_daysGo_17
    · have h := ifn c_1 h
      refine lv_aload_n hx hb dX5_daysGo_7 rfl (lv_at hl 0 rfl) ?_
      obtain ⟨z_2, e_3, h⟩ := bds h
      have hPc := hP.sub (ws' := (wX5 cI cS a0 a1 a2 a3 a4 a5 a6 a7 a8 a9 a10 a11 nw kp ad fd tp kn it wd sz nm mv ik td bg en so va iw im st ht)) [0, 1, 2, 3, 4, 5, 6, 7, 8, 9, 10, 11] rfl
      refine kMv (wf' := (wX5 cI cS a0 a1 a2 a3 a4 a5 a6 a7 a8 a9 a10 a11 z_2 kp ad fd tp kn it wd sz nm mv ik td bg en so va iw im st ht)) [0, 1, 2, 3, 4, 5, 6, 7, 8, 9, 10, 11] [some 0, some 1, some 2, some 3, some 4, some 5, some 6, some 7, some 8, some 9, some 10, some 11] (rV C0 (tX5_day l D cI cS F a0 a1 a2 a3 a4 a5 a6 a7 a8 a9 a10 a11 nw kp ad fd tp kn it wd sz nm mv ik td bg en so va iw im st ht  z_2 e_3 (((hD (wX5 cI cS a0 a1 a2 a3 a4 a5 a6 a7 a8 a9 a10 a11 nw kp ad fd tp kn it wd sz nm mv ik td bg en so va iw im st ht) rfl).sub [0, 1, 2, 3, 4, 5, 6, 7, 8, 9, 10, 11] (by decide) rfl).weaken (fun _ _ _ _ => trivial))) RX5 gX5_daysGo_X5_day rfl ⟨rfl, rfl⟩ pdX5_day rfl ⟨Nat.le_of_ble_eq_true rfl, Nat.le_of_ble_eq_true rfl⟩ (fun _ _ _ _ q => q) (va_recv hE.1 hPc (ci := 4) (q0 := 0) rfl rfl) (fun U hU _ _ => by rw [hU]; exact hPc) hl.1 rfl (Nat.le_of_ble_eq_true rfl) dX5_daysGo_8 ⟨Nat.zero_le _, Nat.zero_le _⟩) hP (hD _ rfl) hS rfl rfl rfl (fun H locs hP hS => ?_)
      refine lv_iinc (v := v2 + 1) (lv' := [(2, .int (v2 + 1)), (0, .ref a0), (1, .int v1)]) hx hb dX5_daysGo_11 hl (k := 2) rfl rfl (by decide) rfl (fun ls hl => ?_)
      refine lv_goto (tgt := 2) hx hb dX5_daysGo_14 (by decide) ?_
      exact ih (v2 + 1) z_2 _ _ hP hS _ (lv_sub hl [1, 2, 0] rfl) h
set_option maxHeartbeats 4000000 in
set_option maxRecDepth 100000 in
theorem tX5_daysGo (l : Launch) (D : va_G) (cI cS : ClassId) (F : Nat) (a0 a1 a2 a3 a4 a5 a6 a7 a8 a9 a10 a11 : Nat) (nw : Nat → Int32) (kp : Nat → Int32) (ad : Nat → Int32) (fd : Nat → Int32) (tp : Nat → Int32) (kn : Nat → Option Nat) (it : Nat → Int32) (wd : Nat → Int32) (sz : Nat → Int32) (nm : Nat → Int32) (mv : Nat → Int32) (ik : Int32) (td : Int32) (bg : Int32) (en : Int32) (so : Int32) (va : Int32) (iw : Int32) (im : Int32) (st : Int32) (ht : Int32) (v1 : Int32) (z0 : Nat → Int32) (h : fX5_daysGo F nw v1 = some z0) (hD0 : va_D (fun _ => True) (wX5 cI cS a0 a1 a2 a3 a4 a5 a6 a7 a8 a9 a10 a11 nw kp ad fd tp kn it wd sz nm mv ik td bg en so va iw im st ht)) : Met l yX5_daysGo wsX5_daysGo rmX5_daysGo (PZ D cI cS [.ref a0, .int v1] (fun U => va_P D vwCl (wX5 cI cS a0 a1 a2 a3 a4 a5 a6 a7 a8 a9 a10 a11 nw kp ad fd tp kn it wd sz nm mv ik td bg en so va iw im st ht) U.heap)) (qV D (wX5 cI cS a0 a1 a2 a3 a4 a5 a6 a7 a8 a9 a10 a11 nw kp ad fd tp kn it wd sz nm mv ik td bg en so va iw im st ht) (wX5 cI cS a0 a1 a2 a3 a4 a5 a6 a7 a8 a9 a10 a11 z0 kp ad fd tp kn it wd sz nm mv ik td bg en so va iw im st ht)) 0 0 (wA (wX5 cI cS a0 a1 a2 a3 a4 a5 a6 a7 a8 a9 a10 a11 nw kp ad fd tp kn it wd sz nm mv ik td bg en so va iw im st ht)) := by
  refine Met.mk RX5 (by decide) rfl rfl (Nat.le_of_ble_eq_true rfl) ?_
  intro p e s m below meth c ls C0 hP hl
  have hl : lv_has ls 3 [(0, .ref a0), (1, .int v1)] := hl
  obtain ⟨hx, hb, hr, hml, hown, hts, hlk, hE⟩ := id C0
  have hD : ∀ W : va_W, W.map Prod.fst = [a0, a1, a2, a3, a4, a5, a6, a7, a8, a9, a10, a11] → va_D (wA (wX5 cI cS a0 a1 a2 a3 a4 a5 a6 a7 a8 a9 a10 a11 nw kp ad fd tp kn it wd sz nm mv ik td bg en so va iw im st ht)) W := fun W hW => hD0.own.re hW
  have hS : va_S (wA (wX5 cI cS a0 a1 a2 a3 a4 a5 a6 a7 a8 a9 a10 a11 nw kp ad fd tp kn it wd sz nm mv ik td bg en so va iw im st ht)) s.heap s.heap [] := va_S.rf
  have hP : va_P D vwCl (wX5 cI cS a0 a1 a2 a3 a4 a5 a6 a7 a8 a9 a10 a11 nw kp ad fd tp kn it wd sz nm mv ik td bg en so va iw im st ht) s.heap := hP
  rw [fX5_daysGo] at h
  refine lv_iconst (v := 0) hx hb dX5_daysGo_0 (by decide) ?_
  refine lv_istore_n (lv' := [(2, .int 0), (0, .ref a0), (1, .int v1)]) hx hb dX5_daysGo_1 rfl hl (by decide) rfl (fun ls hl => ?_)
  exact lX5_daysGo_2 (l := l) (e := e) (below := below) C0 F kp ad fd tp kn it wd sz nm mv ik td bg en so va iw im st ht v1 z0 hD F 0 nw _ _ hP hS _ (lv_sub hl [1, 2, 0] rfl) h
def fX5_inPort_4 (nw : Nat → Int32) : Nat → Int32 → Int32 → Option (Int32)
  | 0, _, _ => none
  | n + 1, v1, v2 => (if (nw 3) ≤ v2 then some v1 else Option.bind (fX5_isInPort nw v2) (fun z_2 => (if z_2 = 0 then fX5_inPort_4 nw n (v1 ||| 0) (v2 + 1) else fX5_inPort_4 nw n (v1 ||| (1 <<< (v2 &&& 31))) (v2 + 1))))
def fX5_inPort (F : Nat) (nw : Nat → Int32) : Option (Int32) := fX5_inPort_4 nw F 0 0
abbrev rmX5_inPort : Room := { frames := 3, cells := 0, slots := 0, locals := 64 }
theorem pdX5_inPort : (yX5_inPort.cls = RX5 ∧ yX5_inPort.cls ≠ "java/lang/invoke/MethodHandle" ∧ yX5_inPort.cls ≠ "java/lang/invoke/VarHandle" ∧ (parseMethodDescriptor yX5_inPort.desc).map (fun d => d.parameters.length) = some 0) := by decide +kernel
set_option maxHeartbeats 4000000 in
set_option maxRecDepth 100000 in
theorem lX5_inPort_4 {p : Program} {l : Launch} {e : Env} {s : State} {m : MethodId} {av : Array Value} {below : List Frame} {meth : Method} {c : Code} {D : va_G} {cI cS : ClassId} {a0 a1 a2 a3 a4 a5 a6 a7 a8 a9 a10 a11 : Nat} (C0 : CX p s m av meth c RX5 cX5_inPort 3 (some .int) wsX5_inPort D cI cS) (F : Nat) (nw : Nat → Int32) (kp : Nat → Int32) (ad : Nat → Int32) (fd : Nat → Int32) (tp : Nat → Int32) (kn : Nat → Option Nat) (it : Nat → Int32) (wd : Nat → Int32) (sz : Nat → Int32) (nm : Nat → Int32) (mv : Nat → Int32) (ik : Int32) (td : Int32) (bg : Int32) (en : Int32) (so : Int32) (va : Int32) (iw : Int32) (im : Int32) (st : Int32) (ht : Int32) (z0 : Int32) (hP : va_P D vwCl (wX5 cI cS a0 a1 a2 a3 a4 a5 a6 a7 a8 a9 a10 a11 nw kp ad fd tp kn it wd sz nm mv ik td bg en so va iw im st ht) s.heap) : ∀ (n : Nat) (v1 : Int32) (v2 : Int32), ∀ (ls : Array Slot), lv_has ls 3 [(0, .ref a0), (1, .int v1), (2, .int v2)] → fX5_inPort_4 nw n v1 v2 = some z0 → W p l e rmX5_inPort s m av below meth c s.heap [] 0 0 (MQ below (vp_Si (fun x => x = z0)) av s 0 0 (fun _ => False)) (F0 m 4 ls []) := by
  obtain ⟨hx, hb, hr, hml, hown, hts, hlk, hE⟩ := id C0
  have hinX5 : ∀ w ∈ u_ws RX5 TX5 21, w ∈ wsX5_inPort := by decide +kernel
  intro n
  induction n with
  | zero =>
    intro v1 v2 ls hl h
    cases (show none = some z0 from h)
  | succ n ih =>
    intro v1 v2 ls hl h
    rw [fX5_inPort_4] at h
    refine lv_iload_n hx hb dX5_inPort_4 rfl (lv_at hl 2 rfl) ?_
    refine lv_aload_n hx hb dX5_inPort_5 rfl (lv_at hl 0 rfl) ?_
    refine va_get (D := D) (ci := 4) (v := .ref a1) (C := RX5) (T := TX5) (N := 21) hx hb hts hinX5 hown hE.1 hP 0 rfl rfl 0 (by decide) (hts _ (List.mem_of_getElem? (i := 1) rfl)) (fun _ h9 => h9) rfl dX5_inPort_6 ?_
    refine lv_iconst (v := 3) hx hb dX5_inPort_9 (by decide) ?_
    refine va_iald hx hb hE.1 hP 1 0 rfl rfl (by unfold vp_in; decide : vp_in 3 84) dX5_inPort_10 ?_
    refine lv_eqi (y := nw 3) rfl ?_
    refine lv_icmp_ge (tgt := 38) hx hb dX5_inPort_11 (by decide) (fun c_1 => ?_) (fun c_1 => ?_)
    · have h := ifp c_1 h
      refine lv_iload_n hx hb dX5_inPort_38 rfl (lv_at hl 1 rfl) ?_
      exact eRi C0 (Option.some.inj h) dX5_inPort_39
    · have h := ifn c_1 h
      refine lv_iload_n hx hb dX5_inPort_14 rfl (lv_at hl 1 rfl) ?_
      refine lv_aload_n hx hb dX5_inPort_15 rfl (lv_at hl 0 rfl) ?_
      refine lv_iload_n hx hb dX5_inPort_16 rfl (lv_at hl 2 rfl) ?_
      obtain ⟨z_2, e_3, h⟩ := bds h
      have hPc := hP.sub (ws' := (wX5 cI cS a0 a1 a2 a3 a4 a5 a6 a7 a8 a9 a10 a11 nw kp ad fd tp kn it wd sz nm mv ik td bg en so va iw im st ht)) [0, 1, 2, 3, 4, 5, 6, 7, 8, 9, 10, 11] rfl
      refine kRi (rV C0 (tX5_isInPort l D cI cS a0 a1 a2 a3 a4 a5 a6 a7 a8 a9 a10 a11 nw kp ad fd tp kn it wd sz nm mv ik td bg en so va iw im st ht v2 z_2 e_3) RX5 gX5_inPort_X5_isInPort rfl ⟨rfl, rfl⟩ pdX5_isInPort rfl ⟨Nat.le_of_ble_eq_true rfl, Nat.le_of_ble_eq_true rfl⟩ (fun _ _ _ _ q => q) (va_recv hE.1 hPc (ci := 4) (q0 := 0) rfl rfl) (fun U hU _ _ => by rw [hU]; exact hPc) hl.1 rfl (Nat.le_of_ble_eq_true rfl) dX5_inPort_17 ⟨Nat.zero_le _, Nat.zero_le _⟩) ?_
      refine lv_if_eq (tgt := 29) hx hb dX5_inPort_20 (by decide) (fun c_4 => ?_) (fun c_4 => ?_)
      · have h := ifp c_4 h
        refine lv_iconst (v := 0) hx hb dX5_inPort_29 (by decide) ?_
        refine lv_ior hx hb dX5_inPort_30 ?_
        refine lv_istore_n (lv' := [(1, .int (v1 ||| 0)), (0, .ref a0), (2, .int v2)]) hx hb dX5_inPort_31 rfl hl (by decide) rfl (fun ls hl => ?_)
        refine lv_iinc (v := v2 + 1) (lv' := [(2, .int (v2 + 1)), (1, .int (v1 ||| 0)), (0, .ref a0)]) hx hb dX5_inPort_32 hl (k := 2) rfl rfl (by decide) rfl (fun ls hl => ?_)
        refine lv_goto (tgt := 4) hx hb dX5_inPort_35 (by decide) ?_
        exact ih (v1 ||| 0) (v2 + 1) _ (lv_sub hl [2, 1, 0] rfl) h
      · have h := ifn c_4 h
        refine lv_iconst (v := 1) hx hb dX5_inPort_23 (by decide) ?_
        refine lv_iload_n hx hb dX5_inPort_24 rfl (lv_at hl 2 rfl) ?_
        refine lv_ishl hx hb dX5_inPort_25 ?_
        refine lv_goto (tgt := 30) hx hb dX5_inPort_26 (by decide) ?_
        refine lv_ior hx hb dX5_inPort_30 ?_
        refine lv_istore_n (lv' := [(1, .int (v1 ||| (1 <<< (v2 &&& 31)))), (0, .ref a0), (2, .int v2)]) hx hb dX5_inPort_31 rfl hl (by decide) rfl (fun ls hl => ?_)
        refine lv_iinc (v := v2 + 1) (lv' := [(2, .int (v2 + 1)), (1, .int (v1 ||| (1 <<< (v2 &&& 31)))), (0, .ref a0)]) hx hb dX5_inPort_32 hl (k := 2) rfl rfl (by decide) rfl (fun ls hl => ?_)
        refine lv_goto (tgt := 4) hx hb dX5_inPort_35 (by decide) ?_
        exact ih (v1 ||| (1 <<< (v2 &&& 31))) (v2 + 1) _ (lv_sub hl [2, 1, 0] rfl) h
set_option maxHeartbeats 4000000 in
set_option maxRecDepth 100000 in
theorem tX5_inPort (l : Launch) (D : va_G) (cI cS : ClassId) (F : Nat) (a0 a1 a2 a3 a4 a5 a6 a7 a8 a9 a10 a11 : Nat) (nw : Nat → Int32) (kp : Nat → Int32) (ad : Nat → Int32) (fd : Nat → Int32) (tp : Nat → Int32) (kn : Nat → Option Nat) (it : Nat → Int32) (wd : Nat → Int32) (sz : Nat → Int32) (nm : Nat → Int32) (mv : Nat → Int32) (ik : Int32) (td : Int32) (bg : Int32) (en : Int32) (so : Int32) (va : Int32) (iw : Int32) (im : Int32) (st : Int32) (ht : Int32) (z0 : Int32) (h : fX5_inPort F nw = some z0) : Met l yX5_inPort wsX5_inPort rmX5_inPort (PZ D cI cS [.ref a0] (fun U => va_P D vwCl (wX5 cI cS a0 a1 a2 a3 a4 a5 a6 a7 a8 a9 a10 a11 nw kp ad fd tp kn it wd sz nm mv ik td bg en so va iw im st ht) U.heap)) (vp_Si (fun x => x = z0)) 0 0 (fun _ => False) := by
  refine Met.mk RX5 (by decide) rfl rfl (Nat.le_of_ble_eq_true rfl) ?_
  intro p e s m below meth c ls C0 hP hl
  have hl : lv_has ls 3 [(0, .ref a0)] := hl
  obtain ⟨hx, hb, hr, hml, hown, hts, hlk, hE⟩ := id C0
  have hinX5 : ∀ w ∈ u_ws RX5 TX5 21, w ∈ wsX5_inPort := by decide +kernel
  rw [fX5_inPort] at h
  refine lv_iconst (v := 0) hx hb dX5_inPort_0 (by decide) ?_
  refine lv_istore_n (lv' := [(1, .int 0), (0, .ref a0)]) hx hb dX5_inPort_1 rfl hl (by decide) rfl (fun ls hl => ?_)
  refine lv_iconst (v := 0) hx hb dX5_inPort_2 (by decide) ?_
  refine lv_istore_n (lv' := [(2, .int 0), (1, .int 0), (0, .ref a0)]) hx hb dX5_inPort_3 rfl hl (by decide) rfl (fun ls hl => ?_)
  exact lX5_inPort_4 (l := l) (e := e) (below := below) C0 F nw kp ad fd tp kn it wd sz nm mv ik td bg en so va iw im st ht z0 hP F 0 0 _ (lv_sub hl [2, 1, 0] rfl) h
def fX5_go (F : Nat) (nw : Nat → Int32) (fd : Nat → Int32) (v1 : Int32) : Option (Int32 × (Nat → Int32) × (Nat → Int32)) := (if (fX5_within v1 1 60) = 0 then Option.bind (fX5_finding fd (-1000001)) (fun z_9 => some (z_9.1, nw, z_9.2)) else (if ((nw 0) + v1) ≤ 99999 then Option.bind (fX5_daysGo F nw v1) (fun z_3 => Option.bind (fX5_inPort F z_3) (fun z_5 => some (z_5, z_3, fd))) else Option.bind (fX5_finding fd (-1000005)) (fun z_7 => some (z_7.1, nw, z_7.2))))
abbrev rmX5_go : Room := { frames := 7, cells := 0, slots := 0, locals := 157 }
theorem pdX5_go : (yX5_go.cls = RX5 ∧ yX5_go.cls ≠ "java/lang/invoke/MethodHandle" ∧ yX5_go.cls ≠ "java/lang/invoke/VarHandle" ∧ (parseMethodDescriptor yX5_go.desc).map (fun d => d.parameters.length) = some 1) := by decide +kernel
set_option maxHeartbeats 4000000 in
set_option maxRecDepth 100000 in
theorem tX5_go (l : Launch) (D : va_G) (cI cS : ClassId) (F : Nat) (a0 a1 a2 a3 a4 a5 a6 a7 a8 a9 a10 a11 : Nat) (nw : Nat → Int32) (kp : Nat → Int32) (ad : Nat → Int32) (fd : Nat → Int32) (tp : Nat → Int32) (kn : Nat → Option Nat) (it : Nat → Int32) (wd : Nat → Int32) (sz : Nat → Int32) (nm : Nat → Int32) (mv : Nat → Int32) (ik : Int32) (td : Int32) (bg : Int32) (en : Int32) (so : Int32) (va : Int32) (iw : Int32) (im : Int32) (st : Int32) (ht : Int32) (v1 : Int32) (z0 : Int32) (z1 : Nat → Int32) (z2 : Nat → Int32) (h : fX5_go F nw fd v1 = some (z0, z1, z2)) (hD0 : va_D (fun _ => True) (wX5 cI cS a0 a1 a2 a3 a4 a5 a6 a7 a8 a9 a10 a11 nw kp ad fd tp kn it wd sz nm mv ik td bg en so va iw im st ht)) : Met l yX5_go wsX5_go rmX5_go (PZ D cI cS [.ref a0, .int v1] (fun U => va_P D vwCl (wX5 cI cS a0 a1 a2 a3 a4 a5 a6 a7 a8 a9 a10 a11 nw kp ad fd tp kn it wd sz nm mv ik td bg en so va iw im st ht) U.heap)) (qI D (wX5 cI cS a0 a1 a2 a3 a4 a5 a6 a7 a8 a9 a10 a11 nw kp ad fd tp kn it wd sz nm mv ik td bg en so va iw im st ht) (wX5 cI cS a0 a1 a2 a3 a4 a5 a6 a7 a8 a9 a10 a11 z1 kp ad z2 tp kn it wd sz nm mv ik td bg en so va iw im st ht) z0) 0 0 (wA (wX5 cI cS a0 a1 a2 a3 a4 a5 a6 a7 a8 a9 a10 a11 nw kp ad fd tp kn it wd sz nm mv ik td bg en so va iw im st ht)) := by
  refine Met.mk RX5 (by decide) rfl rfl (Nat.le_of_ble_eq_true rfl) ?_
  intro p e s m below meth c ls C0 hP hl
  have hl : lv_has ls 2 [(0, .ref a0), (1, .int v1)] := hl
  obtain ⟨hx, hb, hr, hml, hown, hts, hlk, hE⟩ := id C0
  have hinX5 : ∀ w ∈ u_ws RX5 TX5 21, w ∈ wsX5_go := by decide +kernel
  have hD : ∀ W : va_W, W.map Prod.fst = [a0, a1, a2, a3, a4, a5, a6, a7, a8, a9, a10, a11] → va_D (wA (wX5 cI cS a0 a1 a2 a3 a4 a5 a6 a7 a8 a9 a10 a11 nw kp ad fd tp kn it wd sz nm mv ik td bg en so va iw im st ht)) W := fun W hW => hD0.own.re hW
  have hS : va_S (wA (wX5 cI cS a0 a1 a2 a3 a4 a5 a6 a7 a8 a9 a10 a11 nw kp ad fd tp kn it wd sz nm mv ik td bg en so va iw im st ht)) s.heap s.heap [] := va_S.rf
  have hP : va_P D vwCl (wX5 cI cS a0 a1 a2 a3 a4 a5 a6 a7 a8 a9 a10 a11 nw kp ad fd tp kn it wd sz nm mv ik td bg en so va iw im st ht) s.heap := hP
  rw [fX5_go] at h
  refine lv_iload_n hx hb dX5_go_0 rfl (lv_at hl 1 rfl) ?_
  refine lv_iconst (v := 1) hx hb dX5_go_1 (by decide) ?_
  refine lv_bipush (v := 60) hx hb dX5_go_2 (by decide) ?_
  refine kRi (rS C0 (tX5_within l D cI cS v1 1 60 (fX5_within v1 1 60) rfl) gX5_go_X5_within rfl ⟨rfl, rfl⟩ pdX5_within rfl ⟨Nat.le_of_ble_eq_true rfl, Nat.le_of_ble_eq_true rfl⟩ (fun _ _ _ _ q => q) (fun _ _ _ _ => vp0) hl.1 rfl (Nat.le_of_ble_eq_true rfl) dX5_go_4 ⟨Nat.zero_le _, Nat.zero_le _⟩) ?_
  refine lv_if_ne (tgt := 17) hx hb dX5_go_7 (by decide) (fun c_1 => ?_) (fun c_1 => ?_)
  · have h := ifn c_1 h
    refine lv_aload_n hx hb dX5_go_17 rfl (lv_at hl 0 rfl) ?_
    refine va_get (D := D) (ci := 4) (v := .ref a1) (C := RX5) (T := TX5) (N := 21) hx hb hts hinX5 hown hE.1 hP 0 rfl rfl 0 (by decide) (hts _ (List.mem_of_getElem? (i := 2) rfl)) (fun _ h9 => h9) rfl dX5_go_18 ?_
    refine lv_iconst (v := 0) hx hb dX5_go_21 (by decide) ?_
    refine va_iald hx hb hE.1 hP 1 0 rfl rfl (by unfold vp_in; decide : vp_in 0 84) dX5_go_22 ?_
    refine lv_eqi (y := nw 0) rfl ?_
    refine lv_iload_n hx hb dX5_go_23 rfl (lv_at hl 1 rfl) ?_
    refine lv_iadd hx hb dX5_go_24 ?_
    refine lv_ldc (v := 99999) hx hb hown (hts _ (List.mem_of_getElem? (i := 3) rfl)) dX5_go_25 ?_
    refine lv_icmp_le (tgt := 37) hx hb dX5_go_27 (by decide) (fun c_2 => ?_) (fun c_2 => ?_)
    · have h := ifp c_2 h
      refine lv_aload_n hx hb dX5_go_37 rfl (lv_at hl 0 rfl) ?_
      refine lv_iload_n hx hb dX5_go_38 rfl (lv_at hl 1 rfl) ?_
      obtain ⟨z_3, e_4, h⟩ := bds h
      have hPc := hP.sub (ws' := (wX5 cI cS a0 a1 a2 a3 a4 a5 a6 a7 a8 a9 a10 a11 nw kp ad fd tp kn it wd sz nm mv ik td bg en so va iw im st ht)) [0, 1, 2, 3, 4, 5, 6, 7, 8, 9, 10, 11] rfl
      refine kMv (wf' := (wX5 cI cS a0 a1 a2 a3 a4 a5 a6 a7 a8 a9 a10 a11 z_3 kp ad fd tp kn it wd sz nm mv ik td bg en so va iw im st ht)) [0, 1, 2, 3, 4, 5, 6, 7, 8, 9, 10, 11] [some 0, some 1, some 2, some 3, some 4, some 5, some 6, some 7, some 8, some 9, some 10, some 11] (rV C0 (tX5_daysGo l D cI cS F a0 a1 a2 a3 a4 a5 a6 a7 a8 a9 a10 a11 nw kp ad fd tp kn it wd sz nm mv ik td bg en so va iw im st ht v1 z_3 e_4 (((hD (wX5 cI cS a0 a1 a2 a3 a4 a5 a6 a7 a8 a9 a10 a11 nw kp ad fd tp kn it wd sz nm mv ik td bg en so va iw im st ht) rfl).sub [0, 1, 2, 3, 4, 5, 6, 7, 8, 9, 10, 11] (by decide) rfl).weaken (fun _ _ _ _ => trivial))) RX5 gX5_go_X5_daysGo rfl ⟨rfl, rfl⟩ pdX5_daysGo rfl ⟨Nat.le_of_ble_eq_true rfl, Nat.le_of_ble_eq_true rfl⟩ (fun _ _ _ _ q => q) (va_recv hE.1 hPc (ci := 4) (q0 := 0) rfl rfl) (fun U hU _ _ => by rw [hU]; exact hPc) hl.1 rfl (Nat.le_of_ble_eq_true rfl) dX5_go_39 ⟨Nat.zero_le _, Nat.zero_le _⟩) hP (hD _ rfl) hS rfl rfl rfl (fun H locs hP hS => ?_)
      refine lv_aload_n hx hb dX5_go_42 rfl (lv_at hl 0 rfl) ?_
      obtain ⟨z_5, e_6, h⟩ := bds h
      have hPc := hP.sub (ws' := (wX5 cI cS a0 a1 a2 a3 a4 a5 a6 a7 a8 a9 a10 a11 z_3 kp ad fd tp kn it wd sz nm mv ik td bg en so va iw im st ht)) [0, 1, 2, 3, 4, 5, 6, 7, 8, 9, 10, 11] rfl
      refine kRi (rV C0 (tX5_inPort l D cI cS F a0 a1 a2 a3 a4 a5 a6 a7 a8 a9 a10 a11 z_3 kp ad fd tp kn it wd sz nm mv ik td bg en so va iw im st ht  z_5 e_6) RX5 gX5_go_X5_inPort rfl ⟨rfl, rfl⟩ pdX5_inPort rfl ⟨Nat.le_of_ble_eq_true rfl, Nat.le_of_ble_eq_true rfl⟩ (fun _ _ _ _ q => q) (va_recv hE.1 hPc (ci := 4) (q0 := 0) rfl rfl) (fun U hU _ _ => by rw [hU]; exact hPc) hl.1 rfl (Nat.le_of_ble_eq_true rfl) dX5_go_43 ⟨Nat.zero_le _, Nat.zero_le _⟩) ?_
      obtain ⟨q0, g0⟩ := Prod.mk.inj (Option.some.inj h)
      obtain ⟨q1, q2⟩ := Prod.mk.inj g0
      subst q0 q1 q2
      exact eMi C0 hP hS rfl rfl dX5_go_46
    · have h := ifn c_2 h
      refine lv_aload_n hx hb dX5_go_30 rfl (lv_at hl 0 rfl) ?_
      refine lv_ldc (v := (-1000005)) hx hb hown (hts _ (List.mem_of_getElem? (i := 4) rfl)) dX5_go_31 ?_
      obtain ⟨z_7, e_8, h⟩ := bds h
      have hPc := hP.sub (ws' := (wX5 cI cS a0 a1 a2 a3 a4 a5 a6 a7 a8 a9 a10 a11 nw kp ad fd tp kn it wd sz nm mv ik td bg en so va iw im st ht)) [0, 1, 2, 3, 4, 5, 6, 7, 8, 9, 10, 11] rfl
      refine kMi (wf' := (wX5 cI cS a0 a1 a2 a3 a4 a5 a6 a7 a8 a9 a10 a11 nw kp ad z_7.2 tp kn it wd sz nm mv ik td bg en so va iw im st ht)) [0, 1, 2, 3, 4, 5, 6, 7, 8, 9, 10, 11] [some 0, some 1, some 2, some 3, some 4, some 5, some 6, some 7, some 8, some 9, some 10, some 11] (rV C0 (tX5_finding l D cI cS a0 a1 a2 a3 a4 a5 a6 a7 a8 a9 a10 a11 nw kp ad fd tp kn it wd sz nm mv ik td bg en so va iw im st ht (-1000005) z_7.1 z_7.2 e_8 (((hD (wX5 cI cS a0 a1 a2 a3 a4 a5 a6 a7 a8 a9 a10 a11 nw kp ad fd tp kn it wd sz nm mv ik td bg en so va iw im st ht) rfl).sub [0, 1, 2, 3, 4, 5, 6, 7, 8, 9, 10, 11] (by decide) rfl).weaken (fun _ _ _ _ => trivial))) RX5 gX5_go_X5_finding rfl ⟨rfl, rfl⟩ pdX5_finding rfl ⟨Nat.le_of_ble_eq_true rfl, Nat.le_of_ble_eq_true rfl⟩ (fun _ _ _ _ q => q) (va_recv hE.1 hPc (ci := 4) (q0 := 0) rfl rfl) (fun U hU _ _ => by rw [hU]; exact hPc) hl.1 rfl (Nat.le_of_ble_eq_true rfl) dX5_go_33 ⟨Nat.zero_le _, Nat.zero_le _⟩) hP (hD _ rfl) hS rfl rfl rfl (fun H locs hP hS => ?_)
      obtain ⟨q0, g0⟩ := Prod.mk.inj (Option.some.inj h)
      obtain ⟨q1, q2⟩ := Prod.mk.inj g0
      subst q0 q1 q2
      exact eMi C0 hP hS rfl rfl dX5_go_36
  · have h := ifp c_1 h
    refine lv_aload_n hx hb dX5_go_10 rfl (lv_at hl 0 rfl) ?_
    refine lv_ldc (v := (-1000001)) hx hb hown (hts _ (List.mem_of_getElem? (i := 1) rfl)) dX5_go_11 ?_
    obtain ⟨z_9, e_10, h⟩ := bds h
    have hPc := hP.sub (ws' := (wX5 cI cS a0 a1 a2 a3 a4 a5 a6 a7 a8 a9 a10 a11 nw kp ad fd tp kn it wd sz nm mv ik td bg en so va iw im st ht)) [0, 1, 2, 3, 4, 5, 6, 7, 8, 9, 10, 11] rfl
    refine kMi (wf' := (wX5 cI cS a0 a1 a2 a3 a4 a5 a6 a7 a8 a9 a10 a11 nw kp ad z_9.2 tp kn it wd sz nm mv ik td bg en so va iw im st ht)) [0, 1, 2, 3, 4, 5, 6, 7, 8, 9, 10, 11] [some 0, some 1, some 2, some 3, some 4, some 5, some 6, some 7, some 8, some 9, some 10, some 11] (rV C0 (tX5_finding l D cI cS a0 a1 a2 a3 a4 a5 a6 a7 a8 a9 a10 a11 nw kp ad fd tp kn it wd sz nm mv ik td bg en so va iw im st ht (-1000001) z_9.1 z_9.2 e_10 (((hD (wX5 cI cS a0 a1 a2 a3 a4 a5 a6 a7 a8 a9 a10 a11 nw kp ad fd tp kn it wd sz nm mv ik td bg en so va iw im st ht) rfl).sub [0, 1, 2, 3, 4, 5, 6, 7, 8, 9, 10, 11] (by decide) rfl).weaken (fun _ _ _ _ => trivial))) RX5 gX5_go_X5_finding rfl ⟨rfl, rfl⟩ pdX5_finding rfl ⟨Nat.le_of_ble_eq_true rfl, Nat.le_of_ble_eq_true rfl⟩ (fun _ _ _ _ q => q) (va_recv hE.1 hPc (ci := 4) (q0 := 0) rfl rfl) (fun U hU _ _ => by rw [hU]; exact hPc) hl.1 rfl (Nat.le_of_ble_eq_true rfl) dX5_go_13 ⟨Nat.zero_le _, Nat.zero_le _⟩) hP (hD _ rfl) hS rfl rfl rfl (fun H locs hP hS => ?_)
    obtain ⟨q0, g0⟩ := Prod.mk.inj (Option.some.inj h)
    obtain ⟨q1, q2⟩ := Prod.mk.inj g0
    subst q0 q1 q2
    exact eMi C0 hP hS rfl rfl dX5_go_16
def fX5_finishedOnes_4 (nw : Nat → Int32) : Nat → Int32 → Int32 → Option (Int32)
  | 0, _, _ => none
  | n + 1, v1, v2 => (if (nw 1) ≤ v2 then some v1 else Option.bind (fX5_sayingIs nw v2 3) (fun z_2 => fX5_finishedOnes_4 nw n (v1 ||| (z_2 <<< (v2 &&& 31))) (v2 + 1)))
def fX5_finishedOnes (F : Nat) (nw : Nat → Int32) : Option (Int32) := fX5_finishedOnes_4 nw F 0 0
abbrev rmX5_finishedOnes : Room := { frames := 2, cells := 0, slots := 0, locals := 43 }
theorem pdX5_finishedOnes : (yX5_finishedOnes.cls = RX5 ∧ yX5_finishedOnes.cls ≠ "java/lang/invoke/MethodHandle" ∧ yX5_finishedOnes.cls ≠ "java/lang/invoke/VarHandle" ∧ (parseMethodDescriptor yX5_finishedOnes.desc).map (fun d => d.parameters.length) = some 0) := by decide +kernel
set_option maxHeartbeats 4000000 in
set_option maxRecDepth 100000 in
theorem lX5_finishedOnes_4 {p : Program} {l : Launch} {e : Env} {s : State} {m : MethodId} {av : Array Value} {below : List Frame} {meth : Method} {c : Code} {D : va_G} {cI cS : ClassId} {a0 a1 a2 a3 a4 a5 a6 a7 a8 a9 a10 a11 : Nat} (C0 : CX p s m av meth c RX5 cX5_finishedOnes 3 (some .int) wsX5_finishedOnes D cI cS) (F : Nat) (nw : Nat → Int32) (kp : Nat → Int32) (ad : Nat → Int32) (fd : Nat → Int32) (tp : Nat → Int32) (kn : Nat → Option Nat) (it : Nat → Int32) (wd : Nat → Int32) (sz : Nat → Int32) (nm : Nat → Int32) (mv : Nat → Int32) (ik : Int32) (td : Int32) (bg : Int32) (en : Int32) (so : Int32) (va : Int32) (iw : Int32) (im : Int32) (st : Int32) (ht : Int32) (z0 : Int32) (hP : va_P D vwCl (wX5 cI cS a0 a1 a2 a3 a4 a5 a6 a7 a8 a9 a10 a11 nw kp ad fd tp kn it wd sz nm mv ik td bg en so va iw im st ht) s.heap) : ∀ (n : Nat) (v1 : Int32) (v2 : Int32), ∀ (ls : Array Slot), lv_has ls 3 [(0, .ref a0), (1, .int v1), (2, .int v2)] → fX5_finishedOnes_4 nw n v1 v2 = some z0 → W p l e rmX5_finishedOnes s m av below meth c s.heap [] 0 0 (MQ below (vp_Si (fun x => x = z0)) av s 0 0 (fun _ => False)) (F0 m 4 ls []) := by
  obtain ⟨hx, hb, hr, hml, hown, hts, hlk, hE⟩ := id C0
  have hinX5 : ∀ w ∈ u_ws RX5 TX5 21, w ∈ wsX5_finishedOnes := by decide +kernel
  intro n
  induction n with
  | zero =>
    intro v1 v2 ls hl h
    cases (show none = some z0 from h)
  | succ n ih =>
    intro v1 v2 ls hl h
    rw [fX5_finishedOnes_4] at h
    refine lv_iload_n hx hb dX5_finishedOnes_4 rfl (lv_at hl 2 rfl) ?_
    refine lv_aload_n hx hb dX5_finishedOnes_5 rfl (lv_at hl 0 rfl) ?_
    refine va_get (D := D) (ci := 4) (v := .ref a1) (C := RX5) (T := TX5) (N := 21) hx hb hts hinX5 hown hE.1 hP 0 rfl rfl 0 (by decide) (hts _ (List.mem_of_getElem? (i := 1) rfl)) (fun _ h9 => h9) rfl dX5_finishedOnes_6 ?_
    refine lv_iconst (v := 1) hx hb dX5_finishedOnes_9 (by decide) ?_
    refine va_iald hx hb hE.1 hP 1 0 rfl rfl (by unfold vp_in; decide : vp_in 1 84) dX5_finishedOnes_10 ?_
    refine lv_eqi (y := nw 1) rfl ?_
    refine lv_icmp_ge (tgt := 31) hx hb dX5_finishedOnes_11 (by decide) (fun c_1 => ?_) (fun c_1 => ?_)
    · have h := ifp c_1 h
      refine lv_iload_n hx hb dX5_finishedOnes_31 rfl (lv_at hl 1 rfl) ?_
      exact eRi C0 (Option.some.inj h) dX5_finishedOnes_32
    · have h := ifn c_1 h
      refine lv_iload_n hx hb dX5_finishedOnes_14 rfl (lv_at hl 1 rfl) ?_
      refine lv_aload_n hx hb dX5_finishedOnes_15 rfl (lv_at hl 0 rfl) ?_
      refine lv_iload_n hx hb dX5_finishedOnes_16 rfl (lv_at hl 2 rfl) ?_
      refine lv_iconst (v := 3) hx hb dX5_finishedOnes_17 (by decide) ?_
      obtain ⟨z_2, e_3, h⟩ := bds h
      have hPc := hP.sub (ws' := (wX5 cI cS a0 a1 a2 a3 a4 a5 a6 a7 a8 a9 a10 a11 nw kp ad fd tp kn it wd sz nm mv ik td bg en so va iw im st ht)) [0, 1, 2, 3, 4, 5, 6, 7, 8, 9, 10, 11] rfl
      refine kRi (rV C0 (tX5_sayingIs l D cI cS a0 a1 a2 a3 a4 a5 a6 a7 a8 a9 a10 a11 nw kp ad fd tp kn it wd sz nm mv ik td bg en so va iw im st ht v2 3 z_2 e_3) RX5 gX5_finishedOnes_X5_sayingIs rfl ⟨rfl, rfl⟩ pdX5_sayingIs rfl ⟨Nat.le_of_ble_eq_true rfl, Nat.le_of_ble_eq_true rfl⟩ (fun _ _ _ _ q => q) (va_recv hE.1 hPc (ci := 4) (q0 := 0) rfl rfl) (fun U hU _ _ => by rw [hU]; exact hPc) hl.1 rfl (Nat.le_of_ble_eq_true rfl) dX5_finishedOnes_18 ⟨Nat.zero_le _, Nat.zero_le _⟩) ?_
      refine lv_iload_n hx hb dX5_finishedOnes_21 rfl (lv_at hl 2 rfl) ?_
      refine lv_ishl hx hb dX5_finishedOnes_22 ?_
      refine lv_ior hx hb dX5_finishedOnes_23 ?_
      refine lv_istore_n (lv' := [(1, .int (v1 ||| (z_2 <<< (v2 &&& 31)))), (0, .ref a0), (2, .int v2)]) hx hb dX5_finishedOnes_24 rfl hl (by decide) rfl (fun ls hl => ?_)
      refine lv_iinc (v := v2 + 1) (lv' := [(2, .int (v2 + 1)), (1, .int (v1 ||| (z_2 <<< (v2 &&& 31)))), (0, .ref a0)]) hx hb dX5_finishedOnes_25 hl (k := 2) rfl rfl (by decide) rfl (fun ls hl => ?_)
      refine lv_goto (tgt := 4) hx hb dX5_finishedOnes_28 (by decide) ?_
      exact ih (v1 ||| (z_2 <<< (v2 &&& 31))) (v2 + 1) _ (lv_sub hl [2, 1, 0] rfl) h
set_option maxHeartbeats 4000000 in
set_option maxRecDepth 100000 in
theorem tX5_finishedOnes (l : Launch) (D : va_G) (cI cS : ClassId) (F : Nat) (a0 a1 a2 a3 a4 a5 a6 a7 a8 a9 a10 a11 : Nat) (nw : Nat → Int32) (kp : Nat → Int32) (ad : Nat → Int32) (fd : Nat → Int32) (tp : Nat → Int32) (kn : Nat → Option Nat) (it : Nat → Int32) (wd : Nat → Int32) (sz : Nat → Int32) (nm : Nat → Int32) (mv : Nat → Int32) (ik : Int32) (td : Int32) (bg : Int32) (en : Int32) (so : Int32) (va : Int32) (iw : Int32) (im : Int32) (st : Int32) (ht : Int32) (z0 : Int32) (h : fX5_finishedOnes F nw = some z0) : Met l yX5_finishedOnes wsX5_finishedOnes rmX5_finishedOnes (PZ D cI cS [.ref a0] (fun U => va_P D vwCl (wX5 cI cS a0 a1 a2 a3 a4 a5 a6 a7 a8 a9 a10 a11 nw kp ad fd tp kn it wd sz nm mv ik td bg en so va iw im st ht) U.heap)) (vp_Si (fun x => x = z0)) 0 0 (fun _ => False) := by
  refine Met.mk RX5 (by decide) rfl rfl (Nat.le_of_ble_eq_true rfl) ?_
  intro p e s m below meth c ls C0 hP hl
  have hl : lv_has ls 3 [(0, .ref a0)] := hl
  obtain ⟨hx, hb, hr, hml, hown, hts, hlk, hE⟩ := id C0
  have hinX5 : ∀ w ∈ u_ws RX5 TX5 21, w ∈ wsX5_finishedOnes := by decide +kernel
  rw [fX5_finishedOnes] at h
  refine lv_iconst (v := 0) hx hb dX5_finishedOnes_0 (by decide) ?_
  refine lv_istore_n (lv' := [(1, .int 0), (0, .ref a0)]) hx hb dX5_finishedOnes_1 rfl hl (by decide) rfl (fun ls hl => ?_)
  refine lv_iconst (v := 0) hx hb dX5_finishedOnes_2 (by decide) ?_
  refine lv_istore_n (lv' := [(2, .int 0), (1, .int 0), (0, .ref a0)]) hx hb dX5_finishedOnes_3 rfl hl (by decide) rfl (fun ls hl => ?_)
  exact lX5_finishedOnes_4 (l := l) (e := e) (below := below) C0 F nw kp ad fd tp kn it wd sz nm mv ik td bg en so va iw im st ht z0 hP F 0 0 _ (lv_sub hl [2, 1, 0] rfl) h
def fX5_vagueInAll_4 (nw : Nat → Int32) : Nat → Int32 → Int32 → Option (Int32)
  | 0, _, _ => none
  | n + 1, v1, v2 => (if (nw 1) ≤ v2 then some v1 else Option.bind (fX5_sayingIs nw v2 3) (fun z_2 => (if z_2 = 1 then fX5_vagueInAll_4 nw n (v1 + 0) (v2 + 1) else Option.bind (fX5_sayingIs nw v2 2) (fun z_5 => fX5_vagueInAll_4 nw n (v1 + z_5) (v2 + 1)))))
def fX5_vagueInAll (F : Nat) (nw : Nat → Int32) : Option (Int32) := fX5_vagueInAll_4 nw F 0 0
abbrev rmX5_vagueInAll : Room := { frames := 2, cells := 0, slots := 0, locals := 43 }
theorem pdX5_vagueInAll : (yX5_vagueInAll.cls = RX5 ∧ yX5_vagueInAll.cls ≠ "java/lang/invoke/MethodHandle" ∧ yX5_vagueInAll.cls ≠ "java/lang/invoke/VarHandle" ∧ (parseMethodDescriptor yX5_vagueInAll.desc).map (fun d => d.parameters.length) = some 0) := by decide +kernel
set_option maxHeartbeats 4000000 in
set_option maxRecDepth 100000 in
theorem lX5_vagueInAll_4 {p : Program} {l : Launch} {e : Env} {s : State} {m : MethodId} {av : Array Value} {below : List Frame} {meth : Method} {c : Code} {D : va_G} {cI cS : ClassId} {a0 a1 a2 a3 a4 a5 a6 a7 a8 a9 a10 a11 : Nat} (C0 : CX p s m av meth c RX5 cX5_vagueInAll 3 (some .int) wsX5_vagueInAll D cI cS) (F : Nat) (nw : Nat → Int32) (kp : Nat → Int32) (ad : Nat → Int32) (fd : Nat → Int32) (tp : Nat → Int32) (kn : Nat → Option Nat) (it : Nat → Int32) (wd : Nat → Int32) (sz : Nat → Int32) (nm : Nat → Int32) (mv : Nat → Int32) (ik : Int32) (td : Int32) (bg : Int32) (en : Int32) (so : Int32) (va : Int32) (iw : Int32) (im : Int32) (st : Int32) (ht : Int32) (z0 : Int32) (hP : va_P D vwCl (wX5 cI cS a0 a1 a2 a3 a4 a5 a6 a7 a8 a9 a10 a11 nw kp ad fd tp kn it wd sz nm mv ik td bg en so va iw im st ht) s.heap) : ∀ (n : Nat) (v1 : Int32) (v2 : Int32), ∀ (ls : Array Slot), lv_has ls 3 [(0, .ref a0), (1, .int v1), (2, .int v2)] → fX5_vagueInAll_4 nw n v1 v2 = some z0 → W p l e rmX5_vagueInAll s m av below meth c s.heap [] 0 0 (MQ below (vp_Si (fun x => x = z0)) av s 0 0 (fun _ => False)) (F0 m 4 ls []) := by
  obtain ⟨hx, hb, hr, hml, hown, hts, hlk, hE⟩ := id C0
  have hinX5 : ∀ w ∈ u_ws RX5 TX5 21, w ∈ wsX5_vagueInAll := by decide +kernel
  intro n
  induction n with
  | zero =>
    intro v1 v2 ls hl h
    cases (show none = some z0 from h)
  | succ n ih =>
    intro v1 v2 ls hl h
    rw [fX5_vagueInAll_4] at h
    refine lv_iload_n hx hb dX5_vagueInAll_4 rfl (lv_at hl 2 rfl) ?_
    refine lv_aload_n hx hb dX5_vagueInAll_5 rfl (lv_at hl 0 rfl) ?_
    refine va_get (D := D) (ci := 4) (v := .ref a1) (C := RX5) (T := TX5) (N := 21) hx hb hts hinX5 hown hE.1 hP 0 rfl rfl 0 (by decide) (hts _ (List.mem_of_getElem? (i := 1) rfl)) (fun _ h9 => h9) rfl dX5_vagueInAll_6 ?_
    refine lv_iconst (v := 1) hx hb dX5_vagueInAll_9 (by decide) ?_
    refine va_iald hx hb hE.1 hP 1 0 rfl rfl (by unfold vp_in; decide : vp_in 1 84) dX5_vagueInAll_10 ?_
    refine lv_eqi (y := nw 1) rfl ?_
    refine lv_icmp_ge (tgt := 43) hx hb dX5_vagueInAll_11 (by decide) (fun c_1 => ?_) (fun c_1 => ?_)
    · have h := ifp c_1 h
      refine lv_iload_n hx hb dX5_vagueInAll_43 rfl (lv_at hl 1 rfl) ?_
      exact eRi C0 (Option.some.inj h) dX5_vagueInAll_44
    · have h := ifn c_1 h
      refine lv_iload_n hx hb dX5_vagueInAll_14 rfl (lv_at hl 1 rfl) ?_
      refine lv_aload_n hx hb dX5_vagueInAll_15 rfl (lv_at hl 0 rfl) ?_
      refine lv_iload_n hx hb dX5_vagueInAll_16 rfl (lv_at hl 2 rfl) ?_
      refine lv_iconst (v := 3) hx hb dX5_vagueInAll_17 (by decide) ?_
      obtain ⟨z_2, e_3, h⟩ := bds h
      have hPc := hP.sub (ws' := (wX5 cI cS a0 a1 a2 a3 a4 a5 a6 a7 a8 a9 a10 a11 nw kp ad fd tp kn it wd sz nm mv ik td bg en so va iw im st ht)) [0, 1, 2, 3, 4, 5, 6, 7, 8, 9, 10, 11] rfl
      refine kRi (rV C0 (tX5_sayingIs l D cI cS a0 a1 a2 a3 a4 a5 a6 a7 a8 a9 a10 a11 nw kp ad fd tp kn it wd sz nm mv ik td bg en so va iw im st ht v2 3 z_2 e_3) RX5 gX5_vagueInAll_X5_sayingIs rfl ⟨rfl, rfl⟩ pdX5_sayingIs rfl ⟨Nat.le_of_ble_eq_true rfl, Nat.le_of_ble_eq_true rfl⟩ (fun _ _ _ _ q => q) (va_recv hE.1 hPc (ci := 4) (q0 := 0) rfl rfl) (fun U hU _ _ => by rw [hU]; exact hPc) hl.1 rfl (Nat.le_of_ble_eq_true rfl) dX5_vagueInAll_18 ⟨Nat.zero_le _, Nat.zero_le _⟩) ?_
      refine lv_iconst (v := 1) hx hb dX5_vagueInAll_21 (by decide) ?_
      refine lv_icmp_ne (tgt := 29) hx hb dX5_vagueInAll_22 (by decide) (fun c_4 => ?_) (fun c_4 => ?_)
      · have h := ifn c_4 h
        refine lv_aload_n hx hb dX5_vagueInAll_29 rfl (lv_at hl 0 rfl) ?_
        refine lv_iload_n hx hb dX5_vagueInAll_30 rfl (lv_at hl 2 rfl) ?_
        refine lv_iconst (v := 2) hx hb dX5_vagueInAll_31 (by decide) ?_
        obtain ⟨z_5, e_6, h⟩ := bds h
        have hPc := hP.sub (ws' := (wX5 cI cS a0 a1 a2 a3 a4 a5 a6 a7 a8 a9 a10 a11 nw kp ad fd tp kn it wd sz nm mv ik td bg en so va iw im st ht)) [0, 1, 2, 3, 4, 5, 6, 7, 8, 9, 10, 11] rfl
        refine kRi (rV C0 (tX5_sayingIs l D cI cS a0 a1 a2 a3 a4 a5 a6 a7 a8 a9 a10 a11 nw kp ad fd tp kn it wd sz nm mv ik td bg en so va iw im st ht v2 2 z_5 e_6) RX5 gX5_vagueInAll_X5_sayingIs rfl ⟨rfl, rfl⟩ pdX5_sayingIs rfl ⟨Nat.le_of_ble_eq_true rfl, Nat.le_of_ble_eq_true rfl⟩ (fun _ _ _ _ q => q) (va_recv hE.1 hPc (ci := 4) (q0 := 0) rfl rfl) (fun U hU _ _ => by rw [hU]; exact hPc) hl.1 rfl (Nat.le_of_ble_eq_true rfl) dX5_vagueInAll_32 ⟨Nat.zero_le _, Nat.zero_le _⟩) ?_
        refine lv_iadd hx hb dX5_vagueInAll_35 ?_
        refine lv_istore_n (lv' := [(1, .int (v1 + z_5)), (0, .ref a0), (2, .int v2)]) hx hb dX5_vagueInAll_36 rfl hl (by decide) rfl (fun ls hl => ?_)
        refine lv_iinc (v := v2 + 1) (lv' := [(2, .int (v2 + 1)), (1, .int (v1 + z_5)), (0, .ref a0)]) hx hb dX5_vagueInAll_37 hl (k := 2) rfl rfl (by decide) rfl (fun ls hl => ?_)
        refine lv_goto (tgt := 4) hx hb dX5_vagueInAll_40 (by decide) ?_
        exact ih (v1 + z_5) (v2 + 1) _ (lv_sub hl [2, 1, 0] rfl) h
      · have h := ifp c_4 h
        refine lv_iconst (v := 0) hx hb dX5_vagueInAll_25 (by decide) ?_
        refine lv_goto (tgt := 35) hx hb dX5_vagueInAll_26 (by decide) ?_
        refine lv_iadd hx hb dX5_vagueInAll_35 ?_
        refine lv_istore_n (lv' := [(1, .int (v1 + 0)), (0, .ref a0), (2, .int v2)]) hx hb dX5_vagueInAll_36 rfl hl (by decide) rfl (fun ls hl => ?_)
        refine lv_iinc (v := v2 + 1) (lv' := [(2, .int (v2 + 1)), (1, .int (v1 + 0)), (0, .ref a0)]) hx hb dX5_vagueInAll_37 hl (k := 2) rfl rfl (by decide) rfl (fun ls hl => ?_)
        refine lv_goto (tgt := 4) hx hb dX5_vagueInAll_40 (by decide) ?_
        exact ih (v1 + 0) (v2 + 1) _ (lv_sub hl [2, 1, 0] rfl) h
set_option maxHeartbeats 4000000 in
set_option maxRecDepth 100000 in
theorem tX5_vagueInAll (l : Launch) (D : va_G) (cI cS : ClassId) (F : Nat) (a0 a1 a2 a3 a4 a5 a6 a7 a8 a9 a10 a11 : Nat) (nw : Nat → Int32) (kp : Nat → Int32) (ad : Nat → Int32) (fd : Nat → Int32) (tp : Nat → Int32) (kn : Nat → Option Nat) (it : Nat → Int32) (wd : Nat → Int32) (sz : Nat → Int32) (nm : Nat → Int32) (mv : Nat → Int32) (ik : Int32) (td : Int32) (bg : Int32) (en : Int32) (so : Int32) (va : Int32) (iw : Int32) (im : Int32) (st : Int32) (ht : Int32) (z0 : Int32) (h : fX5_vagueInAll F nw = some z0) : Met l yX5_vagueInAll wsX5_vagueInAll rmX5_vagueInAll (PZ D cI cS [.ref a0] (fun U => va_P D vwCl (wX5 cI cS a0 a1 a2 a3 a4 a5 a6 a7 a8 a9 a10 a11 nw kp ad fd tp kn it wd sz nm mv ik td bg en so va iw im st ht) U.heap)) (vp_Si (fun x => x = z0)) 0 0 (fun _ => False) := by
  refine Met.mk RX5 (by decide) rfl rfl (Nat.le_of_ble_eq_true rfl) ?_
  intro p e s m below meth c ls C0 hP hl
  have hl : lv_has ls 3 [(0, .ref a0)] := hl
  obtain ⟨hx, hb, hr, hml, hown, hts, hlk, hE⟩ := id C0
  have hinX5 : ∀ w ∈ u_ws RX5 TX5 21, w ∈ wsX5_vagueInAll := by decide +kernel
  rw [fX5_vagueInAll] at h
  refine lv_iconst (v := 0) hx hb dX5_vagueInAll_0 (by decide) ?_
  refine lv_istore_n (lv' := [(1, .int 0), (0, .ref a0)]) hx hb dX5_vagueInAll_1 rfl hl (by decide) rfl (fun ls hl => ?_)
  refine lv_iconst (v := 0) hx hb dX5_vagueInAll_2 (by decide) ?_
  refine lv_istore_n (lv' := [(2, .int 0), (1, .int 0), (0, .ref a0)]) hx hb dX5_vagueInAll_3 rfl hl (by decide) rfl (fun ls hl => ?_)
  exact lX5_vagueInAll_4 (l := l) (e := e) (below := below) C0 F nw kp ad fd tp kn it wd sz nm mv ik td bg en so va iw im st ht z0 hP F 0 0 _ (lv_sub hl [2, 1, 0] rfl) h
