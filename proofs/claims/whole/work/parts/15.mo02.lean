def fX5_shipAt (v0 : Int32) (v1 : Int32) : Int32 := ((60 + (4 * v0)) + v1)
abbrev rmX5_shipAt : Room := { frames := 0, cells := 0, slots := 0, locals := 0 }
theorem pdX5_shipAt : (yX5_shipAt.cls ≠ "java/lang/invoke/MethodHandle" ∧ yX5_shipAt.cls ≠ "java/lang/invoke/VarHandle" ∧ (parseMethodDescriptor yX5_shipAt.desc).map (fun d => d.parameters.length) = some 2) := by decide +kernel
set_option maxHeartbeats 4000000 in
set_option maxRecDepth 100000 in
theorem tX5_shipAt (l : Launch) (D : va_G) (cI cS : ClassId) (v0 : Int32) (v1 : Int32) (z0 : Int32) (h : fX5_shipAt v0 v1 = z0) : Met l yX5_shipAt wsX5_shipAt rmX5_shipAt (PZ D cI cS [.int v0, .int v1] (fun U => va_P D vwCl ([] : va_W) U.heap)) (vp_Si (fun x => x = z0)) 0 0 (fun _ => False) := by
  refine Met.mk RX5 (by decide) rfl rfl (Nat.le_of_ble_eq_true rfl) ?_
  intro p e s m below meth c ls C0 hP hl
  have hl : lv_has ls 2 [(0, .int v0), (1, .int v1)] := hl
  obtain ⟨hx, hb, hr, hml, hown, hts, hlk, hE⟩ := id C0
  rw [fX5_shipAt] at h
  refine lv_bipush (v := 60) hx hb dX5_shipAt_0 (by decide) ?_
  refine lv_iconst (v := 4) hx hb dX5_shipAt_2 (by decide) ?_
  refine lv_iload_n hx hb dX5_shipAt_3 rfl (lv_at hl 0 rfl) ?_
  refine lv_imul hx hb dX5_shipAt_4 ?_
  refine lv_iadd hx hb dX5_shipAt_5 ?_
  refine lv_iload_n hx hb dX5_shipAt_6 rfl (lv_at hl 1 rfl) ?_
  refine lv_iadd hx hb dX5_shipAt_7 ?_
  exact eRi C0 h dX5_shipAt_8
def fX5_shipIs (nw : Nat → Int32) (v1 : Int32) (v2 : Int32) : Option (Int32) := if ¬ ((fX5_shipAt v1 v2) < 0 ∨ 84 ≤ (fX5_shipAt v1 v2).toNatClampNeg) then some (nw (fX5_shipAt v1 v2).toNatClampNeg) else none
abbrev rmX5_shipIs : Room := { frames := 1, cells := 0, slots := 0, locals := 21 }
theorem pdX5_shipIs : (yX5_shipIs.cls = RX5 ∧ yX5_shipIs.cls ≠ "java/lang/invoke/MethodHandle" ∧ yX5_shipIs.cls ≠ "java/lang/invoke/VarHandle" ∧ (parseMethodDescriptor yX5_shipIs.desc).map (fun d => d.parameters.length) = some 2) := by decide +kernel
set_option maxHeartbeats 4000000 in
set_option maxRecDepth 100000 in
theorem tX5_shipIs (l : Launch) (D : va_G) (cI cS : ClassId) (a0 a1 a2 a3 a4 a5 a6 a7 a8 a9 a10 a11 : Nat) (nw : Nat → Int32) (kp : Nat → Int32) (ad : Nat → Int32) (fd : Nat → Int32) (tp : Nat → Int32) (kn : Nat → Option Nat) (it : Nat → Int32) (wd : Nat → Int32) (sz : Nat → Int32) (nm : Nat → Int32) (mv : Nat → Int32) (ik : Int32) (td : Int32) (bg : Int32) (en : Int32) (so : Int32) (va : Int32) (iw : Int32) (im : Int32) (st : Int32) (ht : Int32) (v1 : Int32) (v2 : Int32) (z0 : Int32) (h : fX5_shipIs nw v1 v2 = some z0) : Met l yX5_shipIs wsX5_shipIs rmX5_shipIs (PZ D cI cS [.ref a0, .int v1, .int v2] (fun U => va_P D vwCl (wX5 cI cS a0 a1 a2 a3 a4 a5 a6 a7 a8 a9 a10 a11 nw kp ad fd tp kn it wd sz nm mv ik td bg en so va iw im st ht) U.heap)) (vp_Si (fun x => x = z0)) 0 0 (fun _ => False) := by
  refine Met.mk RX5 (by decide) rfl rfl (Nat.le_of_ble_eq_true rfl) ?_
  intro p e s m below meth c ls C0 hP hl
  have hl : lv_has ls 3 [(0, .ref a0), (1, .int v1), (2, .int v2)] := hl
  obtain ⟨hx, hb, hr, hml, hown, hts, hlk, hE⟩ := id C0
  have hinX5 : ∀ w ∈ u_ws RX5 TX5 21, w ∈ wsX5_shipIs := by decide +kernel
  rw [fX5_shipIs] at h
  refine lv_aload_n hx hb dX5_shipIs_0 rfl (lv_at hl 0 rfl) ?_
  refine va_get (D := D) (ci := 4) (v := .ref a1) (C := RX5) (T := TX5) (N := 21) hx hb hts hinX5 hown hE.1 hP 0 rfl rfl 0 (by decide) (hts _ (List.mem_of_getElem? (i := 1) rfl)) (fun _ h9 => h9) rfl dX5_shipIs_1 ?_
  refine lv_iload_n hx hb dX5_shipIs_4 rfl (lv_at hl 1 rfl) ?_
  refine lv_iload_n hx hb dX5_shipIs_5 rfl (lv_at hl 2 rfl) ?_
  refine kRi (rS C0 (tX5_shipAt l D cI cS v1 v2 (fX5_shipAt v1 v2) rfl) gX5_shipIs_X5_shipAt rfl ⟨rfl, rfl⟩ pdX5_shipAt rfl ⟨Nat.le_of_ble_eq_true rfl, Nat.le_of_ble_eq_true rfl⟩ (fun _ _ _ _ q => q) (fun _ _ _ _ => vp0) hl.1 rfl (Nat.le_of_ble_eq_true rfl) dX5_shipIs_6 ⟨Nat.zero_le _, Nat.zero_le _⟩) ?_
  obtain ⟨hi_1, h⟩ := ifs h
  refine va_iald hx hb hE.1 hP 1 0 rfl rfl hi_1 dX5_shipIs_9 ?_
  exact eRi C0 (Option.some.inj h) dX5_shipIs_10
def fX5_isShip (nw : Nat → Int32) (v1 : Int32) : Int32 := (fX5_within v1 0 ((nw 3) - 1))
abbrev rmX5_isShip : Room := { frames := 1, cells := 0, slots := 0, locals := 22 }
theorem pdX5_isShip : (yX5_isShip.cls = RX5 ∧ yX5_isShip.cls ≠ "java/lang/invoke/MethodHandle" ∧ yX5_isShip.cls ≠ "java/lang/invoke/VarHandle" ∧ (parseMethodDescriptor yX5_isShip.desc).map (fun d => d.parameters.length) = some 1) := by decide +kernel
set_option maxHeartbeats 4000000 in
set_option maxRecDepth 100000 in
theorem tX5_isShip (l : Launch) (D : va_G) (cI cS : ClassId) (a0 a1 a2 a3 a4 a5 a6 a7 a8 a9 a10 a11 : Nat) (nw : Nat → Int32) (kp : Nat → Int32) (ad : Nat → Int32) (fd : Nat → Int32) (tp : Nat → Int32) (kn : Nat → Option Nat) (it : Nat → Int32) (wd : Nat → Int32) (sz : Nat → Int32) (nm : Nat → Int32) (mv : Nat → Int32) (ik : Int32) (td : Int32) (bg : Int32) (en : Int32) (so : Int32) (va : Int32) (iw : Int32) (im : Int32) (st : Int32) (ht : Int32) (v1 : Int32) (z0 : Int32) (h : fX5_isShip nw v1 = z0) : Met l yX5_isShip wsX5_isShip rmX5_isShip (PZ D cI cS [.ref a0, .int v1] (fun U => va_P D vwCl (wX5 cI cS a0 a1 a2 a3 a4 a5 a6 a7 a8 a9 a10 a11 nw kp ad fd tp kn it wd sz nm mv ik td bg en so va iw im st ht) U.heap)) (vp_Si (fun x => x = z0)) 0 0 (fun _ => False) := by
  refine Met.mk RX5 (by decide) rfl rfl (Nat.le_of_ble_eq_true rfl) ?_
  intro p e s m below meth c ls C0 hP hl
  have hl : lv_has ls 2 [(0, .ref a0), (1, .int v1)] := hl
  obtain ⟨hx, hb, hr, hml, hown, hts, hlk, hE⟩ := id C0
  have hinX5 : ∀ w ∈ u_ws RX5 TX5 21, w ∈ wsX5_isShip := by decide +kernel
  rw [fX5_isShip] at h
  refine lv_iload_n hx hb dX5_isShip_0 rfl (lv_at hl 1 rfl) ?_
  refine lv_iconst (v := 0) hx hb dX5_isShip_1 (by decide) ?_
  refine lv_aload_n hx hb dX5_isShip_2 rfl (lv_at hl 0 rfl) ?_
  refine va_get (D := D) (ci := 4) (v := .ref a1) (C := RX5) (T := TX5) (N := 21) hx hb hts hinX5 hown hE.1 hP 0 rfl rfl 0 (by decide) (hts _ (List.mem_of_getElem? (i := 1) rfl)) (fun _ h9 => h9) rfl dX5_isShip_3 ?_
  refine lv_iconst (v := 3) hx hb dX5_isShip_6 (by decide) ?_
  refine va_iald hx hb hE.1 hP 1 0 rfl rfl (by unfold vp_in; decide : vp_in 3 84) dX5_isShip_7 ?_
  refine lv_eqi (y := nw 3) rfl ?_
  refine lv_iconst (v := 1) hx hb dX5_isShip_8 (by decide) ?_
  refine lv_isub hx hb dX5_isShip_9 ?_
  refine kRi (rS C0 (tX5_within l D cI cS v1 0 ((nw 3) - 1) (fX5_within v1 0 ((nw 3) - 1)) rfl) gX5_isShip_X5_within rfl ⟨rfl, rfl⟩ pdX5_within rfl ⟨Nat.le_of_ble_eq_true rfl, Nat.le_of_ble_eq_true rfl⟩ (fun _ _ _ _ q => q) (fun _ _ _ _ => vp0) hl.1 rfl (Nat.le_of_ble_eq_true rfl) dX5_isShip_10 ⟨Nat.zero_le _, Nat.zero_le _⟩) ?_
  exact eRz C0 (zzX5_within ..) h dX5_isShip_13
theorem zzX5_isShip (nw : Nat → Int32) (v1 : Int32) : narrow .boolean (.int (fX5_isShip nw v1)) = .int (fX5_isShip nw v1) := zzX5_within ..
def fX5_isKind (v0 : Int32) : Int32 := (fX5_within v0 0 6)
abbrev rmX5_isKind : Room := { frames := 1, cells := 0, slots := 0, locals := 22 }
theorem pdX5_isKind : (yX5_isKind.cls ≠ "java/lang/invoke/MethodHandle" ∧ yX5_isKind.cls ≠ "java/lang/invoke/VarHandle" ∧ (parseMethodDescriptor yX5_isKind.desc).map (fun d => d.parameters.length) = some 1) := by decide +kernel
set_option maxHeartbeats 4000000 in
set_option maxRecDepth 100000 in
theorem tX5_isKind (l : Launch) (D : va_G) (cI cS : ClassId) (v0 : Int32) (z0 : Int32) (h : fX5_isKind v0 = z0) : Met l yX5_isKind wsX5_isKind rmX5_isKind (PZ D cI cS [.int v0] (fun U => va_P D vwCl ([] : va_W) U.heap)) (vp_Si (fun x => x = z0)) 0 0 (fun _ => False) := by
  refine Met.mk RX5 (by decide) rfl rfl (Nat.le_of_ble_eq_true rfl) ?_
  intro p e s m below meth c ls C0 hP hl
  have hl : lv_has ls 1 [(0, .int v0)] := hl
  obtain ⟨hx, hb, hr, hml, hown, hts, hlk, hE⟩ := id C0
  rw [fX5_isKind] at h
  refine lv_iload_n hx hb dX5_isKind_0 rfl (lv_at hl 0 rfl) ?_
  refine lv_iconst (v := 0) hx hb dX5_isKind_1 (by decide) ?_
  refine lv_bipush (v := 6) hx hb dX5_isKind_2 (by decide) ?_
  refine kRi (rS C0 (tX5_within l D cI cS v0 0 6 (fX5_within v0 0 6) rfl) gX5_isKind_X5_within rfl ⟨rfl, rfl⟩ pdX5_within rfl ⟨Nat.le_of_ble_eq_true rfl, Nat.le_of_ble_eq_true rfl⟩ (fun _ _ _ _ q => q) (fun _ _ _ _ => vp0) hl.1 rfl (Nat.le_of_ble_eq_true rfl) dX5_isKind_4 ⟨Nat.zero_le _, Nat.zero_le _⟩) ?_
  exact eRz C0 (zzX5_within ..) h dX5_isKind_7
theorem zzX5_isKind (v0 : Int32) : narrow .boolean (.int (fX5_isKind v0)) = .int (fX5_isKind v0) := zzX5_within ..
def fX5_isFast (v0 : Int32) : Int32 := (fX5_within v0 1 5)
abbrev rmX5_isFast : Room := { frames := 1, cells := 0, slots := 0, locals := 22 }
theorem pdX5_isFast : (yX5_isFast.cls ≠ "java/lang/invoke/MethodHandle" ∧ yX5_isFast.cls ≠ "java/lang/invoke/VarHandle" ∧ (parseMethodDescriptor yX5_isFast.desc).map (fun d => d.parameters.length) = some 1) := by decide +kernel
set_option maxHeartbeats 4000000 in
set_option maxRecDepth 100000 in
theorem tX5_isFast (l : Launch) (D : va_G) (cI cS : ClassId) (v0 : Int32) (z0 : Int32) (h : fX5_isFast v0 = z0) : Met l yX5_isFast wsX5_isFast rmX5_isFast (PZ D cI cS [.int v0] (fun U => va_P D vwCl ([] : va_W) U.heap)) (vp_Si (fun x => x = z0)) 0 0 (fun _ => False) := by
  refine Met.mk RX5 (by decide) rfl rfl (Nat.le_of_ble_eq_true rfl) ?_
  intro p e s m below meth c ls C0 hP hl
  have hl : lv_has ls 1 [(0, .int v0)] := hl
  obtain ⟨hx, hb, hr, hml, hown, hts, hlk, hE⟩ := id C0
  rw [fX5_isFast] at h
  refine lv_iload_n hx hb dX5_isFast_0 rfl (lv_at hl 0 rfl) ?_
  refine lv_iconst (v := 1) hx hb dX5_isFast_1 (by decide) ?_
  refine lv_iconst (v := 5) hx hb dX5_isFast_2 (by decide) ?_
  refine kRi (rS C0 (tX5_within l D cI cS v0 1 5 (fX5_within v0 1 5) rfl) gX5_isFast_X5_within rfl ⟨rfl, rfl⟩ pdX5_within rfl ⟨Nat.le_of_ble_eq_true rfl, Nat.le_of_ble_eq_true rfl⟩ (fun _ _ _ _ q => q) (fun _ _ _ _ => vp0) hl.1 rfl (Nat.le_of_ble_eq_true rfl) dX5_isFast_3 ⟨Nat.zero_le _, Nat.zero_le _⟩) ?_
  exact eRz C0 (zzX5_within ..) h dX5_isFast_6
theorem zzX5_isFast (v0 : Int32) : narrow .boolean (.int (fX5_isFast v0)) = .int (fX5_isFast v0) := zzX5_within ..
def fX5_comes (nw : Nat → Int32) (v1 : Int32) (v2 : Int32) (v3 : Int32) : Option (Int32 × (Nat → Int32)) := if ¬ ((fX5_sayingAt (nw 1) 0) < 0 ∨ 84 ≤ (fX5_sayingAt (nw 1) 0).toNatClampNeg) then if ¬ ((fX5_sayingAt (nw 1) 1) < 0 ∨ 84 ≤ (fX5_sayingAt (nw 1) 1).toNatClampNeg) then if ¬ ((fX5_sayingAt (nw 1) 2) < 0 ∨ 84 ≤ (fX5_sayingAt (nw 1) 2).toNatClampNeg) then if ¬ ((fX5_sayingAt (nw 1) 3) < 0 ∨ 84 ≤ (fX5_sayingAt (nw 1) 3).toNatClampNeg) then if ¬ ((fX5_sayingAt (nw 1) 4) < 0 ∨ 84 ≤ (fX5_sayingAt (nw 1) 4).toNatClampNeg) then some (nw 1, upd (upd (upd (upd (upd (upd nw (fX5_sayingAt (nw 1) 0).toNatClampNeg v1) (fX5_sayingAt (nw 1) 1).toNatClampNeg v3) (fX5_sayingAt (nw 1) 2).toNatClampNeg v2) (fX5_sayingAt (nw 1) 3).toNatClampNeg 0) (fX5_sayingAt (nw 1) 4).toNatClampNeg 0) 1 (((upd (upd (upd (upd (upd nw (fX5_sayingAt (nw 1) 0).toNatClampNeg v1) (fX5_sayingAt (nw 1) 1).toNatClampNeg v3) (fX5_sayingAt (nw 1) 2).toNatClampNeg v2) (fX5_sayingAt (nw 1) 3).toNatClampNeg 0) (fX5_sayingAt (nw 1) 4).toNatClampNeg 0) 1) + 1)) else none else none else none else none else none
abbrev rmX5_comes : Room := { frames := 1, cells := 0, slots := 0, locals := 21 }
theorem pdX5_comes : (yX5_comes.cls = RX5 ∧ yX5_comes.cls ≠ "java/lang/invoke/MethodHandle" ∧ yX5_comes.cls ≠ "java/lang/invoke/VarHandle" ∧ (parseMethodDescriptor yX5_comes.desc).map (fun d => d.parameters.length) = some 3) := by decide +kernel
set_option maxHeartbeats 4000000 in
set_option maxRecDepth 100000 in
theorem tX5_comes (l : Launch) (D : va_G) (cI cS : ClassId) (a0 a1 a2 a3 a4 a5 a6 a7 a8 a9 a10 a11 : Nat) (nw : Nat → Int32) (kp : Nat → Int32) (ad : Nat → Int32) (fd : Nat → Int32) (tp : Nat → Int32) (kn : Nat → Option Nat) (it : Nat → Int32) (wd : Nat → Int32) (sz : Nat → Int32) (nm : Nat → Int32) (mv : Nat → Int32) (ik : Int32) (td : Int32) (bg : Int32) (en : Int32) (so : Int32) (va : Int32) (iw : Int32) (im : Int32) (st : Int32) (ht : Int32) (v1 : Int32) (v2 : Int32) (v3 : Int32) (z0 : Int32) (z1 : Nat → Int32) (h : fX5_comes nw v1 v2 v3 = some (z0, z1)) (hD0 : va_D (fun _ => True) (wX5 cI cS a0 a1 a2 a3 a4 a5 a6 a7 a8 a9 a10 a11 nw kp ad fd tp kn it wd sz nm mv ik td bg en so va iw im st ht)) : Met l yX5_comes wsX5_comes rmX5_comes (PZ D cI cS [.ref a0, .int v1, .int v2, .int v3] (fun U => va_P D vwCl (wX5 cI cS a0 a1 a2 a3 a4 a5 a6 a7 a8 a9 a10 a11 nw kp ad fd tp kn it wd sz nm mv ik td bg en so va iw im st ht) U.heap)) (qI D (wX5 cI cS a0 a1 a2 a3 a4 a5 a6 a7 a8 a9 a10 a11 nw kp ad fd tp kn it wd sz nm mv ik td bg en so va iw im st ht) (wX5 cI cS a0 a1 a2 a3 a4 a5 a6 a7 a8 a9 a10 a11 z1 kp ad fd tp kn it wd sz nm mv ik td bg en so va iw im st ht) z0) 0 0 (wA (wX5 cI cS a0 a1 a2 a3 a4 a5 a6 a7 a8 a9 a10 a11 nw kp ad fd tp kn it wd sz nm mv ik td bg en so va iw im st ht)) := by
  refine Met.mk RX5 (by decide) rfl rfl (Nat.le_of_ble_eq_true rfl) ?_
  intro p e s m below meth c ls C0 hP hl
  have hl : lv_has ls 5 [(0, .ref a0), (1, .int v1), (2, .int v2), (3, .int v3)] := hl
  obtain ⟨hx, hb, hr, hml, hown, hts, hlk, hE⟩ := id C0
  have hinX5 : ∀ w ∈ u_ws RX5 TX5 21, w ∈ wsX5_comes := by decide +kernel
  have hD : ∀ W : va_W, W.map Prod.fst = [a0, a1, a2, a3, a4, a5, a6, a7, a8, a9, a10, a11] → va_D (wA (wX5 cI cS a0 a1 a2 a3 a4 a5 a6 a7 a8 a9 a10 a11 nw kp ad fd tp kn it wd sz nm mv ik td bg en so va iw im st ht)) W := fun W hW => hD0.own.re hW
  have hS : va_S (wA (wX5 cI cS a0 a1 a2 a3 a4 a5 a6 a7 a8 a9 a10 a11 nw kp ad fd tp kn it wd sz nm mv ik td bg en so va iw im st ht)) s.heap s.heap [] := va_S.rf
  have hP : va_P D vwCl (wX5 cI cS a0 a1 a2 a3 a4 a5 a6 a7 a8 a9 a10 a11 nw kp ad fd tp kn it wd sz nm mv ik td bg en so va iw im st ht) s.heap := hP
  rw [fX5_comes] at h
  refine lv_aload_n hx hb dX5_comes_0 rfl (lv_at hl 0 rfl) ?_
  refine va_get (D := D) (ci := 4) (v := .ref a1) (C := RX5) (T := TX5) (N := 21) hx hb hts hinX5 hown hE.1 hP 0 rfl rfl 0 (by decide) (hts _ (List.mem_of_getElem? (i := 1) rfl)) (fun _ h9 => h9) rfl dX5_comes_1 ?_
  refine lv_iconst (v := 1) hx hb dX5_comes_4 (by decide) ?_
  refine va_iald hx hb hE.1 hP 1 0 rfl rfl (by unfold vp_in; decide : vp_in 1 84) dX5_comes_5 ?_
  refine lv_eqi (y := nw 1) rfl ?_
  refine lv_istore (lv' := [(4, .int (nw 1)), (0, .ref a0), (1, .int v1), (2, .int v2), (3, .int v3)]) hx hb dX5_comes_6 hl (by decide) rfl (fun ls hl => ?_)
  refine lv_aload_n hx hb dX5_comes_8 rfl (lv_at hl 1 rfl) ?_
  refine va_get (D := D) (ci := 4) (v := .ref a1) (C := RX5) (T := TX5) (N := 21) hx hb hts hinX5 hown hE.1 hP 0 rfl rfl 0 (by decide) (hts _ (List.mem_of_getElem? (i := 1) rfl)) (fun _ h9 => h9) rfl dX5_comes_9 ?_
  refine lv_iload hx hb dX5_comes_12 (lv_at hl 0 rfl) ?_
  refine lv_iconst (v := 0) hx hb dX5_comes_14 (by decide) ?_
  refine kRi (rS C0 (tX5_sayingAt l D cI cS (nw 1) 0 (fX5_sayingAt (nw 1) 0) rfl) gX5_comes_X5_sayingAt rfl ⟨rfl, rfl⟩ pdX5_sayingAt rfl ⟨Nat.le_of_ble_eq_true rfl, Nat.le_of_ble_eq_true rfl⟩ (fun _ _ _ _ q => q) (fun _ _ _ _ => vp0) hl.1 rfl (Nat.le_of_ble_eq_true rfl) dX5_comes_15 ⟨Nat.zero_le _, Nat.zero_le _⟩) ?_
  refine lv_iload_n hx hb dX5_comes_18 rfl (lv_at hl 2 rfl) ?_
  obtain ⟨hi_1, h⟩ := ifs h
  refine va_iast hx hb hE.1 hP (hD _ rfl) hS 1 0 rfl rfl hi_1 dX5_comes_19 (fun H locs hP _ hS => ?_)
  have hP : va_P D vwCl (wX5 cI cS a0 a1 a2 a3 a4 a5 a6 a7 a8 a9 a10 a11 (upd nw (fX5_sayingAt (nw 1) 0).toNatClampNeg v1) kp ad fd tp kn it wd sz nm mv ik td bg en so va iw im st ht) H := hP
  refine lv_aload_n hx hb dX5_comes_20 rfl (lv_at hl 1 rfl) ?_
  refine va_get (D := D) (ci := 4) (v := .ref a1) (C := RX5) (T := TX5) (N := 21) hx hb hts hinX5 hown hE.1 hP 0 rfl rfl 0 (by decide) (hts _ (List.mem_of_getElem? (i := 1) rfl)) (fun _ h9 => h9) rfl dX5_comes_21 ?_
  refine lv_iload hx hb dX5_comes_24 (lv_at hl 0 rfl) ?_
  refine lv_iconst (v := 1) hx hb dX5_comes_26 (by decide) ?_
  refine kRi (rS C0 (tX5_sayingAt l D cI cS (nw 1) 1 (fX5_sayingAt (nw 1) 1) rfl) gX5_comes_X5_sayingAt rfl ⟨rfl, rfl⟩ pdX5_sayingAt rfl ⟨Nat.le_of_ble_eq_true rfl, Nat.le_of_ble_eq_true rfl⟩ (fun _ _ _ _ q => q) (fun _ _ _ _ => vp0) hl.1 rfl (Nat.le_of_ble_eq_true rfl) dX5_comes_27 ⟨Nat.zero_le _, Nat.zero_le _⟩) ?_
  refine lv_iload_n hx hb dX5_comes_30 rfl (lv_at hl 4 rfl) ?_
  obtain ⟨hi_2, h⟩ := ifs h
  refine va_iast hx hb hE.1 hP (hD _ rfl) hS 1 0 rfl rfl hi_2 dX5_comes_31 (fun H locs hP _ hS => ?_)
  have hP : va_P D vwCl (wX5 cI cS a0 a1 a2 a3 a4 a5 a6 a7 a8 a9 a10 a11 (upd (upd nw (fX5_sayingAt (nw 1) 0).toNatClampNeg v1) (fX5_sayingAt (nw 1) 1).toNatClampNeg v3) kp ad fd tp kn it wd sz nm mv ik td bg en so va iw im st ht) H := hP
  refine lv_aload_n hx hb dX5_comes_32 rfl (lv_at hl 1 rfl) ?_
  refine va_get (D := D) (ci := 4) (v := .ref a1) (C := RX5) (T := TX5) (N := 21) hx hb hts hinX5 hown hE.1 hP 0 rfl rfl 0 (by decide) (hts _ (List.mem_of_getElem? (i := 1) rfl)) (fun _ h9 => h9) rfl dX5_comes_33 ?_
  refine lv_iload hx hb dX5_comes_36 (lv_at hl 0 rfl) ?_
  refine lv_iconst (v := 2) hx hb dX5_comes_38 (by decide) ?_
  refine kRi (rS C0 (tX5_sayingAt l D cI cS (nw 1) 2 (fX5_sayingAt (nw 1) 2) rfl) gX5_comes_X5_sayingAt rfl ⟨rfl, rfl⟩ pdX5_sayingAt rfl ⟨Nat.le_of_ble_eq_true rfl, Nat.le_of_ble_eq_true rfl⟩ (fun _ _ _ _ q => q) (fun _ _ _ _ => vp0) hl.1 rfl (Nat.le_of_ble_eq_true rfl) dX5_comes_39 ⟨Nat.zero_le _, Nat.zero_le _⟩) ?_
  refine lv_iload_n hx hb dX5_comes_42 rfl (lv_at hl 3 rfl) ?_
  obtain ⟨hi_3, h⟩ := ifs h
  refine va_iast hx hb hE.1 hP (hD _ rfl) hS 1 0 rfl rfl hi_3 dX5_comes_43 (fun H locs hP _ hS => ?_)
  have hP : va_P D vwCl (wX5 cI cS a0 a1 a2 a3 a4 a5 a6 a7 a8 a9 a10 a11 (upd (upd (upd nw (fX5_sayingAt (nw 1) 0).toNatClampNeg v1) (fX5_sayingAt (nw 1) 1).toNatClampNeg v3) (fX5_sayingAt (nw 1) 2).toNatClampNeg v2) kp ad fd tp kn it wd sz nm mv ik td bg en so va iw im st ht) H := hP
  refine lv_aload_n hx hb dX5_comes_44 rfl (lv_at hl 1 rfl) ?_
  refine va_get (D := D) (ci := 4) (v := .ref a1) (C := RX5) (T := TX5) (N := 21) hx hb hts hinX5 hown hE.1 hP 0 rfl rfl 0 (by decide) (hts _ (List.mem_of_getElem? (i := 1) rfl)) (fun _ h9 => h9) rfl dX5_comes_45 ?_
  refine lv_iload hx hb dX5_comes_48 (lv_at hl 0 rfl) ?_
  refine lv_iconst (v := 3) hx hb dX5_comes_50 (by decide) ?_
  refine kRi (rS C0 (tX5_sayingAt l D cI cS (nw 1) 3 (fX5_sayingAt (nw 1) 3) rfl) gX5_comes_X5_sayingAt rfl ⟨rfl, rfl⟩ pdX5_sayingAt rfl ⟨Nat.le_of_ble_eq_true rfl, Nat.le_of_ble_eq_true rfl⟩ (fun _ _ _ _ q => q) (fun _ _ _ _ => vp0) hl.1 rfl (Nat.le_of_ble_eq_true rfl) dX5_comes_51 ⟨Nat.zero_le _, Nat.zero_le _⟩) ?_
  refine lv_iconst (v := 0) hx hb dX5_comes_54 (by decide) ?_
  obtain ⟨hi_4, h⟩ := ifs h
  refine va_iast hx hb hE.1 hP (hD _ rfl) hS 1 0 rfl rfl hi_4 dX5_comes_55 (fun H locs hP _ hS => ?_)
  have hP : va_P D vwCl (wX5 cI cS a0 a1 a2 a3 a4 a5 a6 a7 a8 a9 a10 a11 (upd (upd (upd (upd nw (fX5_sayingAt (nw 1) 0).toNatClampNeg v1) (fX5_sayingAt (nw 1) 1).toNatClampNeg v3) (fX5_sayingAt (nw 1) 2).toNatClampNeg v2) (fX5_sayingAt (nw 1) 3).toNatClampNeg 0) kp ad fd tp kn it wd sz nm mv ik td bg en so va iw im st ht) H := hP
  refine lv_aload_n hx hb dX5_comes_56 rfl (lv_at hl 1 rfl) ?_
  refine va_get (D := D) (ci := 4) (v := .ref a1) (C := RX5) (T := TX5) (N := 21) hx hb hts hinX5 hown hE.1 hP 0 rfl rfl 0 (by decide) (hts _ (List.mem_of_getElem? (i := 1) rfl)) (fun _ h9 => h9) rfl dX5_comes_57 ?_
  refine lv_iload hx hb dX5_comes_60 (lv_at hl 0 rfl) ?_
  refine lv_iconst (v := 4) hx hb dX5_comes_62 (by decide) ?_
  refine kRi (rS C0 (tX5_sayingAt l D cI cS (nw 1) 4 (fX5_sayingAt (nw 1) 4) rfl) gX5_comes_X5_sayingAt rfl ⟨rfl, rfl⟩ pdX5_sayingAt rfl ⟨Nat.le_of_ble_eq_true rfl, Nat.le_of_ble_eq_true rfl⟩ (fun _ _ _ _ q => q) (fun _ _ _ _ => vp0) hl.1 rfl (Nat.le_of_ble_eq_true rfl) dX5_comes_63 ⟨Nat.zero_le _, Nat.zero_le _⟩) ?_
  refine lv_iconst (v := 0) hx hb dX5_comes_66 (by decide) ?_
  obtain ⟨hi_5, h⟩ := ifs h
  refine va_iast hx hb hE.1 hP (hD _ rfl) hS 1 0 rfl rfl hi_5 dX5_comes_67 (fun H locs hP _ hS => ?_)
  have hP : va_P D vwCl (wX5 cI cS a0 a1 a2 a3 a4 a5 a6 a7 a8 a9 a10 a11 (upd (upd (upd (upd (upd nw (fX5_sayingAt (nw 1) 0).toNatClampNeg v1) (fX5_sayingAt (nw 1) 1).toNatClampNeg v3) (fX5_sayingAt (nw 1) 2).toNatClampNeg v2) (fX5_sayingAt (nw 1) 3).toNatClampNeg 0) (fX5_sayingAt (nw 1) 4).toNatClampNeg 0) kp ad fd tp kn it wd sz nm mv ik td bg en so va iw im st ht) H := hP
  refine lv_aload_n hx hb dX5_comes_68 rfl (lv_at hl 1 rfl) ?_
  refine va_get (D := D) (ci := 4) (v := .ref a1) (C := RX5) (T := TX5) (N := 21) hx hb hts hinX5 hown hE.1 hP 0 rfl rfl 0 (by decide) (hts _ (List.mem_of_getElem? (i := 1) rfl)) (fun _ h9 => h9) rfl dX5_comes_69 ?_
  refine lv_iconst (v := 1) hx hb dX5_comes_72 (by decide) ?_
  refine lv_dup2_11 hx hb dX5_comes_73 rfl rfl ?_
  refine va_iald hx hb hE.1 hP 1 0 rfl rfl (by unfold vp_in; decide : vp_in 1 84) dX5_comes_74 ?_
  refine lv_eqi (y := (upd (upd (upd (upd (upd nw (fX5_sayingAt (nw 1) 0).toNatClampNeg v1) (fX5_sayingAt (nw 1) 1).toNatClampNeg v3) (fX5_sayingAt (nw 1) 2).toNatClampNeg v2) (fX5_sayingAt (nw 1) 3).toNatClampNeg 0) (fX5_sayingAt (nw 1) 4).toNatClampNeg 0) 1) rfl ?_
  refine lv_iconst (v := 1) hx hb dX5_comes_75 (by decide) ?_
  refine lv_iadd hx hb dX5_comes_76 ?_
  refine va_iast hx hb hE.1 hP (hD _ rfl) hS 1 0 rfl rfl (by unfold vp_in; decide : vp_in 1 84) dX5_comes_77 (fun H locs hP _ hS => ?_)
  have hP : va_P D vwCl (wX5 cI cS a0 a1 a2 a3 a4 a5 a6 a7 a8 a9 a10 a11 (upd (upd (upd (upd (upd (upd nw (fX5_sayingAt (nw 1) 0).toNatClampNeg v1) (fX5_sayingAt (nw 1) 1).toNatClampNeg v3) (fX5_sayingAt (nw 1) 2).toNatClampNeg v2) (fX5_sayingAt (nw 1) 3).toNatClampNeg 0) (fX5_sayingAt (nw 1) 4).toNatClampNeg 0) 1 (((upd (upd (upd (upd (upd nw (fX5_sayingAt (nw 1) 0).toNatClampNeg v1) (fX5_sayingAt (nw 1) 1).toNatClampNeg v3) (fX5_sayingAt (nw 1) 2).toNatClampNeg v2) (fX5_sayingAt (nw 1) 3).toNatClampNeg 0) (fX5_sayingAt (nw 1) 4).toNatClampNeg 0) 1) + 1)) kp ad fd tp kn it wd sz nm mv ik td bg en so va iw im st ht) H := hP
  refine lv_iload hx hb dX5_comes_78 (lv_at hl 0 rfl) ?_
  obtain ⟨q0, q1⟩ := Prod.mk.inj (Option.some.inj h)
  subst q0 q1
  exact eMi C0 hP hS rfl rfl dX5_comes_80
def fX5_saying (nw : Nat → Int32) (fd : Nat → Int32) (v1 : Int32) (v2 : Int32) (v3 : Int32) : Option (Int32 × (Nat → Int32) × (Nat → Int32)) := (if (fX5_isKind v1) = 0 then Option.bind (fX5_finding fd (-1000001)) (fun z_2 => some (z_2.1, nw, z_2.2)) else (if (fX5_isMany v2) = 0 then Option.bind (fX5_finding fd (-1000001)) (fun z_5 => some (z_5.1, nw, z_5.2)) else (if (fX5_isCell v3) = 0 then Option.bind (fX5_finding fd (-1000001)) (fun z_13 => some (z_13.1, nw, z_13.2)) else (if (nw 1) = 8 then Option.bind (fX5_finding fd (-1000002)) (fun z_11 => some (z_11.1, nw, z_11.2)) else Option.bind (fX5_comes nw v1 v2 v3) (fun z_9 => some (z_9.1, z_9.2, fd))))))
abbrev rmX5_saying : Room := { frames := 2, cells := 0, slots := 0, locals := 45 }
theorem pdX5_saying : (yX5_saying.cls = RX5 ∧ yX5_saying.cls ≠ "java/lang/invoke/MethodHandle" ∧ yX5_saying.cls ≠ "java/lang/invoke/VarHandle" ∧ (parseMethodDescriptor yX5_saying.desc).map (fun d => d.parameters.length) = some 3) := by decide +kernel
set_option maxHeartbeats 4000000 in
set_option maxRecDepth 100000 in
theorem tX5_saying (l : Launch) (D : va_G) (cI cS : ClassId) (a0 a1 a2 a3 a4 a5 a6 a7 a8 a9 a10 a11 : Nat) (nw : Nat → Int32) (kp : Nat → Int32) (ad : Nat → Int32) (fd : Nat → Int32) (tp : Nat → Int32) (kn : Nat → Option Nat) (it : Nat → Int32) (wd : Nat → Int32) (sz : Nat → Int32) (nm : Nat → Int32) (mv : Nat → Int32) (ik : Int32) (td : Int32) (bg : Int32) (en : Int32) (so : Int32) (va : Int32) (iw : Int32) (im : Int32) (st : Int32) (ht : Int32) (v1 : Int32) (v2 : Int32) (v3 : Int32) (z0 : Int32) (z1 : Nat → Int32) (z2 : Nat → Int32) (h : fX5_saying nw fd v1 v2 v3 = some (z0, z1, z2)) (hD0 : va_D (fun _ => True) (wX5 cI cS a0 a1 a2 a3 a4 a5 a6 a7 a8 a9 a10 a11 nw kp ad fd tp kn it wd sz nm mv ik td bg en so va iw im st ht)) : Met l yX5_saying wsX5_saying rmX5_saying (PZ D cI cS [.ref a0, .int v1, .int v2, .int v3] (fun U => va_P D vwCl (wX5 cI cS a0 a1 a2 a3 a4 a5 a6 a7 a8 a9 a10 a11 nw kp ad fd tp kn it wd sz nm mv ik td bg en so va iw im st ht) U.heap)) (qI D (wX5 cI cS a0 a1 a2 a3 a4 a5 a6 a7 a8 a9 a10 a11 nw kp ad fd tp kn it wd sz nm mv ik td bg en so va iw im st ht) (wX5 cI cS a0 a1 a2 a3 a4 a5 a6 a7 a8 a9 a10 a11 z1 kp ad z2 tp kn it wd sz nm mv ik td bg en so va iw im st ht) z0) 0 0 (wA (wX5 cI cS a0 a1 a2 a3 a4 a5 a6 a7 a8 a9 a10 a11 nw kp ad fd tp kn it wd sz nm mv ik td bg en so va iw im st ht)) := by
  refine Met.mk RX5 (by decide) rfl rfl (Nat.le_of_ble_eq_true rfl) ?_
  intro p e s m below meth c ls C0 hP hl
  have hl : lv_has ls 4 [(0, .ref a0), (1, .int v1), (2, .int v2), (3, .int v3)] := hl
  obtain ⟨hx, hb, hr, hml, hown, hts, hlk, hE⟩ := id C0
  have hinX5 : ∀ w ∈ u_ws RX5 TX5 21, w ∈ wsX5_saying := by decide +kernel
  have hD : ∀ W : va_W, W.map Prod.fst = [a0, a1, a2, a3, a4, a5, a6, a7, a8, a9, a10, a11] → va_D (wA (wX5 cI cS a0 a1 a2 a3 a4 a5 a6 a7 a8 a9 a10 a11 nw kp ad fd tp kn it wd sz nm mv ik td bg en so va iw im st ht)) W := fun W hW => hD0.own.re hW
  have hS : va_S (wA (wX5 cI cS a0 a1 a2 a3 a4 a5 a6 a7 a8 a9 a10 a11 nw kp ad fd tp kn it wd sz nm mv ik td bg en so va iw im st ht)) s.heap s.heap [] := va_S.rf
  have hP : va_P D vwCl (wX5 cI cS a0 a1 a2 a3 a4 a5 a6 a7 a8 a9 a10 a11 nw kp ad fd tp kn it wd sz nm mv ik td bg en so va iw im st ht) s.heap := hP
  rw [fX5_saying] at h
  refine lv_iload_n hx hb dX5_saying_0 rfl (lv_at hl 1 rfl) ?_
  refine kRi (rS C0 (tX5_isKind l D cI cS v1 (fX5_isKind v1) rfl) gX5_saying_X5_isKind rfl ⟨rfl, rfl⟩ pdX5_isKind rfl ⟨Nat.le_of_ble_eq_true rfl, Nat.le_of_ble_eq_true rfl⟩ (fun _ _ _ _ q => q) (fun _ _ _ _ => vp0) hl.1 rfl (Nat.le_of_ble_eq_true rfl) dX5_saying_1 ⟨Nat.zero_le _, Nat.zero_le _⟩) ?_
  refine lv_if_eq (tgt := 21) hx hb dX5_saying_4 (by decide) (fun c_1 => ?_) (fun c_1 => ?_)
  · have h := ifp c_1 h
    refine lv_aload_n hx hb dX5_saying_21 rfl (lv_at hl 0 rfl) ?_
    refine lv_ldc (v := (-1000001)) hx hb hown (hts _ (List.mem_of_getElem? (i := 1) rfl)) dX5_saying_22 ?_
    obtain ⟨z_2, e_3, h⟩ := bds h
    have hPc := hP.sub (ws' := (wX5 cI cS a0 a1 a2 a3 a4 a5 a6 a7 a8 a9 a10 a11 nw kp ad fd tp kn it wd sz nm mv ik td bg en so va iw im st ht)) [0, 1, 2, 3, 4, 5, 6, 7, 8, 9, 10, 11] rfl
    refine kMi (wf' := (wX5 cI cS a0 a1 a2 a3 a4 a5 a6 a7 a8 a9 a10 a11 nw kp ad z_2.2 tp kn it wd sz nm mv ik td bg en so va iw im st ht)) [0, 1, 2, 3, 4, 5, 6, 7, 8, 9, 10, 11] [some 0, some 1, some 2, some 3, some 4, some 5, some 6, some 7, some 8, some 9, some 10, some 11] (rV C0 (tX5_finding l D cI cS a0 a1 a2 a3 a4 a5 a6 a7 a8 a9 a10 a11 nw kp ad fd tp kn it wd sz nm mv ik td bg en so va iw im st ht (-1000001) z_2.1 z_2.2 e_3 (((hD (wX5 cI cS a0 a1 a2 a3 a4 a5 a6 a7 a8 a9 a10 a11 nw kp ad fd tp kn it wd sz nm mv ik td bg en so va iw im st ht) rfl).sub [0, 1, 2, 3, 4, 5, 6, 7, 8, 9, 10, 11] (by decide) rfl).weaken (fun _ _ _ _ => trivial))) RX5 gX5_saying_X5_finding rfl ⟨rfl, rfl⟩ pdX5_finding rfl ⟨Nat.le_of_ble_eq_true rfl, Nat.le_of_ble_eq_true rfl⟩ (fun _ _ _ _ q => q) (va_recv hE.1 hPc (ci := 4) (q0 := 0) rfl rfl) (fun U hU _ _ => by rw [hU]; exact hPc) hl.1 rfl (Nat.le_of_ble_eq_true rfl) dX5_saying_24 ⟨Nat.zero_le _, Nat.zero_le _⟩) hP (hD _ rfl) hS rfl rfl rfl (fun H locs hP hS => ?_)
    obtain ⟨q0, g0⟩ := Prod.mk.inj (Option.some.inj h)
    obtain ⟨q1, q2⟩ := Prod.mk.inj g0
    subst q0 q1 q2
    exact eMi C0 hP hS rfl rfl dX5_saying_27
  · have h := ifn c_1 h
    refine lv_iload_n hx hb dX5_saying_7 rfl (lv_at hl 2 rfl) ?_
    refine kRi (rS C0 (tX5_isMany l D cI cS v2 (fX5_isMany v2) rfl) gX5_saying_X5_isMany rfl ⟨rfl, rfl⟩ pdX5_isMany rfl ⟨Nat.le_of_ble_eq_true rfl, Nat.le_of_ble_eq_true rfl⟩ (fun _ _ _ _ q => q) (fun _ _ _ _ => vp0) hl.1 rfl (Nat.le_of_ble_eq_true rfl) dX5_saying_8 ⟨Nat.zero_le _, Nat.zero_le _⟩) ?_
    refine lv_if_eq (tgt := 21) hx hb dX5_saying_11 (by decide) (fun c_4 => ?_) (fun c_4 => ?_)
    · have h := ifp c_4 h
      refine lv_aload_n hx hb dX5_saying_21 rfl (lv_at hl 0 rfl) ?_
      refine lv_ldc (v := (-1000001)) hx hb hown (hts _ (List.mem_of_getElem? (i := 1) rfl)) dX5_saying_22 ?_
      obtain ⟨z_5, e_6, h⟩ := bds h
      have hPc := hP.sub (ws' := (wX5 cI cS a0 a1 a2 a3 a4 a5 a6 a7 a8 a9 a10 a11 nw kp ad fd tp kn it wd sz nm mv ik td bg en so va iw im st ht)) [0, 1, 2, 3, 4, 5, 6, 7, 8, 9, 10, 11] rfl
      refine kMi (wf' := (wX5 cI cS a0 a1 a2 a3 a4 a5 a6 a7 a8 a9 a10 a11 nw kp ad z_5.2 tp kn it wd sz nm mv ik td bg en so va iw im st ht)) [0, 1, 2, 3, 4, 5, 6, 7, 8, 9, 10, 11] [some 0, some 1, some 2, some 3, some 4, some 5, some 6, some 7, some 8, some 9, some 10, some 11] (rV C0 (tX5_finding l D cI cS a0 a1 a2 a3 a4 a5 a6 a7 a8 a9 a10 a11 nw kp ad fd tp kn it wd sz nm mv ik td bg en so va iw im st ht (-1000001) z_5.1 z_5.2 e_6 (((hD (wX5 cI cS a0 a1 a2 a3 a4 a5 a6 a7 a8 a9 a10 a11 nw kp ad fd tp kn it wd sz nm mv ik td bg en so va iw im st ht) rfl).sub [0, 1, 2, 3, 4, 5, 6, 7, 8, 9, 10, 11] (by decide) rfl).weaken (fun _ _ _ _ => trivial))) RX5 gX5_saying_X5_finding rfl ⟨rfl, rfl⟩ pdX5_finding rfl ⟨Nat.le_of_ble_eq_true rfl, Nat.le_of_ble_eq_true rfl⟩ (fun _ _ _ _ q => q) (va_recv hE.1 hPc (ci := 4) (q0 := 0) rfl rfl) (fun U hU _ _ => by rw [hU]; exact hPc) hl.1 rfl (Nat.le_of_ble_eq_true rfl) dX5_saying_24 ⟨Nat.zero_le _, Nat.zero_le _⟩) hP (hD _ rfl) hS rfl rfl rfl (fun H locs hP hS => ?_)
      obtain ⟨q0, g0⟩ := Prod.mk.inj (Option.some.inj h)
      obtain ⟨q1, q2⟩ := Prod.mk.inj g0
      subst q0 q1 q2
      exact eMi C0 hP hS rfl rfl dX5_saying_27
    · have h := ifn c_4 h
      refine lv_iload_n hx hb dX5_saying_14 rfl (lv_at hl 3 rfl) ?_
      refine kRi (rS C0 (tX5_isCell l D cI cS v3 (fX5_isCell v3) rfl) gX5_saying_X5_isCell rfl ⟨rfl, rfl⟩ pdX5_isCell rfl ⟨Nat.le_of_ble_eq_true rfl, Nat.le_of_ble_eq_true rfl⟩ (fun _ _ _ _ q => q) (fun _ _ _ _ => vp0) hl.1 rfl (Nat.le_of_ble_eq_true rfl) dX5_saying_15 ⟨Nat.zero_le _, Nat.zero_le _⟩) ?_
      refine lv_if_ne (tgt := 28) hx hb dX5_saying_18 (by decide) (fun c_7 => ?_) (fun c_7 => ?_)
      · have h := ifn c_7 h
        refine lv_aload_n hx hb dX5_saying_28 rfl (lv_at hl 0 rfl) ?_
        refine va_get (D := D) (ci := 4) (v := .ref a1) (C := RX5) (T := TX5) (N := 21) hx hb hts hinX5 hown hE.1 hP 0 rfl rfl 0 (by decide) (hts _ (List.mem_of_getElem? (i := 2) rfl)) (fun _ h9 => h9) rfl dX5_saying_29 ?_
        refine lv_iconst (v := 1) hx hb dX5_saying_32 (by decide) ?_
        refine va_iald hx hb hE.1 hP 1 0 rfl rfl (by unfold vp_in; decide : vp_in 1 84) dX5_saying_33 ?_
        refine lv_eqi (y := nw 1) rfl ?_
        refine lv_bipush (v := 8) hx hb dX5_saying_34 (by decide) ?_
        refine lv_icmp_ne (tgt := 48) hx hb dX5_saying_36 (by decide) (fun c_8 => ?_) (fun c_8 => ?_)
        · have h := ifn c_8 h
          refine lv_aload_n hx hb dX5_saying_48 rfl (lv_at hl 0 rfl) ?_
          refine lv_iload_n hx hb dX5_saying_49 rfl (lv_at hl 1 rfl) ?_
          refine lv_iload_n hx hb dX5_saying_50 rfl (lv_at hl 2 rfl) ?_
          refine lv_iload_n hx hb dX5_saying_51 rfl (lv_at hl 3 rfl) ?_
          obtain ⟨z_9, e_10, h⟩ := bds h
          have hPc := hP.sub (ws' := (wX5 cI cS a0 a1 a2 a3 a4 a5 a6 a7 a8 a9 a10 a11 nw kp ad fd tp kn it wd sz nm mv ik td bg en so va iw im st ht)) [0, 1, 2, 3, 4, 5, 6, 7, 8, 9, 10, 11] rfl
          refine kMi (wf' := (wX5 cI cS a0 a1 a2 a3 a4 a5 a6 a7 a8 a9 a10 a11 z_9.2 kp ad fd tp kn it wd sz nm mv ik td bg en so va iw im st ht)) [0, 1, 2, 3, 4, 5, 6, 7, 8, 9, 10, 11] [some 0, some 1, some 2, some 3, some 4, some 5, some 6, some 7, some 8, some 9, some 10, some 11] (rV C0 (tX5_comes l D cI cS a0 a1 a2 a3 a4 a5 a6 a7 a8 a9 a10 a11 nw kp ad fd tp kn it wd sz nm mv ik td bg en so va iw im st ht v1 v2 v3 z_9.1 z_9.2 e_10 (((hD (wX5 cI cS a0 a1 a2 a3 a4 a5 a6 a7 a8 a9 a10 a11 nw kp ad fd tp kn it wd sz nm mv ik td bg en so va iw im st ht) rfl).sub [0, 1, 2, 3, 4, 5, 6, 7, 8, 9, 10, 11] (by decide) rfl).weaken (fun _ _ _ _ => trivial))) RX5 gX5_saying_X5_comes rfl ⟨rfl, rfl⟩ pdX5_comes rfl ⟨Nat.le_of_ble_eq_true rfl, Nat.le_of_ble_eq_true rfl⟩ (fun _ _ _ _ q => q) (va_recv hE.1 hPc (ci := 4) (q0 := 0) rfl rfl) (fun U hU _ _ => by rw [hU]; exact hPc) hl.1 rfl (Nat.le_of_ble_eq_true rfl) dX5_saying_52 ⟨Nat.zero_le _, Nat.zero_le _⟩) hP (hD _ rfl) hS rfl rfl rfl (fun H locs hP hS => ?_)
          obtain ⟨q0, g0⟩ := Prod.mk.inj (Option.some.inj h)
          obtain ⟨q1, q2⟩ := Prod.mk.inj g0
          subst q0 q1 q2
          exact eMi C0 hP hS rfl rfl dX5_saying_55
        · have h := ifp c_8 h
          refine lv_aload_n hx hb dX5_saying_39 rfl (lv_at hl 0 rfl) ?_
          refine lv_ldc (v := (-1000002)) hx hb hown (hts _ (List.mem_of_getElem? (i := 3) rfl)) dX5_saying_40 ?_
          obtain ⟨z_11, e_12, h⟩ := bds h
          have hPc := hP.sub (ws' := (wX5 cI cS a0 a1 a2 a3 a4 a5 a6 a7 a8 a9 a10 a11 nw kp ad fd tp kn it wd sz nm mv ik td bg en so va iw im st ht)) [0, 1, 2, 3, 4, 5, 6, 7, 8, 9, 10, 11] rfl
          refine kMi (wf' := (wX5 cI cS a0 a1 a2 a3 a4 a5 a6 a7 a8 a9 a10 a11 nw kp ad z_11.2 tp kn it wd sz nm mv ik td bg en so va iw im st ht)) [0, 1, 2, 3, 4, 5, 6, 7, 8, 9, 10, 11] [some 0, some 1, some 2, some 3, some 4, some 5, some 6, some 7, some 8, some 9, some 10, some 11] (rV C0 (tX5_finding l D cI cS a0 a1 a2 a3 a4 a5 a6 a7 a8 a9 a10 a11 nw kp ad fd tp kn it wd sz nm mv ik td bg en so va iw im st ht (-1000002) z_11.1 z_11.2 e_12 (((hD (wX5 cI cS a0 a1 a2 a3 a4 a5 a6 a7 a8 a9 a10 a11 nw kp ad fd tp kn it wd sz nm mv ik td bg en so va iw im st ht) rfl).sub [0, 1, 2, 3, 4, 5, 6, 7, 8, 9, 10, 11] (by decide) rfl).weaken (fun _ _ _ _ => trivial))) RX5 gX5_saying_X5_finding rfl ⟨rfl, rfl⟩ pdX5_finding rfl ⟨Nat.le_of_ble_eq_true rfl, Nat.le_of_ble_eq_true rfl⟩ (fun _ _ _ _ q => q) (va_recv hE.1 hPc (ci := 4) (q0 := 0) rfl rfl) (fun U hU _ _ => by rw [hU]; exact hPc) hl.1 rfl (Nat.le_of_ble_eq_true rfl) dX5_saying_42 ⟨Nat.zero_le _, Nat.zero_le _⟩) hP (hD _ rfl) hS rfl rfl rfl (fun H locs hP hS => ?_)
          refine lv_goto (tgt := 55) hx hb dX5_saying_45 (by decide) ?_
          obtain ⟨q0, g0⟩ := Prod.mk.inj (Option.some.inj h)
          obtain ⟨q1, q2⟩ := Prod.mk.inj g0
          subst q0 q1 q2
          exact eMi C0 hP hS rfl rfl dX5_saying_55
      · have h := ifp c_7 h
        refine lv_aload_n hx hb dX5_saying_21 rfl (lv_at hl 0 rfl) ?_
        refine lv_ldc (v := (-1000001)) hx hb hown (hts _ (List.mem_of_getElem? (i := 1) rfl)) dX5_saying_22 ?_
        obtain ⟨z_13, e_14, h⟩ := bds h
        have hPc := hP.sub (ws' := (wX5 cI cS a0 a1 a2 a3 a4 a5 a6 a7 a8 a9 a10 a11 nw kp ad fd tp kn it wd sz nm mv ik td bg en so va iw im st ht)) [0, 1, 2, 3, 4, 5, 6, 7, 8, 9, 10, 11] rfl
        refine kMi (wf' := (wX5 cI cS a0 a1 a2 a3 a4 a5 a6 a7 a8 a9 a10 a11 nw kp ad z_13.2 tp kn it wd sz nm mv ik td bg en so va iw im st ht)) [0, 1, 2, 3, 4, 5, 6, 7, 8, 9, 10, 11] [some 0, some 1, some 2, some 3, some 4, some 5, some 6, some 7, some 8, some 9, some 10, some 11] (rV C0 (tX5_finding l D cI cS a0 a1 a2 a3 a4 a5 a6 a7 a8 a9 a10 a11 nw kp ad fd tp kn it wd sz nm mv ik td bg en so va iw im st ht (-1000001) z_13.1 z_13.2 e_14 (((hD (wX5 cI cS a0 a1 a2 a3 a4 a5 a6 a7 a8 a9 a10 a11 nw kp ad fd tp kn it wd sz nm mv ik td bg en so va iw im st ht) rfl).sub [0, 1, 2, 3, 4, 5, 6, 7, 8, 9, 10, 11] (by decide) rfl).weaken (fun _ _ _ _ => trivial))) RX5 gX5_saying_X5_finding rfl ⟨rfl, rfl⟩ pdX5_finding rfl ⟨Nat.le_of_ble_eq_true rfl, Nat.le_of_ble_eq_true rfl⟩ (fun _ _ _ _ q => q) (va_recv hE.1 hPc (ci := 4) (q0 := 0) rfl rfl) (fun U hU _ _ => by rw [hU]; exact hPc) hl.1 rfl (Nat.le_of_ble_eq_true rfl) dX5_saying_24 ⟨Nat.zero_le _, Nat.zero_le _⟩) hP (hD _ rfl) hS rfl rfl rfl (fun H locs hP hS => ?_)
        obtain ⟨q0, g0⟩ := Prod.mk.inj (Option.some.inj h)
        obtain ⟨q1, q2⟩ := Prod.mk.inj g0
        subst q0 q1 q2
        exact eMi C0 hP hS rfl rfl dX5_saying_27
def fX5_sails (nw : Nat → Int32) (v1 : Int32) (v2 : Int32) : Option (Int32 × (Nat → Int32)) := if ¬ ((fX5_shipAt (nw 3) 0) < 0 ∨ 84 ≤ (fX5_shipAt (nw 3) 0).toNatClampNeg) then if ¬ ((fX5_shipAt (nw 3) 1) < 0 ∨ 84 ≤ (fX5_shipAt (nw 3) 1).toNatClampNeg) then if ¬ ((fX5_shipAt (nw 3) 2) < 0 ∨ 84 ≤ (fX5_shipAt (nw 3) 2).toNatClampNeg) then if ¬ ((fX5_shipAt (nw 3) 3) < 0 ∨ 84 ≤ (fX5_shipAt (nw 3) 3).toNatClampNeg) then some (nw 3, upd (upd (upd (upd (upd nw (fX5_shipAt (nw 3) 0).toNatClampNeg v1) (fX5_shipAt (nw 3) 1).toNatClampNeg 30) (fX5_shipAt (nw 3) 2).toNatClampNeg v2) (fX5_shipAt (nw 3) 3).toNatClampNeg 0) 3 (((upd (upd (upd (upd nw (fX5_shipAt (nw 3) 0).toNatClampNeg v1) (fX5_shipAt (nw 3) 1).toNatClampNeg 30) (fX5_shipAt (nw 3) 2).toNatClampNeg v2) (fX5_shipAt (nw 3) 3).toNatClampNeg 0) 3) + 1)) else none else none else none else none
abbrev rmX5_sails : Room := { frames := 1, cells := 0, slots := 0, locals := 21 }
theorem pdX5_sails : (yX5_sails.cls = RX5 ∧ yX5_sails.cls ≠ "java/lang/invoke/MethodHandle" ∧ yX5_sails.cls ≠ "java/lang/invoke/VarHandle" ∧ (parseMethodDescriptor yX5_sails.desc).map (fun d => d.parameters.length) = some 2) := by decide +kernel
set_option maxHeartbeats 4000000 in
set_option maxRecDepth 100000 in
theorem tX5_sails (l : Launch) (D : va_G) (cI cS : ClassId) (a0 a1 a2 a3 a4 a5 a6 a7 a8 a9 a10 a11 : Nat) (nw : Nat → Int32) (kp : Nat → Int32) (ad : Nat → Int32) (fd : Nat → Int32) (tp : Nat → Int32) (kn : Nat → Option Nat) (it : Nat → Int32) (wd : Nat → Int32) (sz : Nat → Int32) (nm : Nat → Int32) (mv : Nat → Int32) (ik : Int32) (td : Int32) (bg : Int32) (en : Int32) (so : Int32) (va : Int32) (iw : Int32) (im : Int32) (st : Int32) (ht : Int32) (v1 : Int32) (v2 : Int32) (z0 : Int32) (z1 : Nat → Int32) (h : fX5_sails nw v1 v2 = some (z0, z1)) (hD0 : va_D (fun _ => True) (wX5 cI cS a0 a1 a2 a3 a4 a5 a6 a7 a8 a9 a10 a11 nw kp ad fd tp kn it wd sz nm mv ik td bg en so va iw im st ht)) : Met l yX5_sails wsX5_sails rmX5_sails (PZ D cI cS [.ref a0, .int v1, .int v2] (fun U => va_P D vwCl (wX5 cI cS a0 a1 a2 a3 a4 a5 a6 a7 a8 a9 a10 a11 nw kp ad fd tp kn it wd sz nm mv ik td bg en so va iw im st ht) U.heap)) (qI D (wX5 cI cS a0 a1 a2 a3 a4 a5 a6 a7 a8 a9 a10 a11 nw kp ad fd tp kn it wd sz nm mv ik td bg en so va iw im st ht) (wX5 cI cS a0 a1 a2 a3 a4 a5 a6 a7 a8 a9 a10 a11 z1 kp ad fd tp kn it wd sz nm mv ik td bg en so va iw im st ht) z0) 0 0 (wA (wX5 cI cS a0 a1 a2 a3 a4 a5 a6 a7 a8 a9 a10 a11 nw kp ad fd tp kn it wd sz nm mv ik td bg en so va iw im st ht)) := by
  refine Met.mk RX5 (by decide) rfl rfl (Nat.le_of_ble_eq_true rfl) ?_
  intro p e s m below meth c ls C0 hP hl
  have hl : lv_has ls 4 [(0, .ref a0), (1, .int v1), (2, .int v2)] := hl
  obtain ⟨hx, hb, hr, hml, hown, hts, hlk, hE⟩ := id C0
  have hinX5 : ∀ w ∈ u_ws RX5 TX5 21, w ∈ wsX5_sails := by decide +kernel
  have hD : ∀ W : va_W, W.map Prod.fst = [a0, a1, a2, a3, a4, a5, a6, a7, a8, a9, a10, a11] → va_D (wA (wX5 cI cS a0 a1 a2 a3 a4 a5 a6 a7 a8 a9 a10 a11 nw kp ad fd tp kn it wd sz nm mv ik td bg en so va iw im st ht)) W := fun W hW => hD0.own.re hW
  have hS : va_S (wA (wX5 cI cS a0 a1 a2 a3 a4 a5 a6 a7 a8 a9 a10 a11 nw kp ad fd tp kn it wd sz nm mv ik td bg en so va iw im st ht)) s.heap s.heap [] := va_S.rf
  have hP : va_P D vwCl (wX5 cI cS a0 a1 a2 a3 a4 a5 a6 a7 a8 a9 a10 a11 nw kp ad fd tp kn it wd sz nm mv ik td bg en so va iw im st ht) s.heap := hP
  rw [fX5_sails] at h
  refine lv_aload_n hx hb dX5_sails_0 rfl (lv_at hl 0 rfl) ?_
  refine va_get (D := D) (ci := 4) (v := .ref a1) (C := RX5) (T := TX5) (N := 21) hx hb hts hinX5 hown hE.1 hP 0 rfl rfl 0 (by decide) (hts _ (List.mem_of_getElem? (i := 1) rfl)) (fun _ h9 => h9) rfl dX5_sails_1 ?_
  refine lv_iconst (v := 3) hx hb dX5_sails_4 (by decide) ?_
  refine va_iald hx hb hE.1 hP 1 0 rfl rfl (by unfold vp_in; decide : vp_in 3 84) dX5_sails_5 ?_
  refine lv_eqi (y := nw 3) rfl ?_
  refine lv_istore_n (lv' := [(3, .int (nw 3)), (0, .ref a0), (1, .int v1), (2, .int v2)]) hx hb dX5_sails_6 rfl hl (by decide) rfl (fun ls hl => ?_)
  refine lv_aload_n hx hb dX5_sails_7 rfl (lv_at hl 1 rfl) ?_
  refine va_get (D := D) (ci := 4) (v := .ref a1) (C := RX5) (T := TX5) (N := 21) hx hb hts hinX5 hown hE.1 hP 0 rfl rfl 0 (by decide) (hts _ (List.mem_of_getElem? (i := 1) rfl)) (fun _ h9 => h9) rfl dX5_sails_8 ?_
  refine lv_iload_n hx hb dX5_sails_11 rfl (lv_at hl 0 rfl) ?_
  refine lv_iconst (v := 0) hx hb dX5_sails_12 (by decide) ?_
  refine kRi (rS C0 (tX5_shipAt l D cI cS (nw 3) 0 (fX5_shipAt (nw 3) 0) rfl) gX5_sails_X5_shipAt rfl ⟨rfl, rfl⟩ pdX5_shipAt rfl ⟨Nat.le_of_ble_eq_true rfl, Nat.le_of_ble_eq_true rfl⟩ (fun _ _ _ _ q => q) (fun _ _ _ _ => vp0) hl.1 rfl (Nat.le_of_ble_eq_true rfl) dX5_sails_13 ⟨Nat.zero_le _, Nat.zero_le _⟩) ?_
  refine lv_iload_n hx hb dX5_sails_16 rfl (lv_at hl 2 rfl) ?_
  obtain ⟨hi_1, h⟩ := ifs h
  refine va_iast hx hb hE.1 hP (hD _ rfl) hS 1 0 rfl rfl hi_1 dX5_sails_17 (fun H locs hP _ hS => ?_)
  have hP : va_P D vwCl (wX5 cI cS a0 a1 a2 a3 a4 a5 a6 a7 a8 a9 a10 a11 (upd nw (fX5_shipAt (nw 3) 0).toNatClampNeg v1) kp ad fd tp kn it wd sz nm mv ik td bg en so va iw im st ht) H := hP
  refine lv_aload_n hx hb dX5_sails_18 rfl (lv_at hl 1 rfl) ?_
  refine va_get (D := D) (ci := 4) (v := .ref a1) (C := RX5) (T := TX5) (N := 21) hx hb hts hinX5 hown hE.1 hP 0 rfl rfl 0 (by decide) (hts _ (List.mem_of_getElem? (i := 1) rfl)) (fun _ h9 => h9) rfl dX5_sails_19 ?_
  refine lv_iload_n hx hb dX5_sails_22 rfl (lv_at hl 0 rfl) ?_
  refine lv_iconst (v := 1) hx hb dX5_sails_23 (by decide) ?_
  refine kRi (rS C0 (tX5_shipAt l D cI cS (nw 3) 1 (fX5_shipAt (nw 3) 1) rfl) gX5_sails_X5_shipAt rfl ⟨rfl, rfl⟩ pdX5_shipAt rfl ⟨Nat.le_of_ble_eq_true rfl, Nat.le_of_ble_eq_true rfl⟩ (fun _ _ _ _ q => q) (fun _ _ _ _ => vp0) hl.1 rfl (Nat.le_of_ble_eq_true rfl) dX5_sails_24 ⟨Nat.zero_le _, Nat.zero_le _⟩) ?_
  refine lv_bipush (v := 30) hx hb dX5_sails_27 (by decide) ?_
  obtain ⟨hi_2, h⟩ := ifs h
  refine va_iast hx hb hE.1 hP (hD _ rfl) hS 1 0 rfl rfl hi_2 dX5_sails_29 (fun H locs hP _ hS => ?_)
  have hP : va_P D vwCl (wX5 cI cS a0 a1 a2 a3 a4 a5 a6 a7 a8 a9 a10 a11 (upd (upd nw (fX5_shipAt (nw 3) 0).toNatClampNeg v1) (fX5_shipAt (nw 3) 1).toNatClampNeg 30) kp ad fd tp kn it wd sz nm mv ik td bg en so va iw im st ht) H := hP
  refine lv_aload_n hx hb dX5_sails_30 rfl (lv_at hl 1 rfl) ?_
  refine va_get (D := D) (ci := 4) (v := .ref a1) (C := RX5) (T := TX5) (N := 21) hx hb hts hinX5 hown hE.1 hP 0 rfl rfl 0 (by decide) (hts _ (List.mem_of_getElem? (i := 1) rfl)) (fun _ h9 => h9) rfl dX5_sails_31 ?_
  refine lv_iload_n hx hb dX5_sails_34 rfl (lv_at hl 0 rfl) ?_
  refine lv_iconst (v := 2) hx hb dX5_sails_35 (by decide) ?_
  refine kRi (rS C0 (tX5_shipAt l D cI cS (nw 3) 2 (fX5_shipAt (nw 3) 2) rfl) gX5_sails_X5_shipAt rfl ⟨rfl, rfl⟩ pdX5_shipAt rfl ⟨Nat.le_of_ble_eq_true rfl, Nat.le_of_ble_eq_true rfl⟩ (fun _ _ _ _ q => q) (fun _ _ _ _ => vp0) hl.1 rfl (Nat.le_of_ble_eq_true rfl) dX5_sails_36 ⟨Nat.zero_le _, Nat.zero_le _⟩) ?_
  refine lv_iload_n hx hb dX5_sails_39 rfl (lv_at hl 3 rfl) ?_
  obtain ⟨hi_3, h⟩ := ifs h
  refine va_iast hx hb hE.1 hP (hD _ rfl) hS 1 0 rfl rfl hi_3 dX5_sails_40 (fun H locs hP _ hS => ?_)
  have hP : va_P D vwCl (wX5 cI cS a0 a1 a2 a3 a4 a5 a6 a7 a8 a9 a10 a11 (upd (upd (upd nw (fX5_shipAt (nw 3) 0).toNatClampNeg v1) (fX5_shipAt (nw 3) 1).toNatClampNeg 30) (fX5_shipAt (nw 3) 2).toNatClampNeg v2) kp ad fd tp kn it wd sz nm mv ik td bg en so va iw im st ht) H := hP
  refine lv_aload_n hx hb dX5_sails_41 rfl (lv_at hl 1 rfl) ?_
  refine va_get (D := D) (ci := 4) (v := .ref a1) (C := RX5) (T := TX5) (N := 21) hx hb hts hinX5 hown hE.1 hP 0 rfl rfl 0 (by decide) (hts _ (List.mem_of_getElem? (i := 1) rfl)) (fun _ h9 => h9) rfl dX5_sails_42 ?_
  refine lv_iload_n hx hb dX5_sails_45 rfl (lv_at hl 0 rfl) ?_
  refine lv_iconst (v := 3) hx hb dX5_sails_46 (by decide) ?_
  refine kRi (rS C0 (tX5_shipAt l D cI cS (nw 3) 3 (fX5_shipAt (nw 3) 3) rfl) gX5_sails_X5_shipAt rfl ⟨rfl, rfl⟩ pdX5_shipAt rfl ⟨Nat.le_of_ble_eq_true rfl, Nat.le_of_ble_eq_true rfl⟩ (fun _ _ _ _ q => q) (fun _ _ _ _ => vp0) hl.1 rfl (Nat.le_of_ble_eq_true rfl) dX5_sails_47 ⟨Nat.zero_le _, Nat.zero_le _⟩) ?_
  refine lv_iconst (v := 0) hx hb dX5_sails_50 (by decide) ?_
  obtain ⟨hi_4, h⟩ := ifs h
  refine va_iast hx hb hE.1 hP (hD _ rfl) hS 1 0 rfl rfl hi_4 dX5_sails_51 (fun H locs hP _ hS => ?_)
  have hP : va_P D vwCl (wX5 cI cS a0 a1 a2 a3 a4 a5 a6 a7 a8 a9 a10 a11 (upd (upd (upd (upd nw (fX5_shipAt (nw 3) 0).toNatClampNeg v1) (fX5_shipAt (nw 3) 1).toNatClampNeg 30) (fX5_shipAt (nw 3) 2).toNatClampNeg v2) (fX5_shipAt (nw 3) 3).toNatClampNeg 0) kp ad fd tp kn it wd sz nm mv ik td bg en so va iw im st ht) H := hP
  refine lv_aload_n hx hb dX5_sails_52 rfl (lv_at hl 1 rfl) ?_
  refine va_get (D := D) (ci := 4) (v := .ref a1) (C := RX5) (T := TX5) (N := 21) hx hb hts hinX5 hown hE.1 hP 0 rfl rfl 0 (by decide) (hts _ (List.mem_of_getElem? (i := 1) rfl)) (fun _ h9 => h9) rfl dX5_sails_53 ?_
  refine lv_iconst (v := 3) hx hb dX5_sails_56 (by decide) ?_
  refine lv_dup2_11 hx hb dX5_sails_57 rfl rfl ?_
  refine va_iald hx hb hE.1 hP 1 0 rfl rfl (by unfold vp_in; decide : vp_in 3 84) dX5_sails_58 ?_
  refine lv_eqi (y := (upd (upd (upd (upd nw (fX5_shipAt (nw 3) 0).toNatClampNeg v1) (fX5_shipAt (nw 3) 1).toNatClampNeg 30) (fX5_shipAt (nw 3) 2).toNatClampNeg v2) (fX5_shipAt (nw 3) 3).toNatClampNeg 0) 3) rfl ?_
  refine lv_iconst (v := 1) hx hb dX5_sails_59 (by decide) ?_
  refine lv_iadd hx hb dX5_sails_60 ?_
  refine va_iast hx hb hE.1 hP (hD _ rfl) hS 1 0 rfl rfl (by unfold vp_in; decide : vp_in 3 84) dX5_sails_61 (fun H locs hP _ hS => ?_)
  have hP : va_P D vwCl (wX5 cI cS a0 a1 a2 a3 a4 a5 a6 a7 a8 a9 a10 a11 (upd (upd (upd (upd (upd nw (fX5_shipAt (nw 3) 0).toNatClampNeg v1) (fX5_shipAt (nw 3) 1).toNatClampNeg 30) (fX5_shipAt (nw 3) 2).toNatClampNeg v2) (fX5_shipAt (nw 3) 3).toNatClampNeg 0) 3 (((upd (upd (upd (upd nw (fX5_shipAt (nw 3) 0).toNatClampNeg v1) (fX5_shipAt (nw 3) 1).toNatClampNeg 30) (fX5_shipAt (nw 3) 2).toNatClampNeg v2) (fX5_shipAt (nw 3) 3).toNatClampNeg 0) 3) + 1)) kp ad fd tp kn it wd sz nm mv ik td bg en so va iw im st ht) H := hP
  refine lv_iload_n hx hb dX5_sails_62 rfl (lv_at hl 0 rfl) ?_
  obtain ⟨q0, q1⟩ := Prod.mk.inj (Option.some.inj h)
  subst q0 q1
  exact eMi C0 hP hS rfl rfl dX5_sails_63
def fX5_ship (nw : Nat → Int32) (fd : Nat → Int32) (v1 : Int32) (v2 : Int32) : Option (Int32 × (Nat → Int32) × (Nat → Int32)) := (if (fX5_isCell v1) = 0 then Option.bind (fX5_finding fd (-1000001)) (fun z_2 => some (z_2.1, nw, z_2.2)) else (if (fX5_isFast v2) = 0 then Option.bind (fX5_finding fd (-1000001)) (fun z_10 => some (z_10.1, nw, z_10.2)) else (if (nw 3) = 6 then Option.bind (fX5_finding fd (-1000002)) (fun z_8 => some (z_8.1, nw, z_8.2)) else Option.bind (fX5_sails nw v1 v2) (fun z_6 => some (z_6.1, z_6.2, fd)))))
abbrev rmX5_ship : Room := { frames := 2, cells := 0, slots := 0, locals := 44 }
theorem pdX5_ship : (yX5_ship.cls = RX5 ∧ yX5_ship.cls ≠ "java/lang/invoke/MethodHandle" ∧ yX5_ship.cls ≠ "java/lang/invoke/VarHandle" ∧ (parseMethodDescriptor yX5_ship.desc).map (fun d => d.parameters.length) = some 2) := by decide +kernel
set_option maxHeartbeats 4000000 in
set_option maxRecDepth 100000 in
theorem tX5_ship (l : Launch) (D : va_G) (cI cS : ClassId) (a0 a1 a2 a3 a4 a5 a6 a7 a8 a9 a10 a11 : Nat) (nw : Nat → Int32) (kp : Nat → Int32) (ad : Nat → Int32) (fd : Nat → Int32) (tp : Nat → Int32) (kn : Nat → Option Nat) (it : Nat → Int32) (wd : Nat → Int32) (sz : Nat → Int32) (nm : Nat → Int32) (mv : Nat → Int32) (ik : Int32) (td : Int32) (bg : Int32) (en : Int32) (so : Int32) (va : Int32) (iw : Int32) (im : Int32) (st : Int32) (ht : Int32) (v1 : Int32) (v2 : Int32) (z0 : Int32) (z1 : Nat → Int32) (z2 : Nat → Int32) (h : fX5_ship nw fd v1 v2 = some (z0, z1, z2)) (hD0 : va_D (fun _ => True) (wX5 cI cS a0 a1 a2 a3 a4 a5 a6 a7 a8 a9 a10 a11 nw kp ad fd tp kn it wd sz nm mv ik td bg en so va iw im st ht)) : Met l yX5_ship wsX5_ship rmX5_ship (PZ D cI cS [.ref a0, .int v1, .int v2] (fun U => va_P D vwCl (wX5 cI cS a0 a1 a2 a3 a4 a5 a6 a7 a8 a9 a10 a11 nw kp ad fd tp kn it wd sz nm mv ik td bg en so va iw im st ht) U.heap)) (qI D (wX5 cI cS a0 a1 a2 a3 a4 a5 a6 a7 a8 a9 a10 a11 nw kp ad fd tp kn it wd sz nm mv ik td bg en so va iw im st ht) (wX5 cI cS a0 a1 a2 a3 a4 a5 a6 a7 a8 a9 a10 a11 z1 kp ad z2 tp kn it wd sz nm mv ik td bg en so va iw im st ht) z0) 0 0 (wA (wX5 cI cS a0 a1 a2 a3 a4 a5 a6 a7 a8 a9 a10 a11 nw kp ad fd tp kn it wd sz nm mv ik td bg en so va iw im st ht)) := by
  refine Met.mk RX5 (by decide) rfl rfl (Nat.le_of_ble_eq_true rfl) ?_
  intro p e s m below meth c ls C0 hP hl
  have hl : lv_has ls 3 [(0, .ref a0), (1, .int v1), (2, .int v2)] := hl
  obtain ⟨hx, hb, hr, hml, hown, hts, hlk, hE⟩ := id C0
  have hinX5 : ∀ w ∈ u_ws RX5 TX5 21, w ∈ wsX5_ship := by decide +kernel
  have hD : ∀ W : va_W, W.map Prod.fst = [a0, a1, a2, a3, a4, a5, a6, a7, a8, a9, a10, a11] → va_D (wA (wX5 cI cS a0 a1 a2 a3 a4 a5 a6 a7 a8 a9 a10 a11 nw kp ad fd tp kn it wd sz nm mv ik td bg en so va iw im st ht)) W := fun W hW => hD0.own.re hW
  have hS : va_S (wA (wX5 cI cS a0 a1 a2 a3 a4 a5 a6 a7 a8 a9 a10 a11 nw kp ad fd tp kn it wd sz nm mv ik td bg en so va iw im st ht)) s.heap s.heap [] := va_S.rf
  have hP : va_P D vwCl (wX5 cI cS a0 a1 a2 a3 a4 a5 a6 a7 a8 a9 a10 a11 nw kp ad fd tp kn it wd sz nm mv ik td bg en so va iw im st ht) s.heap := hP
  rw [fX5_ship] at h
  refine lv_iload_n hx hb dX5_ship_0 rfl (lv_at hl 1 rfl) ?_
  refine kRi (rS C0 (tX5_isCell l D cI cS v1 (fX5_isCell v1) rfl) gX5_ship_X5_isCell rfl ⟨rfl, rfl⟩ pdX5_isCell rfl ⟨Nat.le_of_ble_eq_true rfl, Nat.le_of_ble_eq_true rfl⟩ (fun _ _ _ _ q => q) (fun _ _ _ _ => vp0) hl.1 rfl (Nat.le_of_ble_eq_true rfl) dX5_ship_1 ⟨Nat.zero_le _, Nat.zero_le _⟩) ?_
  refine lv_if_eq (tgt := 14) hx hb dX5_ship_4 (by decide) (fun c_1 => ?_) (fun c_1 => ?_)
  · have h := ifp c_1 h
    refine lv_aload_n hx hb dX5_ship_14 rfl (lv_at hl 0 rfl) ?_
    refine lv_ldc (v := (-1000001)) hx hb hown (hts _ (List.mem_of_getElem? (i := 1) rfl)) dX5_ship_15 ?_
    obtain ⟨z_2, e_3, h⟩ := bds h
    have hPc := hP.sub (ws' := (wX5 cI cS a0 a1 a2 a3 a4 a5 a6 a7 a8 a9 a10 a11 nw kp ad fd tp kn it wd sz nm mv ik td bg en so va iw im st ht)) [0, 1, 2, 3, 4, 5, 6, 7, 8, 9, 10, 11] rfl
    refine kMi (wf' := (wX5 cI cS a0 a1 a2 a3 a4 a5 a6 a7 a8 a9 a10 a11 nw kp ad z_2.2 tp kn it wd sz nm mv ik td bg en so va iw im st ht)) [0, 1, 2, 3, 4, 5, 6, 7, 8, 9, 10, 11] [some 0, some 1, some 2, some 3, some 4, some 5, some 6, some 7, some 8, some 9, some 10, some 11] (rV C0 (tX5_finding l D cI cS a0 a1 a2 a3 a4 a5 a6 a7 a8 a9 a10 a11 nw kp ad fd tp kn it wd sz nm mv ik td bg en so va iw im st ht (-1000001) z_2.1 z_2.2 e_3 (((hD (wX5 cI cS a0 a1 a2 a3 a4 a5 a6 a7 a8 a9 a10 a11 nw kp ad fd tp kn it wd sz nm mv ik td bg en so va iw im st ht) rfl).sub [0, 1, 2, 3, 4, 5, 6, 7, 8, 9, 10, 11] (by decide) rfl).weaken (fun _ _ _ _ => trivial))) RX5 gX5_ship_X5_finding rfl ⟨rfl, rfl⟩ pdX5_finding rfl ⟨Nat.le_of_ble_eq_true rfl, Nat.le_of_ble_eq_true rfl⟩ (fun _ _ _ _ q => q) (va_recv hE.1 hPc (ci := 4) (q0 := 0) rfl rfl) (fun U hU _ _ => by rw [hU]; exact hPc) hl.1 rfl (Nat.le_of_ble_eq_true rfl) dX5_ship_17 ⟨Nat.zero_le _, Nat.zero_le _⟩) hP (hD _ rfl) hS rfl rfl rfl (fun H locs hP hS => ?_)
    obtain ⟨q0, g0⟩ := Prod.mk.inj (Option.some.inj h)
    obtain ⟨q1, q2⟩ := Prod.mk.inj g0
    subst q0 q1 q2
    exact eMi C0 hP hS rfl rfl dX5_ship_20
  · have h := ifn c_1 h
    refine lv_iload_n hx hb dX5_ship_7 rfl (lv_at hl 2 rfl) ?_
    refine kRi (rS C0 (tX5_isFast l D cI cS v2 (fX5_isFast v2) rfl) gX5_ship_X5_isFast rfl ⟨rfl, rfl⟩ pdX5_isFast rfl ⟨Nat.le_of_ble_eq_true rfl, Nat.le_of_ble_eq_true rfl⟩ (fun _ _ _ _ q => q) (fun _ _ _ _ => vp0) hl.1 rfl (Nat.le_of_ble_eq_true rfl) dX5_ship_8 ⟨Nat.zero_le _, Nat.zero_le _⟩) ?_
    refine lv_if_ne (tgt := 21) hx hb dX5_ship_11 (by decide) (fun c_4 => ?_) (fun c_4 => ?_)
    · have h := ifn c_4 h
      refine lv_aload_n hx hb dX5_ship_21 rfl (lv_at hl 0 rfl) ?_
      refine va_get (D := D) (ci := 4) (v := .ref a1) (C := RX5) (T := TX5) (N := 21) hx hb hts hinX5 hown hE.1 hP 0 rfl rfl 0 (by decide) (hts _ (List.mem_of_getElem? (i := 2) rfl)) (fun _ h9 => h9) rfl dX5_ship_22 ?_
      refine lv_iconst (v := 3) hx hb dX5_ship_25 (by decide) ?_
      refine va_iald hx hb hE.1 hP 1 0 rfl rfl (by unfold vp_in; decide : vp_in 3 84) dX5_ship_26 ?_
      refine lv_eqi (y := nw 3) rfl ?_
      refine lv_bipush (v := 6) hx hb dX5_ship_27 (by decide) ?_
      refine lv_icmp_ne (tgt := 41) hx hb dX5_ship_29 (by decide) (fun c_5 => ?_) (fun c_5 => ?_)
      · have h := ifn c_5 h
        refine lv_aload_n hx hb dX5_ship_41 rfl (lv_at hl 0 rfl) ?_
        refine lv_iload_n hx hb dX5_ship_42 rfl (lv_at hl 1 rfl) ?_
        refine lv_iload_n hx hb dX5_ship_43 rfl (lv_at hl 2 rfl) ?_
        obtain ⟨z_6, e_7, h⟩ := bds h
        have hPc := hP.sub (ws' := (wX5 cI cS a0 a1 a2 a3 a4 a5 a6 a7 a8 a9 a10 a11 nw kp ad fd tp kn it wd sz nm mv ik td bg en so va iw im st ht)) [0, 1, 2, 3, 4, 5, 6, 7, 8, 9, 10, 11] rfl
        refine kMi (wf' := (wX5 cI cS a0 a1 a2 a3 a4 a5 a6 a7 a8 a9 a10 a11 z_6.2 kp ad fd tp kn it wd sz nm mv ik td bg en so va iw im st ht)) [0, 1, 2, 3, 4, 5, 6, 7, 8, 9, 10, 11] [some 0, some 1, some 2, some 3, some 4, some 5, some 6, some 7, some 8, some 9, some 10, some 11] (rV C0 (tX5_sails l D cI cS a0 a1 a2 a3 a4 a5 a6 a7 a8 a9 a10 a11 nw kp ad fd tp kn it wd sz nm mv ik td bg en so va iw im st ht v1 v2 z_6.1 z_6.2 e_7 (((hD (wX5 cI cS a0 a1 a2 a3 a4 a5 a6 a7 a8 a9 a10 a11 nw kp ad fd tp kn it wd sz nm mv ik td bg en so va iw im st ht) rfl).sub [0, 1, 2, 3, 4, 5, 6, 7, 8, 9, 10, 11] (by decide) rfl).weaken (fun _ _ _ _ => trivial))) RX5 gX5_ship_X5_sails rfl ⟨rfl, rfl⟩ pdX5_sails rfl ⟨Nat.le_of_ble_eq_true rfl, Nat.le_of_ble_eq_true rfl⟩ (fun _ _ _ _ q => q) (va_recv hE.1 hPc (ci := 4) (q0 := 0) rfl rfl) (fun U hU _ _ => by rw [hU]; exact hPc) hl.1 rfl (Nat.le_of_ble_eq_true rfl) dX5_ship_44 ⟨Nat.zero_le _, Nat.zero_le _⟩) hP (hD _ rfl) hS rfl rfl rfl (fun H locs hP hS => ?_)
        obtain ⟨q0, g0⟩ := Prod.mk.inj (Option.some.inj h)
        obtain ⟨q1, q2⟩ := Prod.mk.inj g0
        subst q0 q1 q2
        exact eMi C0 hP hS rfl rfl dX5_ship_47
      · have h := ifp c_5 h
        refine lv_aload_n hx hb dX5_ship_32 rfl (lv_at hl 0 rfl) ?_
        refine lv_ldc (v := (-1000002)) hx hb hown (hts _ (List.mem_of_getElem? (i := 3) rfl)) dX5_ship_33 ?_
        obtain ⟨z_8, e_9, h⟩ := bds h
        have hPc := hP.sub (ws' := (wX5 cI cS a0 a1 a2 a3 a4 a5 a6 a7 a8 a9 a10 a11 nw kp ad fd tp kn it wd sz nm mv ik td bg en so va iw im st ht)) [0, 1, 2, 3, 4, 5, 6, 7, 8, 9, 10, 11] rfl
        refine kMi (wf' := (wX5 cI cS a0 a1 a2 a3 a4 a5 a6 a7 a8 a9 a10 a11 nw kp ad z_8.2 tp kn it wd sz nm mv ik td bg en so va iw im st ht)) [0, 1, 2, 3, 4, 5, 6, 7, 8, 9, 10, 11] [some 0, some 1, some 2, some 3, some 4, some 5, some 6, some 7, some 8, some 9, some 10, some 11] (rV C0 (tX5_finding l D cI cS a0 a1 a2 a3 a4 a5 a6 a7 a8 a9 a10 a11 nw kp ad fd tp kn it wd sz nm mv ik td bg en so va iw im st ht (-1000002) z_8.1 z_8.2 e_9 (((hD (wX5 cI cS a0 a1 a2 a3 a4 a5 a6 a7 a8 a9 a10 a11 nw kp ad fd tp kn it wd sz nm mv ik td bg en so va iw im st ht) rfl).sub [0, 1, 2, 3, 4, 5, 6, 7, 8, 9, 10, 11] (by decide) rfl).weaken (fun _ _ _ _ => trivial))) RX5 gX5_ship_X5_finding rfl ⟨rfl, rfl⟩ pdX5_finding rfl ⟨Nat.le_of_ble_eq_true rfl, Nat.le_of_ble_eq_true rfl⟩ (fun _ _ _ _ q => q) (va_recv hE.1 hPc (ci := 4) (q0 := 0) rfl rfl) (fun U hU _ _ => by rw [hU]; exact hPc) hl.1 rfl (Nat.le_of_ble_eq_true rfl) dX5_ship_35 ⟨Nat.zero_le _, Nat.zero_le _⟩) hP (hD _ rfl) hS rfl rfl rfl (fun H locs hP hS => ?_)
        refine lv_goto (tgt := 47) hx hb dX5_ship_38 (by decide) ?_
        obtain ⟨q0, g0⟩ := Prod.mk.inj (Option.some.inj h)
        obtain ⟨q1, q2⟩ := Prod.mk.inj g0
        subst q0 q1 q2
        exact eMi C0 hP hS rfl rfl dX5_ship_47
    · have h := ifp c_4 h
      refine lv_aload_n hx hb dX5_ship_14 rfl (lv_at hl 0 rfl) ?_
      refine lv_ldc (v := (-1000001)) hx hb hown (hts _ (List.mem_of_getElem? (i := 1) rfl)) dX5_ship_15 ?_
      obtain ⟨z_10, e_11, h⟩ := bds h
      have hPc := hP.sub (ws' := (wX5 cI cS a0 a1 a2 a3 a4 a5 a6 a7 a8 a9 a10 a11 nw kp ad fd tp kn it wd sz nm mv ik td bg en so va iw im st ht)) [0, 1, 2, 3, 4, 5, 6, 7, 8, 9, 10, 11] rfl
      refine kMi (wf' := (wX5 cI cS a0 a1 a2 a3 a4 a5 a6 a7 a8 a9 a10 a11 nw kp ad z_10.2 tp kn it wd sz nm mv ik td bg en so va iw im st ht)) [0, 1, 2, 3, 4, 5, 6, 7, 8, 9, 10, 11] [some 0, some 1, some 2, some 3, some 4, some 5, some 6, some 7, some 8, some 9, some 10, some 11] (rV C0 (tX5_finding l D cI cS a0 a1 a2 a3 a4 a5 a6 a7 a8 a9 a10 a11 nw kp ad fd tp kn it wd sz nm mv ik td bg en so va iw im st ht (-1000001) z_10.1 z_10.2 e_11 (((hD (wX5 cI cS a0 a1 a2 a3 a4 a5 a6 a7 a8 a9 a10 a11 nw kp ad fd tp kn it wd sz nm mv ik td bg en so va iw im st ht) rfl).sub [0, 1, 2, 3, 4, 5, 6, 7, 8, 9, 10, 11] (by decide) rfl).weaken (fun _ _ _ _ => trivial))) RX5 gX5_ship_X5_finding rfl ⟨rfl, rfl⟩ pdX5_finding rfl ⟨Nat.le_of_ble_eq_true rfl, Nat.le_of_ble_eq_true rfl⟩ (fun _ _ _ _ q => q) (va_recv hE.1 hPc (ci := 4) (q0 := 0) rfl rfl) (fun U hU _ _ => by rw [hU]; exact hPc) hl.1 rfl (Nat.le_of_ble_eq_true rfl) dX5_ship_17 ⟨Nat.zero_le _, Nat.zero_le _⟩) hP (hD _ rfl) hS rfl rfl rfl (fun H locs hP hS => ?_)
      obtain ⟨q0, g0⟩ := Prod.mk.inj (Option.some.inj h)
      obtain ⟨q1, q2⟩ := Prod.mk.inj g0
      subst q0 q1 q2
      exact eMi C0 hP hS rfl rfl dX5_ship_20
def fX5_thickens (nw : Nat → Int32) (v1 : Int32) : Option (Int32) := Option.bind (fX5_sayingIs nw v1 2) (fun z_1 => Option.bind (fX5_sayingIs nw v1 4) (fun z_3 => Option.bind (fX5_sayingIs nw v1 0) (fun z_5 => (if z_5 = 1 then some (z_1 + (z_3 / 10)) else if z_5 = 2 then some (z_1 / 2) else if z_5 = 3 then some (2 * (z_1 + (z_3 / 10))) else if z_5 = 4 then some ((2 * (z_1 + (z_3 / 10))) + 40) else if z_5 = 5 then some (-30) else if z_5 = 6 then some ((z_1 / 2) + 15) else some z_1))))
abbrev rmX5_thickens : Room := { frames := 2, cells := 0, slots := 0, locals := 43 }
theorem pdX5_thickens : (yX5_thickens.cls = RX5 ∧ yX5_thickens.cls ≠ "java/lang/invoke/MethodHandle" ∧ yX5_thickens.cls ≠ "java/lang/invoke/VarHandle" ∧ (parseMethodDescriptor yX5_thickens.desc).map (fun d => d.parameters.length) = some 1) := by decide +kernel
set_option maxHeartbeats 4000000 in
set_option maxRecDepth 100000 in
theorem tX5_thickens (l : Launch) (D : va_G) (cI cS : ClassId) (a0 a1 a2 a3 a4 a5 a6 a7 a8 a9 a10 a11 : Nat) (nw : Nat → Int32) (kp : Nat → Int32) (ad : Nat → Int32) (fd : Nat → Int32) (tp : Nat → Int32) (kn : Nat → Option Nat) (it : Nat → Int32) (wd : Nat → Int32) (sz : Nat → Int32) (nm : Nat → Int32) (mv : Nat → Int32) (ik : Int32) (td : Int32) (bg : Int32) (en : Int32) (so : Int32) (va : Int32) (iw : Int32) (im : Int32) (st : Int32) (ht : Int32) (v1 : Int32) (z0 : Int32) (h : fX5_thickens nw v1 = some z0) : Met l yX5_thickens wsX5_thickens rmX5_thickens (PZ D cI cS [.ref a0, .int v1] (fun U => va_P D vwCl (wX5 cI cS a0 a1 a2 a3 a4 a5 a6 a7 a8 a9 a10 a11 nw kp ad fd tp kn it wd sz nm mv ik td bg en so va iw im st ht) U.heap)) (vp_Si (fun x => x = z0)) 0 0 (fun _ => False) := by
  refine Met.mk RX5 (by decide) rfl rfl (Nat.le_of_ble_eq_true rfl) ?_
  intro p e s m below meth c ls C0 hP hl
  have hl : lv_has ls 4 [(0, .ref a0), (1, .int v1)] := hl
  obtain ⟨hx, hb, hr, hml, hown, hts, hlk, hE⟩ := id C0
  rw [fX5_thickens] at h
  refine lv_aload_n hx hb dX5_thickens_0 rfl (lv_at hl 0 rfl) ?_
  refine lv_iload_n hx hb dX5_thickens_1 rfl (lv_at hl 1 rfl) ?_
  refine lv_iconst (v := 2) hx hb dX5_thickens_2 (by decide) ?_
  obtain ⟨z_1, e_2, h⟩ := bds h
  have hPc := hP.sub (ws' := (wX5 cI cS a0 a1 a2 a3 a4 a5 a6 a7 a8 a9 a10 a11 nw kp ad fd tp kn it wd sz nm mv ik td bg en so va iw im st ht)) [0, 1, 2, 3, 4, 5, 6, 7, 8, 9, 10, 11] rfl
  refine kRi (rV C0 (tX5_sayingIs l D cI cS a0 a1 a2 a3 a4 a5 a6 a7 a8 a9 a10 a11 nw kp ad fd tp kn it wd sz nm mv ik td bg en so va iw im st ht v1 2 z_1 e_2) RX5 gX5_thickens_X5_sayingIs rfl ⟨rfl, rfl⟩ pdX5_sayingIs rfl ⟨Nat.le_of_ble_eq_true rfl, Nat.le_of_ble_eq_true rfl⟩ (fun _ _ _ _ q => q) (va_recv hE.1 hPc (ci := 4) (q0 := 0) rfl rfl) (fun U hU _ _ => by rw [hU]; exact hPc) hl.1 rfl (Nat.le_of_ble_eq_true rfl) dX5_thickens_3 ⟨Nat.zero_le _, Nat.zero_le _⟩) ?_
  refine lv_istore_n (lv' := [(2, .int z_1), (0, .ref a0), (1, .int v1)]) hx hb dX5_thickens_6 rfl hl (by decide) rfl (fun ls hl => ?_)
  refine lv_iload_n hx hb dX5_thickens_7 rfl (lv_at hl 0 rfl) ?_
  refine lv_aload_n hx hb dX5_thickens_8 rfl (lv_at hl 1 rfl) ?_
  refine lv_iload_n hx hb dX5_thickens_9 rfl (lv_at hl 2 rfl) ?_
  refine lv_iconst (v := 4) hx hb dX5_thickens_10 (by decide) ?_
  obtain ⟨z_3, e_4, h⟩ := bds h
  have hPc := hP.sub (ws' := (wX5 cI cS a0 a1 a2 a3 a4 a5 a6 a7 a8 a9 a10 a11 nw kp ad fd tp kn it wd sz nm mv ik td bg en so va iw im st ht)) [0, 1, 2, 3, 4, 5, 6, 7, 8, 9, 10, 11] rfl
  refine kRi (rV C0 (tX5_sayingIs l D cI cS a0 a1 a2 a3 a4 a5 a6 a7 a8 a9 a10 a11 nw kp ad fd tp kn it wd sz nm mv ik td bg en so va iw im st ht v1 4 z_3 e_4) RX5 gX5_thickens_X5_sayingIs rfl ⟨rfl, rfl⟩ pdX5_sayingIs rfl ⟨Nat.le_of_ble_eq_true rfl, Nat.le_of_ble_eq_true rfl⟩ (fun _ _ _ _ q => q) (va_recv hE.1 hPc (ci := 4) (q0 := 0) rfl rfl) (fun U hU _ _ => by rw [hU]; exact hPc) hl.1 rfl (Nat.le_of_ble_eq_true rfl) dX5_thickens_11 ⟨Nat.zero_le _, Nat.zero_le _⟩) ?_
  refine lv_bipush (v := 10) hx hb dX5_thickens_14 (by decide) ?_
  refine lv_idiv hx hb dX5_thickens_16 (by decide) ?_
  refine lv_iadd hx hb dX5_thickens_17 ?_
  refine lv_istore_n (lv' := [(3, .int (z_1 + (z_3 / 10))), (2, .int z_1), (0, .ref a0), (1, .int v1)]) hx hb dX5_thickens_18 rfl hl (by decide) rfl (fun ls hl => ?_)
  refine lv_aload_n hx hb dX5_thickens_19 rfl (lv_at hl 2 rfl) ?_
  refine lv_iload_n hx hb dX5_thickens_20 rfl (lv_at hl 3 rfl) ?_
  refine lv_iconst (v := 0) hx hb dX5_thickens_21 (by decide) ?_
  obtain ⟨z_5, e_6, h⟩ := bds h
  have hPc := hP.sub (ws' := (wX5 cI cS a0 a1 a2 a3 a4 a5 a6 a7 a8 a9 a10 a11 nw kp ad fd tp kn it wd sz nm mv ik td bg en so va iw im st ht)) [0, 1, 2, 3, 4, 5, 6, 7, 8, 9, 10, 11] rfl
  refine kRi (rV C0 (tX5_sayingIs l D cI cS a0 a1 a2 a3 a4 a5 a6 a7 a8 a9 a10 a11 nw kp ad fd tp kn it wd sz nm mv ik td bg en so va iw im st ht v1 0 z_5 e_6) RX5 gX5_thickens_X5_sayingIs rfl ⟨rfl, rfl⟩ pdX5_sayingIs rfl ⟨Nat.le_of_ble_eq_true rfl, Nat.le_of_ble_eq_true rfl⟩ (fun _ _ _ _ q => q) (va_recv hE.1 hPc (ci := 4) (q0 := 0) rfl rfl) (fun U hU _ _ => by rw [hU]; exact hPc) hl.1 rfl (Nat.le_of_ble_eq_true rfl) dX5_thickens_22 ⟨Nat.zero_le _, Nat.zero_le _⟩) ?_
  by_cases c_7 : z_5 = 1
  · have h := ifp c_7 h
    refine lv_tableIn (tgt := 64) hx hb dX5_thickens_25 (by rw [c_7]; decide) (by rw [c_7]; decide) (by rw [c_7]; rfl) (by decide) ?_
    refine lv_iload_n hx hb dX5_thickens_64 rfl (lv_at hl 0 rfl) ?_
    exact eRi C0 (Option.some.inj h) dX5_thickens_65
  have h := ifn c_7 h
  by_cases c_8 : z_5 = 2
  · have h := ifp c_8 h
    refine lv_tableIn (tgt := 77) hx hb dX5_thickens_25 (by rw [c_8]; decide) (by rw [c_8]; decide) (by rw [c_8]; rfl) (by decide) ?_
    refine lv_iload_n hx hb dX5_thickens_77 rfl (lv_at hl 1 rfl) ?_
    refine lv_iconst (v := 2) hx hb dX5_thickens_78 (by decide) ?_
    refine lv_idiv hx hb dX5_thickens_79 (by decide) ?_
    exact eRi C0 (Option.some.inj h) dX5_thickens_80
  have h := ifn c_8 h
  by_cases c_9 : z_5 = 3
  · have h := ifp c_9 h
    refine lv_tableIn (tgt := 66) hx hb dX5_thickens_25 (by rw [c_9]; decide) (by rw [c_9]; decide) (by rw [c_9]; rfl) (by decide) ?_
    refine lv_iconst (v := 2) hx hb dX5_thickens_66 (by decide) ?_
    refine lv_iload_n hx hb dX5_thickens_67 rfl (lv_at hl 0 rfl) ?_
    refine lv_imul hx hb dX5_thickens_68 ?_
    exact eRi C0 (Option.some.inj h) dX5_thickens_69
  have h := ifn c_9 h
  by_cases c_10 : z_5 = 4
  · have h := ifp c_10 h
    refine lv_tableIn (tgt := 70) hx hb dX5_thickens_25 (by rw [c_10]; decide) (by rw [c_10]; decide) (by rw [c_10]; rfl) (by decide) ?_
    refine lv_iconst (v := 2) hx hb dX5_thickens_70 (by decide) ?_
    refine lv_iload_n hx hb dX5_thickens_71 rfl (lv_at hl 0 rfl) ?_
    refine lv_imul hx hb dX5_thickens_72 ?_
    refine lv_bipush (v := 40) hx hb dX5_thickens_73 (by decide) ?_
    refine lv_iadd hx hb dX5_thickens_75 ?_
    exact eRi C0 (Option.some.inj h) dX5_thickens_76
  have h := ifn c_10 h
  by_cases c_11 : z_5 = 5
  · have h := ifp c_11 h
    refine lv_tableIn (tgt := 88) hx hb dX5_thickens_25 (by rw [c_11]; decide) (by rw [c_11]; decide) (by rw [c_11]; rfl) (by decide) ?_
    refine lv_bipush (v := (-30)) hx hb dX5_thickens_88 (by decide) ?_
    exact eRi C0 (Option.some.inj h) dX5_thickens_90
  have h := ifn c_11 h
  by_cases c_12 : z_5 = 6
  · have h := ifp c_12 h
    refine lv_tableIn (tgt := 81) hx hb dX5_thickens_25 (by rw [c_12]; decide) (by rw [c_12]; decide) (by rw [c_12]; rfl) (by decide) ?_
    refine lv_iload_n hx hb dX5_thickens_81 rfl (lv_at hl 1 rfl) ?_
    refine lv_iconst (v := 2) hx hb dX5_thickens_82 (by decide) ?_
    refine lv_idiv hx hb dX5_thickens_83 (by decide) ?_
    refine lv_bipush (v := 15) hx hb dX5_thickens_84 (by decide) ?_
    refine lv_iadd hx hb dX5_thickens_86 ?_
    exact eRi C0 (Option.some.inj h) dX5_thickens_87
  have h := ifn c_12 h
  refine lv_tableOut (tgt := 91) hx hb dX5_thickens_25 (tb0 (tbS (k := 1) (by decide) c_7 (tbS (k := 2) (by decide) c_8 (tbS (k := 3) (by decide) c_9 (tbS (k := 4) (by decide) c_10 (tbS (k := 5) (by decide) c_11 (tbS (k := 6) (by decide) c_12 (tbE (by decide))))))))) (by decide) ?_
  refine lv_iload_n hx hb dX5_thickens_91 rfl (lv_at hl 1 rfl) ?_
  exact eRi C0 (Option.some.inj h) dX5_thickens_92
def fX5_reaches (nw : Nat → Int32) (v1 : Int32) : Option (Int32) := Option.bind (fX5_sayingIs nw v1 0) (fun z_1 => (if z_1 = 2 then some 4 else if z_1 = 3 then some 1 else if z_1 = 4 then some 5 else if z_1 = 5 then some 3 else if z_1 = 6 then some 3 else some 2))
abbrev rmX5_reaches : Room := { frames := 2, cells := 0, slots := 0, locals := 43 }
theorem pdX5_reaches : (yX5_reaches.cls = RX5 ∧ yX5_reaches.cls ≠ "java/lang/invoke/MethodHandle" ∧ yX5_reaches.cls ≠ "java/lang/invoke/VarHandle" ∧ (parseMethodDescriptor yX5_reaches.desc).map (fun d => d.parameters.length) = some 1) := by decide +kernel
set_option maxHeartbeats 4000000 in
set_option maxRecDepth 100000 in
theorem tX5_reaches (l : Launch) (D : va_G) (cI cS : ClassId) (a0 a1 a2 a3 a4 a5 a6 a7 a8 a9 a10 a11 : Nat) (nw : Nat → Int32) (kp : Nat → Int32) (ad : Nat → Int32) (fd : Nat → Int32) (tp : Nat → Int32) (kn : Nat → Option Nat) (it : Nat → Int32) (wd : Nat → Int32) (sz : Nat → Int32) (nm : Nat → Int32) (mv : Nat → Int32) (ik : Int32) (td : Int32) (bg : Int32) (en : Int32) (so : Int32) (va : Int32) (iw : Int32) (im : Int32) (st : Int32) (ht : Int32) (v1 : Int32) (z0 : Int32) (h : fX5_reaches nw v1 = some z0) : Met l yX5_reaches wsX5_reaches rmX5_reaches (PZ D cI cS [.ref a0, .int v1] (fun U => va_P D vwCl (wX5 cI cS a0 a1 a2 a3 a4 a5 a6 a7 a8 a9 a10 a11 nw kp ad fd tp kn it wd sz nm mv ik td bg en so va iw im st ht) U.heap)) (vp_Si (fun x => x = z0)) 0 0 (fun _ => False) := by
  refine Met.mk RX5 (by decide) rfl rfl (Nat.le_of_ble_eq_true rfl) ?_
  intro p e s m below meth c ls C0 hP hl
  have hl : lv_has ls 2 [(0, .ref a0), (1, .int v1)] := hl
  obtain ⟨hx, hb, hr, hml, hown, hts, hlk, hE⟩ := id C0
  rw [fX5_reaches] at h
  refine lv_aload_n hx hb dX5_reaches_0 rfl (lv_at hl 0 rfl) ?_
  refine lv_iload_n hx hb dX5_reaches_1 rfl (lv_at hl 1 rfl) ?_
  refine lv_iconst (v := 0) hx hb dX5_reaches_2 (by decide) ?_
  obtain ⟨z_1, e_2, h⟩ := bds h
  have hPc := hP.sub (ws' := (wX5 cI cS a0 a1 a2 a3 a4 a5 a6 a7 a8 a9 a10 a11 nw kp ad fd tp kn it wd sz nm mv ik td bg en so va iw im st ht)) [0, 1, 2, 3, 4, 5, 6, 7, 8, 9, 10, 11] rfl
  refine kRi (rV C0 (tX5_sayingIs l D cI cS a0 a1 a2 a3 a4 a5 a6 a7 a8 a9 a10 a11 nw kp ad fd tp kn it wd sz nm mv ik td bg en so va iw im st ht v1 0 z_1 e_2) RX5 gX5_reaches_X5_sayingIs rfl ⟨rfl, rfl⟩ pdX5_sayingIs rfl ⟨Nat.le_of_ble_eq_true rfl, Nat.le_of_ble_eq_true rfl⟩ (fun _ _ _ _ q => q) (va_recv hE.1 hPc (ci := 4) (q0 := 0) rfl rfl) (fun U hU _ _ => by rw [hU]; exact hPc) hl.1 rfl (Nat.le_of_ble_eq_true rfl) dX5_reaches_3 ⟨Nat.zero_le _, Nat.zero_le _⟩) ?_
  by_cases c_3 : z_1 = 2
  · have h := ifp c_3 h
    refine lv_tableIn (tgt := 44) hx hb dX5_reaches_6 (by rw [c_3]; decide) (by rw [c_3]; decide) (by rw [c_3]; rfl) (by decide) ?_
    refine lv_iconst (v := 4) hx hb dX5_reaches_44 (by decide) ?_
    exact eRi C0 (Option.some.inj h) dX5_reaches_45
  have h := ifn c_3 h
  by_cases c_4 : z_1 = 3
  · have h := ifp c_4 h
    refine lv_tableIn (tgt := 40) hx hb dX5_reaches_6 (by rw [c_4]; decide) (by rw [c_4]; decide) (by rw [c_4]; rfl) (by decide) ?_
    refine lv_iconst (v := 1) hx hb dX5_reaches_40 (by decide) ?_
    exact eRi C0 (Option.some.inj h) dX5_reaches_41
  have h := ifn c_4 h
  by_cases c_5 : z_1 = 4
  · have h := ifp c_5 h
    refine lv_tableIn (tgt := 42) hx hb dX5_reaches_6 (by rw [c_5]; decide) (by rw [c_5]; decide) (by rw [c_5]; rfl) (by decide) ?_
    refine lv_iconst (v := 5) hx hb dX5_reaches_42 (by decide) ?_
    exact eRi C0 (Option.some.inj h) dX5_reaches_43
  have h := ifn c_5 h
  by_cases c_6 : z_1 = 5
  · have h := ifp c_6 h
    refine lv_tableIn (tgt := 46) hx hb dX5_reaches_6 (by rw [c_6]; decide) (by rw [c_6]; decide) (by rw [c_6]; rfl) (by decide) ?_
    refine lv_iconst (v := 3) hx hb dX5_reaches_46 (by decide) ?_
    exact eRi C0 (Option.some.inj h) dX5_reaches_47
  have h := ifn c_6 h
  by_cases c_7 : z_1 = 6
  · have h := ifp c_7 h
    refine lv_tableIn (tgt := 46) hx hb dX5_reaches_6 (by rw [c_7]; decide) (by rw [c_7]; decide) (by rw [c_7]; rfl) (by decide) ?_
    refine lv_iconst (v := 3) hx hb dX5_reaches_46 (by decide) ?_
    exact eRi C0 (Option.some.inj h) dX5_reaches_47
  have h := ifn c_7 h
  refine lv_tableOut (tgt := 48) hx hb dX5_reaches_6 (tb0 (tbS (k := 2) (by decide) c_3 (tbS (k := 3) (by decide) c_4 (tbS (k := 4) (by decide) c_5 (tbS (k := 5) (by decide) c_6 (tbS (k := 6) (by decide) c_7 (tbE (by decide)))))))) (by decide) ?_
  refine lv_iconst (v := 2) hx hb dX5_reaches_48 (by decide) ?_
  exact eRi C0 (Option.some.inj h) dX5_reaches_49
def fX5_blurs (nw : Nat → Int32) (v1 : Int32) : Option (Int32) := (if ((nw 0) - (nw 0) / 7 * 7) = 6 then Option.bind (fX5_sayingIs nw v1 0) (fun z_11 => (if z_11 = 1 then some 2 else if z_11 = 2 then some 7 else if z_11 = 3 then some 2 else if z_11 = 4 then (if ((nw 0) - (nw 0) / 2 * 2) = 1 then some 5 else some 2) else if z_11 = 5 then some 0 else if z_11 = 6 then some (7 + 2) else some 1)) else Option.bind (fX5_sayingIs nw v1 0) (fun z_2 => (if z_2 = 1 then some 2 else if z_2 = 2 then some (-1) else if z_2 = 3 then some 2 else if z_2 = 4 then (if ((nw 0) - (nw 0) / 2 * 2) = 1 then some 5 else some 2) else if z_2 = 5 then some 0 else if z_2 = 6 then some ((-1) + 2) else some 1)))
abbrev rmX5_blurs : Room := { frames := 2, cells := 0, slots := 0, locals := 43 }
theorem pdX5_blurs : (yX5_blurs.cls = RX5 ∧ yX5_blurs.cls ≠ "java/lang/invoke/MethodHandle" ∧ yX5_blurs.cls ≠ "java/lang/invoke/VarHandle" ∧ (parseMethodDescriptor yX5_blurs.desc).map (fun d => d.parameters.length) = some 1) := by decide +kernel
set_option maxHeartbeats 4000000 in
set_option maxRecDepth 100000 in
theorem tX5_blurs (l : Launch) (D : va_G) (cI cS : ClassId) (a0 a1 a2 a3 a4 a5 a6 a7 a8 a9 a10 a11 : Nat) (nw : Nat → Int32) (kp : Nat → Int32) (ad : Nat → Int32) (fd : Nat → Int32) (tp : Nat → Int32) (kn : Nat → Option Nat) (it : Nat → Int32) (wd : Nat → Int32) (sz : Nat → Int32) (nm : Nat → Int32) (mv : Nat → Int32) (ik : Int32) (td : Int32) (bg : Int32) (en : Int32) (so : Int32) (va : Int32) (iw : Int32) (im : Int32) (st : Int32) (ht : Int32) (v1 : Int32) (z0 : Int32) (h : fX5_blurs nw v1 = some z0) : Met l yX5_blurs wsX5_blurs rmX5_blurs (PZ D cI cS [.ref a0, .int v1] (fun U => va_P D vwCl (wX5 cI cS a0 a1 a2 a3 a4 a5 a6 a7 a8 a9 a10 a11 nw kp ad fd tp kn it wd sz nm mv ik td bg en so va iw im st ht) U.heap)) (vp_Si (fun x => x = z0)) 0 0 (fun _ => False) := by
  refine Met.mk RX5 (by decide) rfl rfl (Nat.le_of_ble_eq_true rfl) ?_
  intro p e s m below meth c ls C0 hP hl
  have hl : lv_has ls 3 [(0, .ref a0), (1, .int v1)] := hl
  obtain ⟨hx, hb, hr, hml, hown, hts, hlk, hE⟩ := id C0
  have hinX5 : ∀ w ∈ u_ws RX5 TX5 21, w ∈ wsX5_blurs := by decide +kernel
  rw [fX5_blurs] at h
  refine lv_aload_n hx hb dX5_blurs_0 rfl (lv_at hl 0 rfl) ?_
  refine va_get (D := D) (ci := 4) (v := .ref a1) (C := RX5) (T := TX5) (N := 21) hx hb hts hinX5 hown hE.1 hP 0 rfl rfl 0 (by decide) (hts _ (List.mem_of_getElem? (i := 1) rfl)) (fun _ h9 => h9) rfl dX5_blurs_1 ?_
  refine lv_iconst (v := 0) hx hb dX5_blurs_4 (by decide) ?_
  refine va_iald hx hb hE.1 hP 1 0 rfl rfl (by unfold vp_in; decide : vp_in 0 84) dX5_blurs_5 ?_
  refine lv_eqi (y := nw 0) rfl ?_
  refine lv_bipush (v := 7) hx hb dX5_blurs_6 (by decide) ?_
  refine lv_irem hx hb dX5_blurs_8 (by decide) ?_
  refine lv_bipush (v := 6) hx hb dX5_blurs_9 (by decide) ?_
  refine lv_icmp_ne (tgt := 19) hx hb dX5_blurs_11 (by decide) (fun c_1 => ?_) (fun c_1 => ?_)
  · have h := ifn c_1 h
    refine lv_iconst (v := (-1)) hx hb dX5_blurs_19 (by decide) ?_
    refine lv_istore_n (lv' := [(2, .int (-1)), (0, .ref a0), (1, .int v1)]) hx hb dX5_blurs_20 rfl hl (by decide) rfl (fun ls hl => ?_)
    refine lv_aload_n hx hb dX5_blurs_21 rfl (lv_at hl 1 rfl) ?_
    refine lv_iload_n hx hb dX5_blurs_22 rfl (lv_at hl 2 rfl) ?_
    refine lv_iconst (v := 0) hx hb dX5_blurs_23 (by decide) ?_
    obtain ⟨z_2, e_3, h⟩ := bds h
    have hPc := hP.sub (ws' := (wX5 cI cS a0 a1 a2 a3 a4 a5 a6 a7 a8 a9 a10 a11 nw kp ad fd tp kn it wd sz nm mv ik td bg en so va iw im st ht)) [0, 1, 2, 3, 4, 5, 6, 7, 8, 9, 10, 11] rfl
    refine kRi (rV C0 (tX5_sayingIs l D cI cS a0 a1 a2 a3 a4 a5 a6 a7 a8 a9 a10 a11 nw kp ad fd tp kn it wd sz nm mv ik td bg en so va iw im st ht v1 0 z_2 e_3) RX5 gX5_blurs_X5_sayingIs rfl ⟨rfl, rfl⟩ pdX5_sayingIs rfl ⟨Nat.le_of_ble_eq_true rfl, Nat.le_of_ble_eq_true rfl⟩ (fun _ _ _ _ q => q) (va_recv hE.1 hPc (ci := 4) (q0 := 0) rfl rfl) (fun U hU _ _ => by rw [hU]; exact hPc) hl.1 rfl (Nat.le_of_ble_eq_true rfl) dX5_blurs_24 ⟨Nat.zero_le _, Nat.zero_le _⟩) ?_
    by_cases c_4 : z_2 = 1
    · have h := ifp c_4 h
      refine lv_tableIn (tgt := 64) hx hb dX5_blurs_27 (by rw [c_4]; decide) (by rw [c_4]; decide) (by rw [c_4]; rfl) (by decide) ?_
      refine lv_iconst (v := 2) hx hb dX5_blurs_64 (by decide) ?_
      exact eRi C0 (Option.some.inj h) dX5_blurs_65
    have h := ifn c_4 h
    by_cases c_5 : z_2 = 2
    · have h := ifp c_5 h
      refine lv_tableIn (tgt := 84) hx hb dX5_blurs_27 (by rw [c_5]; decide) (by rw [c_5]; decide) (by rw [c_5]; rfl) (by decide) ?_
      refine lv_iload_n hx hb dX5_blurs_84 rfl (lv_at hl 0 rfl) ?_
      exact eRi C0 (Option.some.inj h) dX5_blurs_85
    have h := ifn c_5 h
    by_cases c_6 : z_2 = 3
    · have h := ifp c_6 h
      refine lv_tableIn (tgt := 64) hx hb dX5_blurs_27 (by rw [c_6]; decide) (by rw [c_6]; decide) (by rw [c_6]; rfl) (by decide) ?_
      refine lv_iconst (v := 2) hx hb dX5_blurs_64 (by decide) ?_
      exact eRi C0 (Option.some.inj h) dX5_blurs_65
    have h := ifn c_6 h
    by_cases c_7 : z_2 = 4
    · have h := ifp c_7 h
      refine lv_tableIn (tgt := 66) hx hb dX5_blurs_27 (by rw [c_7]; decide) (by rw [c_7]; decide) (by rw [c_7]; rfl) (by decide) ?_
      refine lv_aload_n hx hb dX5_blurs_66 rfl (lv_at hl 1 rfl) ?_
      refine va_get (D := D) (ci := 4) (v := .ref a1) (C := RX5) (T := TX5) (N := 21) hx hb hts hinX5 hown hE.1 hP 0 rfl rfl 0 (by decide) (hts _ (List.mem_of_getElem? (i := 1) rfl)) (fun _ h9 => h9) rfl dX5_blurs_67 ?_
      refine lv_iconst (v := 0) hx hb dX5_blurs_70 (by decide) ?_
      refine va_iald hx hb hE.1 hP 1 0 rfl rfl (by unfold vp_in; decide : vp_in 0 84) dX5_blurs_71 ?_
      refine lv_eqi (y := nw 0) rfl ?_
      refine lv_iconst (v := 2) hx hb dX5_blurs_72 (by decide) ?_
      refine lv_irem hx hb dX5_blurs_73 (by decide) ?_
      refine lv_iconst (v := 1) hx hb dX5_blurs_74 (by decide) ?_
      refine lv_icmp_ne (tgt := 82) hx hb dX5_blurs_75 (by decide) (fun c_8 => ?_) (fun c_8 => ?_)
      · have h := ifn c_8 h
        refine lv_iconst (v := 2) hx hb dX5_blurs_82 (by decide) ?_
        exact eRi C0 (Option.some.inj h) dX5_blurs_83
      · have h := ifp c_8 h
        refine lv_iconst (v := 5) hx hb dX5_blurs_78 (by decide) ?_
        refine lv_goto (tgt := 83) hx hb dX5_blurs_79 (by decide) ?_
        exact eRi C0 (Option.some.inj h) dX5_blurs_83
    have h := ifn c_7 h
    by_cases c_9 : z_2 = 5
    · have h := ifp c_9 h
      refine lv_tableIn (tgt := 90) hx hb dX5_blurs_27 (by rw [c_9]; decide) (by rw [c_9]; decide) (by rw [c_9]; rfl) (by decide) ?_
      refine lv_iconst (v := 0) hx hb dX5_blurs_90 (by decide) ?_
      exact eRi C0 (Option.some.inj h) dX5_blurs_91
    have h := ifn c_9 h
    by_cases c_10 : z_2 = 6
    · have h := ifp c_10 h
      refine lv_tableIn (tgt := 86) hx hb dX5_blurs_27 (by rw [c_10]; decide) (by rw [c_10]; decide) (by rw [c_10]; rfl) (by decide) ?_
      refine lv_iload_n hx hb dX5_blurs_86 rfl (lv_at hl 0 rfl) ?_
      refine lv_iconst (v := 2) hx hb dX5_blurs_87 (by decide) ?_
      refine lv_iadd hx hb dX5_blurs_88 ?_
      exact eRi C0 (Option.some.inj h) dX5_blurs_89
    have h := ifn c_10 h
    refine lv_tableOut (tgt := 92) hx hb dX5_blurs_27 (tb0 (tbS (k := 1) (by decide) c_4 (tbS (k := 2) (by decide) c_5 (tbS (k := 3) (by decide) c_6 (tbS (k := 4) (by decide) c_7 (tbS (k := 5) (by decide) c_9 (tbS (k := 6) (by decide) c_10 (tbE (by decide))))))))) (by decide) ?_
    refine lv_iconst (v := 1) hx hb dX5_blurs_92 (by decide) ?_
    exact eRi C0 (Option.some.inj h) dX5_blurs_93
  · have h := ifp c_1 h
    refine lv_bipush (v := 7) hx hb dX5_blurs_14 (by decide) ?_
    refine lv_goto (tgt := 20) hx hb dX5_blurs_16 (by decide) ?_
    refine lv_istore_n (lv' := [(2, .int 7), (0, .ref a0), (1, .int v1)]) hx hb dX5_blurs_20 rfl hl (by decide) rfl (fun ls hl => ?_)
    refine lv_aload_n hx hb dX5_blurs_21 rfl (lv_at hl 1 rfl) ?_
    refine lv_iload_n hx hb dX5_blurs_22 rfl (lv_at hl 2 rfl) ?_
    refine lv_iconst (v := 0) hx hb dX5_blurs_23 (by decide) ?_
    obtain ⟨z_11, e_12, h⟩ := bds h
    have hPc := hP.sub (ws' := (wX5 cI cS a0 a1 a2 a3 a4 a5 a6 a7 a8 a9 a10 a11 nw kp ad fd tp kn it wd sz nm mv ik td bg en so va iw im st ht)) [0, 1, 2, 3, 4, 5, 6, 7, 8, 9, 10, 11] rfl
    refine kRi (rV C0 (tX5_sayingIs l D cI cS a0 a1 a2 a3 a4 a5 a6 a7 a8 a9 a10 a11 nw kp ad fd tp kn it wd sz nm mv ik td bg en so va iw im st ht v1 0 z_11 e_12) RX5 gX5_blurs_X5_sayingIs rfl ⟨rfl, rfl⟩ pdX5_sayingIs rfl ⟨Nat.le_of_ble_eq_true rfl, Nat.le_of_ble_eq_true rfl⟩ (fun _ _ _ _ q => q) (va_recv hE.1 hPc (ci := 4) (q0 := 0) rfl rfl) (fun U hU _ _ => by rw [hU]; exact hPc) hl.1 rfl (Nat.le_of_ble_eq_true rfl) dX5_blurs_24 ⟨Nat.zero_le _, Nat.zero_le _⟩) ?_
    by_cases c_13 : z_11 = 1
    · have h := ifp c_13 h
      refine lv_tableIn (tgt := 64) hx hb dX5_blurs_27 (by rw [c_13]; decide) (by rw [c_13]; decide) (by rw [c_13]; rfl) (by decide) ?_
      refine lv_iconst (v := 2) hx hb dX5_blurs_64 (by decide) ?_
      exact eRi C0 (Option.some.inj h) dX5_blurs_65
    have h := ifn c_13 h
    by_cases c_14 : z_11 = 2
    · have h := ifp c_14 h
      refine lv_tableIn (tgt := 84) hx hb dX5_blurs_27 (by rw [c_14]; decide) (by rw [c_14]; decide) (by rw [c_14]; rfl) (by decide) ?_
      refine lv_iload_n hx hb dX5_blurs_84 rfl (lv_at hl 0 rfl) ?_
      exact eRi C0 (Option.some.inj h) dX5_blurs_85
    have h := ifn c_14 h
    by_cases c_15 : z_11 = 3
    · have h := ifp c_15 h
      refine lv_tableIn (tgt := 64) hx hb dX5_blurs_27 (by rw [c_15]; decide) (by rw [c_15]; decide) (by rw [c_15]; rfl) (by decide) ?_
      refine lv_iconst (v := 2) hx hb dX5_blurs_64 (by decide) ?_
      exact eRi C0 (Option.some.inj h) dX5_blurs_65
    have h := ifn c_15 h
    by_cases c_16 : z_11 = 4
    · have h := ifp c_16 h
      refine lv_tableIn (tgt := 66) hx hb dX5_blurs_27 (by rw [c_16]; decide) (by rw [c_16]; decide) (by rw [c_16]; rfl) (by decide) ?_
      refine lv_aload_n hx hb dX5_blurs_66 rfl (lv_at hl 1 rfl) ?_
      refine va_get (D := D) (ci := 4) (v := .ref a1) (C := RX5) (T := TX5) (N := 21) hx hb hts hinX5 hown hE.1 hP 0 rfl rfl 0 (by decide) (hts _ (List.mem_of_getElem? (i := 1) rfl)) (fun _ h9 => h9) rfl dX5_blurs_67 ?_
      refine lv_iconst (v := 0) hx hb dX5_blurs_70 (by decide) ?_
      refine va_iald hx hb hE.1 hP 1 0 rfl rfl (by unfold vp_in; decide : vp_in 0 84) dX5_blurs_71 ?_
      refine lv_eqi (y := nw 0) rfl ?_
      refine lv_iconst (v := 2) hx hb dX5_blurs_72 (by decide) ?_
      refine lv_irem hx hb dX5_blurs_73 (by decide) ?_
      refine lv_iconst (v := 1) hx hb dX5_blurs_74 (by decide) ?_
      refine lv_icmp_ne (tgt := 82) hx hb dX5_blurs_75 (by decide) (fun c_17 => ?_) (fun c_17 => ?_)
      · have h := ifn c_17 h
        refine lv_iconst (v := 2) hx hb dX5_blurs_82 (by decide) ?_
        exact eRi C0 (Option.some.inj h) dX5_blurs_83
      · have h := ifp c_17 h
        refine lv_iconst (v := 5) hx hb dX5_blurs_78 (by decide) ?_
        refine lv_goto (tgt := 83) hx hb dX5_blurs_79 (by decide) ?_
        exact eRi C0 (Option.some.inj h) dX5_blurs_83
    have h := ifn c_16 h
    by_cases c_18 : z_11 = 5
    · have h := ifp c_18 h
      refine lv_tableIn (tgt := 90) hx hb dX5_blurs_27 (by rw [c_18]; decide) (by rw [c_18]; decide) (by rw [c_18]; rfl) (by decide) ?_
      refine lv_iconst (v := 0) hx hb dX5_blurs_90 (by decide) ?_
      exact eRi C0 (Option.some.inj h) dX5_blurs_91
    have h := ifn c_18 h
    by_cases c_19 : z_11 = 6
    · have h := ifp c_19 h
      refine lv_tableIn (tgt := 86) hx hb dX5_blurs_27 (by rw [c_19]; decide) (by rw [c_19]; decide) (by rw [c_19]; rfl) (by decide) ?_
      refine lv_iload_n hx hb dX5_blurs_86 rfl (lv_at hl 0 rfl) ?_
      refine lv_iconst (v := 2) hx hb dX5_blurs_87 (by decide) ?_
      refine lv_iadd hx hb dX5_blurs_88 ?_
      exact eRi C0 (Option.some.inj h) dX5_blurs_89
    have h := ifn c_19 h
    refine lv_tableOut (tgt := 92) hx hb dX5_blurs_27 (tb0 (tbS (k := 1) (by decide) c_13 (tbS (k := 2) (by decide) c_14 (tbS (k := 3) (by decide) c_15 (tbS (k := 4) (by decide) c_16 (tbS (k := 5) (by decide) c_18 (tbS (k := 6) (by decide) c_19 (tbE (by decide))))))))) (by decide) ?_
    refine lv_iconst (v := 1) hx hb dX5_blurs_92 (by decide) ?_
    exact eRi C0 (Option.some.inj h) dX5_blurs_93
def fX5_resists (nw : Nat → Int32) (v1 : Int32) : Option (Int32) := Option.bind (fX5_sayingIs nw v1 0) (fun z_1 => (if z_1 = 1 then some 80 else if z_1 = 2 then some 99 else if z_1 = 3 then some 40 else if z_1 = 4 then some 10 else if z_1 = 5 then some 99 else if z_1 = 6 then some 20 else some 99))
abbrev rmX5_resists : Room := { frames := 2, cells := 0, slots := 0, locals := 43 }
theorem pdX5_resists : (yX5_resists.cls = RX5 ∧ yX5_resists.cls ≠ "java/lang/invoke/MethodHandle" ∧ yX5_resists.cls ≠ "java/lang/invoke/VarHandle" ∧ (parseMethodDescriptor yX5_resists.desc).map (fun d => d.parameters.length) = some 1) := by decide +kernel
set_option maxHeartbeats 4000000 in
set_option maxRecDepth 100000 in
theorem tX5_resists (l : Launch) (D : va_G) (cI cS : ClassId) (a0 a1 a2 a3 a4 a5 a6 a7 a8 a9 a10 a11 : Nat) (nw : Nat → Int32) (kp : Nat → Int32) (ad : Nat → Int32) (fd : Nat → Int32) (tp : Nat → Int32) (kn : Nat → Option Nat) (it : Nat → Int32) (wd : Nat → Int32) (sz : Nat → Int32) (nm : Nat → Int32) (mv : Nat → Int32) (ik : Int32) (td : Int32) (bg : Int32) (en : Int32) (so : Int32) (va : Int32) (iw : Int32) (im : Int32) (st : Int32) (ht : Int32) (v1 : Int32) (z0 : Int32) (h : fX5_resists nw v1 = some z0) : Met l yX5_resists wsX5_resists rmX5_resists (PZ D cI cS [.ref a0, .int v1] (fun U => va_P D vwCl (wX5 cI cS a0 a1 a2 a3 a4 a5 a6 a7 a8 a9 a10 a11 nw kp ad fd tp kn it wd sz nm mv ik td bg en so va iw im st ht) U.heap)) (vp_Si (fun x => x = z0)) 0 0 (fun _ => False) := by
  refine Met.mk RX5 (by decide) rfl rfl (Nat.le_of_ble_eq_true rfl) ?_
  intro p e s m below meth c ls C0 hP hl
  have hl : lv_has ls 2 [(0, .ref a0), (1, .int v1)] := hl
  obtain ⟨hx, hb, hr, hml, hown, hts, hlk, hE⟩ := id C0
  rw [fX5_resists] at h
  refine lv_aload_n hx hb dX5_resists_0 rfl (lv_at hl 0 rfl) ?_
  refine lv_iload_n hx hb dX5_resists_1 rfl (lv_at hl 1 rfl) ?_
  refine lv_iconst (v := 0) hx hb dX5_resists_2 (by decide) ?_
  obtain ⟨z_1, e_2, h⟩ := bds h
  have hPc := hP.sub (ws' := (wX5 cI cS a0 a1 a2 a3 a4 a5 a6 a7 a8 a9 a10 a11 nw kp ad fd tp kn it wd sz nm mv ik td bg en so va iw im st ht)) [0, 1, 2, 3, 4, 5, 6, 7, 8, 9, 10, 11] rfl
  refine kRi (rV C0 (tX5_sayingIs l D cI cS a0 a1 a2 a3 a4 a5 a6 a7 a8 a9 a10 a11 nw kp ad fd tp kn it wd sz nm mv ik td bg en so va iw im st ht v1 0 z_1 e_2) RX5 gX5_resists_X5_sayingIs rfl ⟨rfl, rfl⟩ pdX5_sayingIs rfl ⟨Nat.le_of_ble_eq_true rfl, Nat.le_of_ble_eq_true rfl⟩ (fun _ _ _ _ q => q) (va_recv hE.1 hPc (ci := 4) (q0 := 0) rfl rfl) (fun U hU _ _ => by rw [hU]; exact hPc) hl.1 rfl (Nat.le_of_ble_eq_true rfl) dX5_resists_3 ⟨Nat.zero_le _, Nat.zero_le _⟩) ?_
  by_cases c_3 : z_1 = 1
  · have h := ifp c_3 h
    refine lv_tableIn (tgt := 44) hx hb dX5_resists_6 (by rw [c_3]; decide) (by rw [c_3]; decide) (by rw [c_3]; rfl) (by decide) ?_
    refine lv_bipush (v := 80) hx hb dX5_resists_44 (by decide) ?_
    exact eRi C0 (Option.some.inj h) dX5_resists_46
  have h := ifn c_3 h
  by_cases c_4 : z_1 = 2
  · have h := ifp c_4 h
    refine lv_tableIn (tgt := 56) hx hb dX5_resists_6 (by rw [c_4]; decide) (by rw [c_4]; decide) (by rw [c_4]; rfl) (by decide) ?_
    refine lv_bipush (v := 99) hx hb dX5_resists_56 (by decide) ?_
    exact eRi C0 (Option.some.inj h) dX5_resists_58
  have h := ifn c_4 h
  by_cases c_5 : z_1 = 3
  · have h := ifp c_5 h
    refine lv_tableIn (tgt := 47) hx hb dX5_resists_6 (by rw [c_5]; decide) (by rw [c_5]; decide) (by rw [c_5]; rfl) (by decide) ?_
    refine lv_bipush (v := 40) hx hb dX5_resists_47 (by decide) ?_
    exact eRi C0 (Option.some.inj h) dX5_resists_49
  have h := ifn c_5 h
  by_cases c_6 : z_1 = 4
  · have h := ifp c_6 h
    refine lv_tableIn (tgt := 50) hx hb dX5_resists_6 (by rw [c_6]; decide) (by rw [c_6]; decide) (by rw [c_6]; rfl) (by decide) ?_
    refine lv_bipush (v := 10) hx hb dX5_resists_50 (by decide) ?_
    exact eRi C0 (Option.some.inj h) dX5_resists_52
  have h := ifn c_6 h
  by_cases c_7 : z_1 = 5
  · have h := ifp c_7 h
    refine lv_tableIn (tgt := 56) hx hb dX5_resists_6 (by rw [c_7]; decide) (by rw [c_7]; decide) (by rw [c_7]; rfl) (by decide) ?_
    refine lv_bipush (v := 99) hx hb dX5_resists_56 (by decide) ?_
    exact eRi C0 (Option.some.inj h) dX5_resists_58
  have h := ifn c_7 h
  by_cases c_8 : z_1 = 6
  · have h := ifp c_8 h
    refine lv_tableIn (tgt := 53) hx hb dX5_resists_6 (by rw [c_8]; decide) (by rw [c_8]; decide) (by rw [c_8]; rfl) (by decide) ?_
    refine lv_bipush (v := 20) hx hb dX5_resists_53 (by decide) ?_
    exact eRi C0 (Option.some.inj h) dX5_resists_55
  have h := ifn c_8 h
  refine lv_tableOut (tgt := 56) hx hb dX5_resists_6 (tb0 (tbS (k := 1) (by decide) c_3 (tbS (k := 2) (by decide) c_4 (tbS (k := 3) (by decide) c_5 (tbS (k := 4) (by decide) c_6 (tbS (k := 5) (by decide) c_7 (tbS (k := 6) (by decide) c_8 (tbE (by decide))))))))) (by decide) ?_
  refine lv_bipush (v := 99) hx hb dX5_resists_56 (by decide) ?_
  exact eRi C0 (Option.some.inj h) dX5_resists_58
def fX5_told (nw : Nat → Int32) (v1 : Int32) (v2 : Int32) : Option (Int32) := (if v2 = 5 then Option.bind (fX5_thickens nw v1) (fun z_2 => some z_2) else if v2 = 6 then Option.bind (fX5_reaches nw v1) (fun z_5 => some z_5) else if v2 = 7 then Option.bind (fX5_blurs nw v1) (fun z_8 => some z_8) else if v2 = 8 then Option.bind (fX5_resists nw v1) (fun z_11 => some z_11) else Option.bind (fX5_sayingIs nw v1 v2) (fun z_13 => some z_13))
abbrev rmX5_told : Room := { frames := 3, cells := 0, slots := 0, locals := 66 }
theorem pdX5_told : (yX5_told.cls = RX5 ∧ yX5_told.cls ≠ "java/lang/invoke/MethodHandle" ∧ yX5_told.cls ≠ "java/lang/invoke/VarHandle" ∧ (parseMethodDescriptor yX5_told.desc).map (fun d => d.parameters.length) = some 2) := by decide +kernel
set_option maxHeartbeats 4000000 in
set_option maxRecDepth 100000 in
theorem tX5_told (l : Launch) (D : va_G) (cI cS : ClassId) (a0 a1 a2 a3 a4 a5 a6 a7 a8 a9 a10 a11 : Nat) (nw : Nat → Int32) (kp : Nat → Int32) (ad : Nat → Int32) (fd : Nat → Int32) (tp : Nat → Int32) (kn : Nat → Option Nat) (it : Nat → Int32) (wd : Nat → Int32) (sz : Nat → Int32) (nm : Nat → Int32) (mv : Nat → Int32) (ik : Int32) (td : Int32) (bg : Int32) (en : Int32) (so : Int32) (va : Int32) (iw : Int32) (im : Int32) (st : Int32) (ht : Int32) (v1 : Int32) (v2 : Int32) (z0 : Int32) (h : fX5_told nw v1 v2 = some z0) : Met l yX5_told wsX5_told rmX5_told (PZ D cI cS [.ref a0, .int v1, .int v2] (fun U => va_P D vwCl (wX5 cI cS a0 a1 a2 a3 a4 a5 a6 a7 a8 a9 a10 a11 nw kp ad fd tp kn it wd sz nm mv ik td bg en so va iw im st ht) U.heap)) (vp_Si (fun x => x = z0)) 0 0 (fun _ => False) := by
  refine Met.mk RX5 (by decide) rfl rfl (Nat.le_of_ble_eq_true rfl) ?_
  intro p e s m below meth c ls C0 hP hl
  have hl : lv_has ls 3 [(0, .ref a0), (1, .int v1), (2, .int v2)] := hl
  obtain ⟨hx, hb, hr, hml, hown, hts, hlk, hE⟩ := id C0
  rw [fX5_told] at h
  refine lv_iload_n hx hb dX5_told_0 rfl (lv_at hl 2 rfl) ?_
  by_cases c_1 : v2 = 5
  · have h := ifp c_1 h
    refine lv_tableIn (tgt := 32) hx hb dX5_told_1 (by rw [c_1]; decide) (by rw [c_1]; decide) (by rw [c_1]; rfl) (by decide) ?_
    refine lv_aload_n hx hb dX5_told_32 rfl (lv_at hl 0 rfl) ?_
    refine lv_iload_n hx hb dX5_told_33 rfl (lv_at hl 1 rfl) ?_
    obtain ⟨z_2, e_3, h⟩ := bds h
    have hPc := hP.sub (ws' := (wX5 cI cS a0 a1 a2 a3 a4 a5 a6 a7 a8 a9 a10 a11 nw kp ad fd tp kn it wd sz nm mv ik td bg en so va iw im st ht)) [0, 1, 2, 3, 4, 5, 6, 7, 8, 9, 10, 11] rfl
    refine kRi (rV C0 (tX5_thickens l D cI cS a0 a1 a2 a3 a4 a5 a6 a7 a8 a9 a10 a11 nw kp ad fd tp kn it wd sz nm mv ik td bg en so va iw im st ht v1 z_2 e_3) RX5 gX5_told_X5_thickens rfl ⟨rfl, rfl⟩ pdX5_thickens rfl ⟨Nat.le_of_ble_eq_true rfl, Nat.le_of_ble_eq_true rfl⟩ (fun _ _ _ _ q => q) (va_recv hE.1 hPc (ci := 4) (q0 := 0) rfl rfl) (fun U hU _ _ => by rw [hU]; exact hPc) hl.1 rfl (Nat.le_of_ble_eq_true rfl) dX5_told_34 ⟨Nat.zero_le _, Nat.zero_le _⟩) ?_
    exact eRi C0 (Option.some.inj h) dX5_told_37
  have h := ifn c_1 h
  by_cases c_4 : v2 = 6
  · have h := ifp c_4 h
    refine lv_tableIn (tgt := 38) hx hb dX5_told_1 (by rw [c_4]; decide) (by rw [c_4]; decide) (by rw [c_4]; rfl) (by decide) ?_
    refine lv_aload_n hx hb dX5_told_38 rfl (lv_at hl 0 rfl) ?_
    refine lv_iload_n hx hb dX5_told_39 rfl (lv_at hl 1 rfl) ?_
    obtain ⟨z_5, e_6, h⟩ := bds h
    have hPc := hP.sub (ws' := (wX5 cI cS a0 a1 a2 a3 a4 a5 a6 a7 a8 a9 a10 a11 nw kp ad fd tp kn it wd sz nm mv ik td bg en so va iw im st ht)) [0, 1, 2, 3, 4, 5, 6, 7, 8, 9, 10, 11] rfl
    refine kRi (rV C0 (tX5_reaches l D cI cS a0 a1 a2 a3 a4 a5 a6 a7 a8 a9 a10 a11 nw kp ad fd tp kn it wd sz nm mv ik td bg en so va iw im st ht v1 z_5 e_6) RX5 gX5_told_X5_reaches rfl ⟨rfl, rfl⟩ pdX5_reaches rfl ⟨Nat.le_of_ble_eq_true rfl, Nat.le_of_ble_eq_true rfl⟩ (fun _ _ _ _ q => q) (va_recv hE.1 hPc (ci := 4) (q0 := 0) rfl rfl) (fun U hU _ _ => by rw [hU]; exact hPc) hl.1 rfl (Nat.le_of_ble_eq_true rfl) dX5_told_40 ⟨Nat.zero_le _, Nat.zero_le _⟩) ?_
    exact eRi C0 (Option.some.inj h) dX5_told_43
  have h := ifn c_4 h
  by_cases c_7 : v2 = 7
  · have h := ifp c_7 h
    refine lv_tableIn (tgt := 44) hx hb dX5_told_1 (by rw [c_7]; decide) (by rw [c_7]; decide) (by rw [c_7]; rfl) (by decide) ?_
    refine lv_aload_n hx hb dX5_told_44 rfl (lv_at hl 0 rfl) ?_
    refine lv_iload_n hx hb dX5_told_45 rfl (lv_at hl 1 rfl) ?_
    obtain ⟨z_8, e_9, h⟩ := bds h
    have hPc := hP.sub (ws' := (wX5 cI cS a0 a1 a2 a3 a4 a5 a6 a7 a8 a9 a10 a11 nw kp ad fd tp kn it wd sz nm mv ik td bg en so va iw im st ht)) [0, 1, 2, 3, 4, 5, 6, 7, 8, 9, 10, 11] rfl
    refine kRi (rV C0 (tX5_blurs l D cI cS a0 a1 a2 a3 a4 a5 a6 a7 a8 a9 a10 a11 nw kp ad fd tp kn it wd sz nm mv ik td bg en so va iw im st ht v1 z_8 e_9) RX5 gX5_told_X5_blurs rfl ⟨rfl, rfl⟩ pdX5_blurs rfl ⟨Nat.le_of_ble_eq_true rfl, Nat.le_of_ble_eq_true rfl⟩ (fun _ _ _ _ q => q) (va_recv hE.1 hPc (ci := 4) (q0 := 0) rfl rfl) (fun U hU _ _ => by rw [hU]; exact hPc) hl.1 rfl (Nat.le_of_ble_eq_true rfl) dX5_told_46 ⟨Nat.zero_le _, Nat.zero_le _⟩) ?_
    exact eRi C0 (Option.some.inj h) dX5_told_49
  have h := ifn c_7 h
  by_cases c_10 : v2 = 8
  · have h := ifp c_10 h
    refine lv_tableIn (tgt := 50) hx hb dX5_told_1 (by rw [c_10]; decide) (by rw [c_10]; decide) (by rw [c_10]; rfl) (by decide) ?_
    refine lv_aload_n hx hb dX5_told_50 rfl (lv_at hl 0 rfl) ?_
    refine lv_iload_n hx hb dX5_told_51 rfl (lv_at hl 1 rfl) ?_
    obtain ⟨z_11, e_12, h⟩ := bds h
    have hPc := hP.sub (ws' := (wX5 cI cS a0 a1 a2 a3 a4 a5 a6 a7 a8 a9 a10 a11 nw kp ad fd tp kn it wd sz nm mv ik td bg en so va iw im st ht)) [0, 1, 2, 3, 4, 5, 6, 7, 8, 9, 10, 11] rfl
    refine kRi (rV C0 (tX5_resists l D cI cS a0 a1 a2 a3 a4 a5 a6 a7 a8 a9 a10 a11 nw kp ad fd tp kn it wd sz nm mv ik td bg en so va iw im st ht v1 z_11 e_12) RX5 gX5_told_X5_resists rfl ⟨rfl, rfl⟩ pdX5_resists rfl ⟨Nat.le_of_ble_eq_true rfl, Nat.le_of_ble_eq_true rfl⟩ (fun _ _ _ _ q => q) (va_recv hE.1 hPc (ci := 4) (q0 := 0) rfl rfl) (fun U hU _ _ => by rw [hU]; exact hPc) hl.1 rfl (Nat.le_of_ble_eq_true rfl) dX5_told_52 ⟨Nat.zero_le _, Nat.zero_le _⟩) ?_
    exact eRi C0 (Option.some.inj h) dX5_told_55
  have h := ifn c_10 h
  refine lv_tableOut (tgt := 56) hx hb dX5_told_1 (tb0 (tbS (k := 5) (by decide) c_1 (tbS (k := 6) (by decide) c_4 (tbS (k := 7) (by decide) c_7 (tbS (k := 8) (by decide) c_10 (tbE (by decide))))))) (by decide) ?_
  refine lv_aload_n hx hb dX5_told_56 rfl (lv_at hl 0 rfl) ?_
  refine lv_iload_n hx hb dX5_told_57 rfl (lv_at hl 1 rfl) ?_
  refine lv_iload_n hx hb dX5_told_58 rfl (lv_at hl 2 rfl) ?_
  obtain ⟨z_13, e_14, h⟩ := bds h
  have hPc := hP.sub (ws' := (wX5 cI cS a0 a1 a2 a3 a4 a5 a6 a7 a8 a9 a10 a11 nw kp ad fd tp kn it wd sz nm mv ik td bg en so va iw im st ht)) [0, 1, 2, 3, 4, 5, 6, 7, 8, 9, 10, 11] rfl
  refine kRi (rV C0 (tX5_sayingIs l D cI cS a0 a1 a2 a3 a4 a5 a6 a7 a8 a9 a10 a11 nw kp ad fd tp kn it wd sz nm mv ik td bg en so va iw im st ht v1 v2 z_13 e_14) RX5 gX5_told_X5_sayingIs rfl ⟨rfl, rfl⟩ pdX5_sayingIs rfl ⟨Nat.le_of_ble_eq_true rfl, Nat.le_of_ble_eq_true rfl⟩ (fun _ _ _ _ q => q) (va_recv hE.1 hPc (ci := 4) (q0 := 0) rfl rfl) (fun U hU _ _ => by rw [hU]; exact hPc) hl.1 rfl (Nat.le_of_ble_eq_true rfl) dX5_told_59 ⟨Nat.zero_le _, Nat.zero_le _⟩) ?_
  exact eRi C0 (Option.some.inj h) dX5_told_62
def fX5_of (nw : Nat → Int32) (fd : Nat → Int32) (v1 : Int32) (v2 : Int32) : Option (Int32 × (Nat → Int32)) := (if (fX5_isSaying nw v1) = 0 then Option.bind (fX5_finding fd (-1000001)) (fun z_2 => some (z_2.1, z_2.2)) else (if (fX5_within v2 0 8) = 0 then Option.bind (fX5_finding fd (-1000001)) (fun z_5 => some (z_5.1, z_5.2)) else Option.bind (fX5_told nw v1 v2) (fun z_7 => some (z_7, fd))))
abbrev rmX5_of : Room := { frames := 4, cells := 0, slots := 0, locals := 88 }
theorem pdX5_of : (yX5_of.cls = RX5 ∧ yX5_of.cls ≠ "java/lang/invoke/MethodHandle" ∧ yX5_of.cls ≠ "java/lang/invoke/VarHandle" ∧ (parseMethodDescriptor yX5_of.desc).map (fun d => d.parameters.length) = some 2) := by decide +kernel
set_option maxHeartbeats 4000000 in
set_option maxRecDepth 100000 in
theorem tX5_of (l : Launch) (D : va_G) (cI cS : ClassId) (a0 a1 a2 a3 a4 a5 a6 a7 a8 a9 a10 a11 : Nat) (nw : Nat → Int32) (kp : Nat → Int32) (ad : Nat → Int32) (fd : Nat → Int32) (tp : Nat → Int32) (kn : Nat → Option Nat) (it : Nat → Int32) (wd : Nat → Int32) (sz : Nat → Int32) (nm : Nat → Int32) (mv : Nat → Int32) (ik : Int32) (td : Int32) (bg : Int32) (en : Int32) (so : Int32) (va : Int32) (iw : Int32) (im : Int32) (st : Int32) (ht : Int32) (v1 : Int32) (v2 : Int32) (z0 : Int32) (z1 : Nat → Int32) (h : fX5_of nw fd v1 v2 = some (z0, z1)) (hD0 : va_D (fun _ => True) (wX5 cI cS a0 a1 a2 a3 a4 a5 a6 a7 a8 a9 a10 a11 nw kp ad fd tp kn it wd sz nm mv ik td bg en so va iw im st ht)) : Met l yX5_of wsX5_of rmX5_of (PZ D cI cS [.ref a0, .int v1, .int v2] (fun U => va_P D vwCl (wX5 cI cS a0 a1 a2 a3 a4 a5 a6 a7 a8 a9 a10 a11 nw kp ad fd tp kn it wd sz nm mv ik td bg en so va iw im st ht) U.heap)) (qI D (wX5 cI cS a0 a1 a2 a3 a4 a5 a6 a7 a8 a9 a10 a11 nw kp ad fd tp kn it wd sz nm mv ik td bg en so va iw im st ht) (wX5 cI cS a0 a1 a2 a3 a4 a5 a6 a7 a8 a9 a10 a11 nw kp ad z1 tp kn it wd sz nm mv ik td bg en so va iw im st ht) z0) 0 0 (wA (wX5 cI cS a0 a1 a2 a3 a4 a5 a6 a7 a8 a9 a10 a11 nw kp ad fd tp kn it wd sz nm mv ik td bg en so va iw im st ht)) := by
  refine Met.mk RX5 (by decide) rfl rfl (Nat.le_of_ble_eq_true rfl) ?_
  intro p e s m below meth c ls C0 hP hl
  have hl : lv_has ls 3 [(0, .ref a0), (1, .int v1), (2, .int v2)] := hl
  obtain ⟨hx, hb, hr, hml, hown, hts, hlk, hE⟩ := id C0
  have hD : ∀ W : va_W, W.map Prod.fst = [a0, a1, a2, a3, a4, a5, a6, a7, a8, a9, a10, a11] → va_D (wA (wX5 cI cS a0 a1 a2 a3 a4 a5 a6 a7 a8 a9 a10 a11 nw kp ad fd tp kn it wd sz nm mv ik td bg en so va iw im st ht)) W := fun W hW => hD0.own.re hW
  have hS : va_S (wA (wX5 cI cS a0 a1 a2 a3 a4 a5 a6 a7 a8 a9 a10 a11 nw kp ad fd tp kn it wd sz nm mv ik td bg en so va iw im st ht)) s.heap s.heap [] := va_S.rf
  have hP : va_P D vwCl (wX5 cI cS a0 a1 a2 a3 a4 a5 a6 a7 a8 a9 a10 a11 nw kp ad fd tp kn it wd sz nm mv ik td bg en so va iw im st ht) s.heap := hP
  rw [fX5_of] at h
  refine lv_aload_n hx hb dX5_of_0 rfl (lv_at hl 0 rfl) ?_
  refine lv_iload_n hx hb dX5_of_1 rfl (lv_at hl 1 rfl) ?_
  have hPc := hP.sub (ws' := (wX5 cI cS a0 a1 a2 a3 a4 a5 a6 a7 a8 a9 a10 a11 nw kp ad fd tp kn it wd sz nm mv ik td bg en so va iw im st ht)) [0, 1, 2, 3, 4, 5, 6, 7, 8, 9, 10, 11] rfl
  refine kRi (rV C0 (tX5_isSaying l D cI cS a0 a1 a2 a3 a4 a5 a6 a7 a8 a9 a10 a11 nw kp ad fd tp kn it wd sz nm mv ik td bg en so va iw im st ht v1 (fX5_isSaying nw v1) rfl) RX5 gX5_of_X5_isSaying rfl ⟨rfl, rfl⟩ pdX5_isSaying rfl ⟨Nat.le_of_ble_eq_true rfl, Nat.le_of_ble_eq_true rfl⟩ (fun _ _ _ _ q => q) (va_recv hE.1 hPc (ci := 4) (q0 := 0) rfl rfl) (fun U hU _ _ => by rw [hU]; exact hPc) hl.1 rfl (Nat.le_of_ble_eq_true rfl) dX5_of_2 ⟨Nat.zero_le _, Nat.zero_le _⟩) ?_
  refine lv_if_eq (tgt := 27) hx hb dX5_of_5 (by decide) (fun c_1 => ?_) (fun c_1 => ?_)
  · have h := ifp c_1 h
    refine lv_aload_n hx hb dX5_of_27 rfl (lv_at hl 0 rfl) ?_
    refine lv_ldc (v := (-1000001)) hx hb hown (hts _ (List.mem_of_getElem? (i := 1) rfl)) dX5_of_28 ?_
    obtain ⟨z_2, e_3, h⟩ := bds h
    have hPc := hP.sub (ws' := (wX5 cI cS a0 a1 a2 a3 a4 a5 a6 a7 a8 a9 a10 a11 nw kp ad fd tp kn it wd sz nm mv ik td bg en so va iw im st ht)) [0, 1, 2, 3, 4, 5, 6, 7, 8, 9, 10, 11] rfl
    refine kMi (wf' := (wX5 cI cS a0 a1 a2 a3 a4 a5 a6 a7 a8 a9 a10 a11 nw kp ad z_2.2 tp kn it wd sz nm mv ik td bg en so va iw im st ht)) [0, 1, 2, 3, 4, 5, 6, 7, 8, 9, 10, 11] [some 0, some 1, some 2, some 3, some 4, some 5, some 6, some 7, some 8, some 9, some 10, some 11] (rV C0 (tX5_finding l D cI cS a0 a1 a2 a3 a4 a5 a6 a7 a8 a9 a10 a11 nw kp ad fd tp kn it wd sz nm mv ik td bg en so va iw im st ht (-1000001) z_2.1 z_2.2 e_3 (((hD (wX5 cI cS a0 a1 a2 a3 a4 a5 a6 a7 a8 a9 a10 a11 nw kp ad fd tp kn it wd sz nm mv ik td bg en so va iw im st ht) rfl).sub [0, 1, 2, 3, 4, 5, 6, 7, 8, 9, 10, 11] (by decide) rfl).weaken (fun _ _ _ _ => trivial))) RX5 gX5_of_X5_finding rfl ⟨rfl, rfl⟩ pdX5_finding rfl ⟨Nat.le_of_ble_eq_true rfl, Nat.le_of_ble_eq_true rfl⟩ (fun _ _ _ _ q => q) (va_recv hE.1 hPc (ci := 4) (q0 := 0) rfl rfl) (fun U hU _ _ => by rw [hU]; exact hPc) hl.1 rfl (Nat.le_of_ble_eq_true rfl) dX5_of_30 ⟨Nat.zero_le _, Nat.zero_le _⟩) hP (hD _ rfl) hS rfl rfl rfl (fun H locs hP hS => ?_)
    obtain ⟨q0, q1⟩ := Prod.mk.inj (Option.some.inj h)
    subst q0 q1
    exact eMi C0 hP hS rfl rfl dX5_of_33
  · have h := ifn c_1 h
    refine lv_iload_n hx hb dX5_of_8 rfl (lv_at hl 2 rfl) ?_
    refine lv_iconst (v := 0) hx hb dX5_of_9 (by decide) ?_
    refine lv_bipush (v := 8) hx hb dX5_of_10 (by decide) ?_
    refine kRi (rS C0 (tX5_within l D cI cS v2 0 8 (fX5_within v2 0 8) rfl) gX5_of_X5_within rfl ⟨rfl, rfl⟩ pdX5_within rfl ⟨Nat.le_of_ble_eq_true rfl, Nat.le_of_ble_eq_true rfl⟩ (fun _ _ _ _ q => q) (fun _ _ _ _ => vp0) hl.1 rfl (Nat.le_of_ble_eq_true rfl) dX5_of_12 ⟨Nat.zero_le _, Nat.zero_le _⟩) ?_
    refine lv_if_eq (tgt := 27) hx hb dX5_of_15 (by decide) (fun c_4 => ?_) (fun c_4 => ?_)
    · have h := ifp c_4 h
      refine lv_aload_n hx hb dX5_of_27 rfl (lv_at hl 0 rfl) ?_
      refine lv_ldc (v := (-1000001)) hx hb hown (hts _ (List.mem_of_getElem? (i := 1) rfl)) dX5_of_28 ?_
      obtain ⟨z_5, e_6, h⟩ := bds h
      have hPc := hP.sub (ws' := (wX5 cI cS a0 a1 a2 a3 a4 a5 a6 a7 a8 a9 a10 a11 nw kp ad fd tp kn it wd sz nm mv ik td bg en so va iw im st ht)) [0, 1, 2, 3, 4, 5, 6, 7, 8, 9, 10, 11] rfl
      refine kMi (wf' := (wX5 cI cS a0 a1 a2 a3 a4 a5 a6 a7 a8 a9 a10 a11 nw kp ad z_5.2 tp kn it wd sz nm mv ik td bg en so va iw im st ht)) [0, 1, 2, 3, 4, 5, 6, 7, 8, 9, 10, 11] [some 0, some 1, some 2, some 3, some 4, some 5, some 6, some 7, some 8, some 9, some 10, some 11] (rV C0 (tX5_finding l D cI cS a0 a1 a2 a3 a4 a5 a6 a7 a8 a9 a10 a11 nw kp ad fd tp kn it wd sz nm mv ik td bg en so va iw im st ht (-1000001) z_5.1 z_5.2 e_6 (((hD (wX5 cI cS a0 a1 a2 a3 a4 a5 a6 a7 a8 a9 a10 a11 nw kp ad fd tp kn it wd sz nm mv ik td bg en so va iw im st ht) rfl).sub [0, 1, 2, 3, 4, 5, 6, 7, 8, 9, 10, 11] (by decide) rfl).weaken (fun _ _ _ _ => trivial))) RX5 gX5_of_X5_finding rfl ⟨rfl, rfl⟩ pdX5_finding rfl ⟨Nat.le_of_ble_eq_true rfl, Nat.le_of_ble_eq_true rfl⟩ (fun _ _ _ _ q => q) (va_recv hE.1 hPc (ci := 4) (q0 := 0) rfl rfl) (fun U hU _ _ => by rw [hU]; exact hPc) hl.1 rfl (Nat.le_of_ble_eq_true rfl) dX5_of_30 ⟨Nat.zero_le _, Nat.zero_le _⟩) hP (hD _ rfl) hS rfl rfl rfl (fun H locs hP hS => ?_)
      obtain ⟨q0, q1⟩ := Prod.mk.inj (Option.some.inj h)
      subst q0 q1
      exact eMi C0 hP hS rfl rfl dX5_of_33
    · have h := ifn c_4 h
      refine lv_aload_n hx hb dX5_of_18 rfl (lv_at hl 0 rfl) ?_
      refine lv_iload_n hx hb dX5_of_19 rfl (lv_at hl 1 rfl) ?_
      refine lv_iload_n hx hb dX5_of_20 rfl (lv_at hl 2 rfl) ?_
      obtain ⟨z_7, e_8, h⟩ := bds h
      have hPc := hP.sub (ws' := (wX5 cI cS a0 a1 a2 a3 a4 a5 a6 a7 a8 a9 a10 a11 nw kp ad fd tp kn it wd sz nm mv ik td bg en so va iw im st ht)) [0, 1, 2, 3, 4, 5, 6, 7, 8, 9, 10, 11] rfl
      refine kRi (rV C0 (tX5_told l D cI cS a0 a1 a2 a3 a4 a5 a6 a7 a8 a9 a10 a11 nw kp ad fd tp kn it wd sz nm mv ik td bg en so va iw im st ht v1 v2 z_7 e_8) RX5 gX5_of_X5_told rfl ⟨rfl, rfl⟩ pdX5_told rfl ⟨Nat.le_of_ble_eq_true rfl, Nat.le_of_ble_eq_true rfl⟩ (fun _ _ _ _ q => q) (va_recv hE.1 hPc (ci := 4) (q0 := 0) rfl rfl) (fun U hU _ _ => by rw [hU]; exact hPc) hl.1 rfl (Nat.le_of_ble_eq_true rfl) dX5_of_21 ⟨Nat.zero_le _, Nat.zero_le _⟩) ?_
      refine lv_goto (tgt := 33) hx hb dX5_of_24 (by decide) ?_
      obtain ⟨q0, q1⟩ := Prod.mk.inj (Option.some.inj h)
      subst q0 q1
      exact eMi C0 hP hS rfl rfl dX5_of_33
def fX5_isField (v0 : Int32) (v1 : Int32) : Int32 := (if v0 = 0 then (fX5_isKind v1) else if v0 = 1 then (fX5_isCell v1) else if v0 = 2 then (fX5_isMany v1) else if v0 = 3 then (fX5_within v1 0 1) else if v0 = 4 then (fX5_within v1 0 9999) else 0)
abbrev rmX5_isField : Room := { frames := 2, cells := 0, slots := 0, locals := 42 }
theorem pdX5_isField : (yX5_isField.cls ≠ "java/lang/invoke/MethodHandle" ∧ yX5_isField.cls ≠ "java/lang/invoke/VarHandle" ∧ (parseMethodDescriptor yX5_isField.desc).map (fun d => d.parameters.length) = some 2) := by decide +kernel
set_option maxHeartbeats 4000000 in
set_option maxRecDepth 100000 in
theorem tX5_isField (l : Launch) (D : va_G) (cI cS : ClassId) (v0 : Int32) (v1 : Int32) (z0 : Int32) (h : fX5_isField v0 v1 = z0) : Met l yX5_isField wsX5_isField rmX5_isField (PZ D cI cS [.int v0, .int v1] (fun U => va_P D vwCl ([] : va_W) U.heap)) (vp_Si (fun x => x = z0)) 0 0 (fun _ => False) := by
  refine Met.mk RX5 (by decide) rfl rfl (Nat.le_of_ble_eq_true rfl) ?_
  intro p e s m below meth c ls C0 hP hl
  have hl : lv_has ls 2 [(0, .int v0), (1, .int v1)] := hl
  obtain ⟨hx, hb, hr, hml, hown, hts, hlk, hE⟩ := id C0
  rw [fX5_isField] at h
  refine lv_iload_n hx hb dX5_isField_0 rfl (lv_at hl 0 rfl) ?_
  by_cases c_1 : v0 = 0
  · have h := ifp c_1 h
    refine lv_tableIn (tgt := 36) hx hb dX5_isField_1 (by rw [c_1]; decide) (by rw [c_1]; decide) (by rw [c_1]; rfl) (by decide) ?_
    refine lv_iload_n hx hb dX5_isField_36 rfl (lv_at hl 1 rfl) ?_
    refine kRi (rS C0 (tX5_isKind l D cI cS v1 (fX5_isKind v1) rfl) gX5_isField_X5_isKind rfl ⟨rfl, rfl⟩ pdX5_isKind rfl ⟨Nat.le_of_ble_eq_true rfl, Nat.le_of_ble_eq_true rfl⟩ (fun _ _ _ _ q => q) (fun _ _ _ _ => vp0) hl.1 rfl (Nat.le_of_ble_eq_true rfl) dX5_isField_37 ⟨Nat.zero_le _, Nat.zero_le _⟩) ?_
    exact eRz C0 (zzX5_isKind ..) h dX5_isField_40
  have h := ifn c_1 h
  by_cases c_2 : v0 = 1
  · have h := ifp c_2 h
    refine lv_tableIn (tgt := 41) hx hb dX5_isField_1 (by rw [c_2]; decide) (by rw [c_2]; decide) (by rw [c_2]; rfl) (by decide) ?_
    refine lv_iload_n hx hb dX5_isField_41 rfl (lv_at hl 1 rfl) ?_
    refine kRi (rS C0 (tX5_isCell l D cI cS v1 (fX5_isCell v1) rfl) gX5_isField_X5_isCell rfl ⟨rfl, rfl⟩ pdX5_isCell rfl ⟨Nat.le_of_ble_eq_true rfl, Nat.le_of_ble_eq_true rfl⟩ (fun _ _ _ _ q => q) (fun _ _ _ _ => vp0) hl.1 rfl (Nat.le_of_ble_eq_true rfl) dX5_isField_42 ⟨Nat.zero_le _, Nat.zero_le _⟩) ?_
    exact eRz C0 (zzX5_isCell ..) h dX5_isField_45
  have h := ifn c_2 h
  by_cases c_3 : v0 = 2
  · have h := ifp c_3 h
    refine lv_tableIn (tgt := 46) hx hb dX5_isField_1 (by rw [c_3]; decide) (by rw [c_3]; decide) (by rw [c_3]; rfl) (by decide) ?_
    refine lv_iload_n hx hb dX5_isField_46 rfl (lv_at hl 1 rfl) ?_
    refine kRi (rS C0 (tX5_isMany l D cI cS v1 (fX5_isMany v1) rfl) gX5_isField_X5_isMany rfl ⟨rfl, rfl⟩ pdX5_isMany rfl ⟨Nat.le_of_ble_eq_true rfl, Nat.le_of_ble_eq_true rfl⟩ (fun _ _ _ _ q => q) (fun _ _ _ _ => vp0) hl.1 rfl (Nat.le_of_ble_eq_true rfl) dX5_isField_47 ⟨Nat.zero_le _, Nat.zero_le _⟩) ?_
    exact eRz C0 (zzX5_isMany ..) h dX5_isField_50
  have h := ifn c_3 h
  by_cases c_4 : v0 = 3
  · have h := ifp c_4 h
    refine lv_tableIn (tgt := 51) hx hb dX5_isField_1 (by rw [c_4]; decide) (by rw [c_4]; decide) (by rw [c_4]; rfl) (by decide) ?_
    refine lv_iload_n hx hb dX5_isField_51 rfl (lv_at hl 1 rfl) ?_
    refine lv_iconst (v := 0) hx hb dX5_isField_52 (by decide) ?_
    refine lv_iconst (v := 1) hx hb dX5_isField_53 (by decide) ?_
    refine kRi (rS C0 (tX5_within l D cI cS v1 0 1 (fX5_within v1 0 1) rfl) gX5_isField_X5_within rfl ⟨rfl, rfl⟩ pdX5_within rfl ⟨Nat.le_of_ble_eq_true rfl, Nat.le_of_ble_eq_true rfl⟩ (fun _ _ _ _ q => q) (fun _ _ _ _ => vp0) hl.1 rfl (Nat.le_of_ble_eq_true rfl) dX5_isField_54 ⟨Nat.zero_le _, Nat.zero_le _⟩) ?_
    exact eRz C0 (zzX5_within ..) h dX5_isField_57
  have h := ifn c_4 h
  by_cases c_5 : v0 = 4
  · have h := ifp c_5 h
    refine lv_tableIn (tgt := 58) hx hb dX5_isField_1 (by rw [c_5]; decide) (by rw [c_5]; decide) (by rw [c_5]; rfl) (by decide) ?_
    refine lv_iload_n hx hb dX5_isField_58 rfl (lv_at hl 1 rfl) ?_
    refine lv_iconst (v := 0) hx hb dX5_isField_59 (by decide) ?_
    refine lv_sipush (v := 9999) hx hb dX5_isField_60 (by decide) ?_
    refine kRi (rS C0 (tX5_within l D cI cS v1 0 9999 (fX5_within v1 0 9999) rfl) gX5_isField_X5_within rfl ⟨rfl, rfl⟩ pdX5_within rfl ⟨Nat.le_of_ble_eq_true rfl, Nat.le_of_ble_eq_true rfl⟩ (fun _ _ _ _ q => q) (fun _ _ _ _ => vp0) hl.1 rfl (Nat.le_of_ble_eq_true rfl) dX5_isField_63 ⟨Nat.zero_le _, Nat.zero_le _⟩) ?_
    exact eRz C0 (zzX5_within ..) h dX5_isField_66
  have h := ifn c_5 h
  refine lv_tableOut (tgt := 67) hx hb dX5_isField_1 (tb0 (tbS (k := 0) (by decide) c_1 (tbS (k := 1) (by decide) c_2 (tbS (k := 2) (by decide) c_3 (tbS (k := 3) (by decide) c_4 (tbS (k := 4) (by decide) c_5 (tbE (by decide)))))))) (by decide) ?_
  refine lv_iconst (v := 0) hx hb dX5_isField_67 (by decide) ?_
  exact eRz C0 rfl h dX5_isField_68
theorem zzX5_isField (v0 : Int32) (v1 : Int32) : narrow .boolean (.int (fX5_isField v0 v1)) = .int (fX5_isField v0 v1) := by unfold fX5_isField; (repeat' split) <;> first | rfl | exact zzX5_within .. | exact zzX5_isCell .. | exact zzX5_isMany .. | exact zzX5_isPlace .. | exact zzX5_isSaying .. | exact zzX5_isShip .. | exact zzX5_isKind .. | exact zzX5_isFast ..
