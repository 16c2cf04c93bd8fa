def fX5_hold (nw : Nat → Int32) (fd : Nat → Int32) (v1 : Int32) (v2 : Int32) : Option (Int32 × (Nat → Int32) × (Nat → Int32)) := (if (fX5_isSpot v1) = 0 then Option.bind (fX5_finding fd (-1000001)) (fun z_2 => some (z_2.1, nw, z_2.2)) else (if v2 = (-1) then if ¬ ((10 + v1) < 0 ∨ 84 ≤ (10 + v1).toNatClampNeg) then some (1, upd nw (10 + v1).toNatClampNeg v2, fd) else none else (if (fX5_isSaying nw v2) = 0 then Option.bind (fX5_finding fd (-1000001)) (fun z_8 => some (z_8.1, nw, z_8.2)) else if ¬ ((10 + v1) < 0 ∨ 84 ≤ (10 + v1).toNatClampNeg) then some (1, upd nw (10 + v1).toNatClampNeg v2, fd) else none)))
abbrev rmX5_hold : Room := { frames := 2, cells := 0, slots := 0, locals := 43 }
theorem pdX5_hold : (yX5_hold.cls = RX5 ∧ yX5_hold.cls ≠ "java/lang/invoke/MethodHandle" ∧ yX5_hold.cls ≠ "java/lang/invoke/VarHandle" ∧ (parseMethodDescriptor yX5_hold.desc).map (fun d => d.parameters.length) = some 2) := by decide +kernel
set_option maxHeartbeats 4000000 in
set_option maxRecDepth 100000 in
theorem tX5_hold (l : Launch) (D : va_G) (cI cS : ClassId) (a0 a1 a2 a3 a4 a5 a6 a7 a8 a9 a10 a11 : Nat) (nw : Nat → Int32) (kp : Nat → Int32) (ad : Nat → Int32) (fd : Nat → Int32) (tp : Nat → Int32) (kn : Nat → Option Nat) (it : Nat → Int32) (wd : Nat → Int32) (sz : Nat → Int32) (nm : Nat → Int32) (mv : Nat → Int32) (ik : Int32) (td : Int32) (bg : Int32) (en : Int32) (so : Int32) (va : Int32) (iw : Int32) (im : Int32) (st : Int32) (ht : Int32) (v1 : Int32) (v2 : Int32) (z0 : Int32) (z1 : Nat → Int32) (z2 : Nat → Int32) (h : fX5_hold nw fd v1 v2 = some (z0, z1, z2)) (hD0 : va_D (fun _ => True) (wX5 cI cS a0 a1 a2 a3 a4 a5 a6 a7 a8 a9 a10 a11 nw kp ad fd tp kn it wd sz nm mv ik td bg en so va iw im st ht)) : Met l yX5_hold wsX5_hold rmX5_hold (PZ D cI cS [.ref a0, .int v1, .int v2] (fun U => va_P D vwCl (wX5 cI cS a0 a1 a2 a3 a4 a5 a6 a7 a8 a9 a10 a11 nw kp ad fd tp kn it wd sz nm mv ik td bg en so va iw im st ht) U.heap)) (qI D (wX5 cI cS a0 a1 a2 a3 a4 a5 a6 a7 a8 a9 a10 a11 nw kp ad fd tp kn it wd sz nm mv ik td bg en so va iw im st ht) (wX5 cI cS a0 a1 a2 a3 a4 a5 a6 a7 a8 a9 a10 a11 z1 kp ad z2 tp kn it wd sz nm mv ik td bg en so va iw im st ht) z0) 0 0 (wA (wX5 cI cS a0 a1 a2 a3 a4 a5 a6 a7 a8 a9 a10 a11 nw kp ad fd tp kn it wd sz nm mv ik td bg en so va iw im st ht)) := by
  refine Met.mk RX5 (by decide) rfl rfl (Nat.le_of_ble_eq_true rfl) ?_
  intro p e s m below meth c ls C0 hP hl
  have hl : lv_has ls 3 [(0, .ref a0), (1, .int v1), (2, .int v2)] := hl
  obtain ⟨hx, hb, hr, hml, hown, hts, hlk, hE⟩ := id C0
  have hinX5 : ∀ w ∈ u_ws RX5 TX5 21, w ∈ wsX5_hold := by decide +kernel
  have hD : ∀ W : va_W, W.map Prod.fst = [a0, a1, a2, a3, a4, a5, a6, a7, a8, a9, a10, a11] → va_D (wA (wX5 cI cS a0 a1 a2 a3 a4 a5 a6 a7 a8 a9 a10 a11 nw kp ad fd tp kn it wd sz nm mv ik td bg en so va iw im st ht)) W := fun W hW => hD0.own.re hW
  have hS : va_S (wA (wX5 cI cS a0 a1 a2 a3 a4 a5 a6 a7 a8 a9 a10 a11 nw kp ad fd tp kn it wd sz nm mv ik td bg en so va iw im st ht)) s.heap s.heap [] := va_S.rf
  have hP : va_P D vwCl (wX5 cI cS a0 a1 a2 a3 a4 a5 a6 a7 a8 a9 a10 a11 nw kp ad fd tp kn it wd sz nm mv ik td bg en so va iw im st ht) s.heap := hP
  rw [fX5_hold] at h
  refine lv_iload_n hx hb dX5_hold_0 rfl (lv_at hl 1 rfl) ?_
  refine kRi (rS C0 (tX5_isSpot l D cI cS v1 (fX5_isSpot v1) rfl) gX5_hold_X5_isSpot rfl ⟨rfl, rfl⟩ pdX5_isSpot rfl ⟨Nat.le_of_ble_eq_true rfl, Nat.le_of_ble_eq_true rfl⟩ (fun _ _ _ _ q => q) (fun _ _ _ _ => vp0) hl.1 rfl (Nat.le_of_ble_eq_true rfl) dX5_hold_1 ⟨Nat.zero_le _, Nat.zero_le _⟩) ?_
  refine lv_if_eq (tgt := 20) hx hb dX5_hold_4 (by decide) (fun c_1 => ?_) (fun c_1 => ?_)
  · have h := ifp c_1 h
    refine lv_aload_n hx hb dX5_hold_20 rfl (lv_at hl 0 rfl) ?_
    refine lv_ldc (v := (-1000001)) hx hb hown (hts _ (List.mem_of_getElem? (i := 1) rfl)) dX5_hold_21 ?_
    obtain ⟨z_2, e_3, h⟩ := bds h
    have hPc := hP.sub (ws' := (wX5 cI cS a0 a1 a2 a3 a4 a5 a6 a7 a8 a9 a10 a11 nw kp ad fd tp kn it wd sz nm mv ik td bg en so va iw im st ht)) [0, 1, 2, 3, 4, 5, 6, 7, 8, 9, 10, 11] rfl
    refine kMi (wf' := (wX5 cI cS a0 a1 a2 a3 a4 a5 a6 a7 a8 a9 a10 a11 nw kp ad z_2.2 tp kn it wd sz nm mv ik td bg en so va iw im st ht)) [0, 1, 2, 3, 4, 5, 6, 7, 8, 9, 10, 11] [some 0, some 1, some 2, some 3, some 4, some 5, some 6, some 7, some 8, some 9, some 10, some 11] (rV C0 (tX5_finding l D cI cS a0 a1 a2 a3 a4 a5 a6 a7 a8 a9 a10 a11 nw kp ad fd tp kn it wd sz nm mv ik td bg en so va iw im st ht (-1000001) z_2.1 z_2.2 e_3 (((hD (wX5 cI cS a0 a1 a2 a3 a4 a5 a6 a7 a8 a9 a10 a11 nw kp ad fd tp kn it wd sz nm mv ik td bg en so va iw im st ht) rfl).sub [0, 1, 2, 3, 4, 5, 6, 7, 8, 9, 10, 11] (by decide) rfl).weaken (fun _ _ _ _ => trivial))) RX5 gX5_hold_X5_finding rfl ⟨rfl, rfl⟩ pdX5_finding rfl ⟨Nat.le_of_ble_eq_true rfl, Nat.le_of_ble_eq_true rfl⟩ (fun _ _ _ _ q => q) (va_recv hE.1 hPc (ci := 4) (q0 := 0) rfl rfl) (fun U hU _ _ => by rw [hU]; exact hPc) hl.1 rfl (Nat.le_of_ble_eq_true rfl) dX5_hold_23 ⟨Nat.zero_le _, Nat.zero_le _⟩) hP (hD _ rfl) hS rfl rfl rfl (fun H locs hP hS => ?_)
    obtain ⟨q0, g0⟩ := Prod.mk.inj (Option.some.inj h)
    obtain ⟨q1, q2⟩ := Prod.mk.inj g0
    subst q0 q1 q2
    exact eMi C0 hP hS rfl rfl dX5_hold_26
  · have h := ifn c_1 h
    refine lv_iload_n hx hb dX5_hold_7 rfl (lv_at hl 2 rfl) ?_
    refine lv_iconst (v := (-1)) hx hb dX5_hold_8 (by decide) ?_
    refine lv_icmp_eq (tgt := 27) hx hb dX5_hold_9 (by decide) (fun c_4 => ?_) (fun c_4 => ?_)
    · have h := ifp c_4 h
      refine lv_aload_n hx hb dX5_hold_27 rfl (lv_at hl 0 rfl) ?_
      refine va_get (D := D) (ci := 4) (v := .ref a1) (C := RX5) (T := TX5) (N := 21) hx hb hts hinX5 hown hE.1 hP 0 rfl rfl 0 (by decide) (hts _ (List.mem_of_getElem? (i := 2) rfl)) (fun _ h9 => h9) rfl dX5_hold_28 ?_
      refine lv_bipush (v := 10) hx hb dX5_hold_31 (by decide) ?_
      refine lv_iload_n hx hb dX5_hold_33 rfl (lv_at hl 1 rfl) ?_
      refine lv_iadd hx hb dX5_hold_34 ?_
      refine lv_iload_n hx hb dX5_hold_35 rfl (lv_at hl 2 rfl) ?_
      obtain ⟨hi_5, h⟩ := ifs h
      refine va_iast hx hb hE.1 hP (hD _ rfl) hS 1 0 rfl rfl hi_5 dX5_hold_36 (fun H locs hP _ hS => ?_)
      have hP : va_P D vwCl (wX5 cI cS a0 a1 a2 a3 a4 a5 a6 a7 a8 a9 a10 a11 (upd nw (10 + v1).toNatClampNeg v2) kp ad fd tp kn it wd sz nm mv ik td bg en so va iw im st ht) H := hP
      refine lv_iconst (v := 1) hx hb dX5_hold_37 (by decide) ?_
      obtain ⟨q0, g0⟩ := Prod.mk.inj (Option.some.inj h)
      obtain ⟨q1, q2⟩ := Prod.mk.inj g0
      subst q0 q1 q2
      exact eMi C0 hP hS rfl rfl dX5_hold_38
    · have h := ifn c_4 h
      refine lv_aload_n hx hb dX5_hold_12 rfl (lv_at hl 0 rfl) ?_
      refine lv_iload_n hx hb dX5_hold_13 rfl (lv_at hl 2 rfl) ?_
      have hPc := hP.sub (ws' := (wX5 cI cS a0 a1 a2 a3 a4 a5 a6 a7 a8 a9 a10 a11 nw kp ad fd tp kn it wd sz nm mv ik td bg en so va iw im st ht)) [0, 1, 2, 3, 4, 5, 6, 7, 8, 9, 10, 11] rfl
      refine kRi (rV C0 (tX5_isSaying l D cI cS a0 a1 a2 a3 a4 a5 a6 a7 a8 a9 a10 a11 nw kp ad fd tp kn it wd sz nm mv ik td bg en so va iw im st ht v2 (fX5_isSaying nw v2) rfl) RX5 gX5_hold_X5_isSaying rfl ⟨rfl, rfl⟩ pdX5_isSaying rfl ⟨Nat.le_of_ble_eq_true rfl, Nat.le_of_ble_eq_true rfl⟩ (fun _ _ _ _ q => q) (va_recv hE.1 hPc (ci := 4) (q0 := 0) rfl rfl) (fun U hU _ _ => by rw [hU]; exact hPc) hl.1 rfl (Nat.le_of_ble_eq_true rfl) dX5_hold_14 ⟨Nat.zero_le _, Nat.zero_le _⟩) ?_
      refine lv_if_ne (tgt := 27) hx hb dX5_hold_17 (by decide) (fun c_6 => ?_) (fun c_6 => ?_)
      · have h := ifn c_6 h
        refine lv_aload_n hx hb dX5_hold_27 rfl (lv_at hl 0 rfl) ?_
        refine va_get (D := D) (ci := 4) (v := .ref a1) (C := RX5) (T := TX5) (N := 21) hx hb hts hinX5 hown hE.1 hP 0 rfl rfl 0 (by decide) (hts _ (List.mem_of_getElem? (i := 2) rfl)) (fun _ h9 => h9) rfl dX5_hold_28 ?_
        refine lv_bipush (v := 10) hx hb dX5_hold_31 (by decide) ?_
        refine lv_iload_n hx hb dX5_hold_33 rfl (lv_at hl 1 rfl) ?_
        refine lv_iadd hx hb dX5_hold_34 ?_
        refine lv_iload_n hx hb dX5_hold_35 rfl (lv_at hl 2 rfl) ?_
        obtain ⟨hi_7, h⟩ := ifs h
        refine va_iast hx hb hE.1 hP (hD _ rfl) hS 1 0 rfl rfl hi_7 dX5_hold_36 (fun H locs hP _ hS => ?_)
        have hP : va_P D vwCl (wX5 cI cS a0 a1 a2 a3 a4 a5 a6 a7 a8 a9 a10 a11 (upd nw (10 + v1).toNatClampNeg v2) kp ad fd tp kn it wd sz nm mv ik td bg en so va iw im st ht) H := hP
        refine lv_iconst (v := 1) hx hb dX5_hold_37 (by decide) ?_
        obtain ⟨q0, g0⟩ := Prod.mk.inj (Option.some.inj h)
        obtain ⟨q1, q2⟩ := Prod.mk.inj g0
        subst q0 q1 q2
        exact eMi C0 hP hS rfl rfl dX5_hold_38
      · have h := ifp c_6 h
        refine lv_aload_n hx hb dX5_hold_20 rfl (lv_at hl 0 rfl) ?_
        refine lv_ldc (v := (-1000001)) hx hb hown (hts _ (List.mem_of_getElem? (i := 1) rfl)) dX5_hold_21 ?_
        obtain ⟨z_8, e_9, h⟩ := bds h
        have hPc := hP.sub (ws' := (wX5 cI cS a0 a1 a2 a3 a4 a5 a6 a7 a8 a9 a10 a11 nw kp ad fd tp kn it wd sz nm mv ik td bg en so va iw im st ht)) [0, 1, 2, 3, 4, 5, 6, 7, 8, 9, 10, 11] rfl
        refine kMi (wf' := (wX5 cI cS a0 a1 a2 a3 a4 a5 a6 a7 a8 a9 a10 a11 nw kp ad z_8.2 tp kn it wd sz nm mv ik td bg en so va iw im st ht)) [0, 1, 2, 3, 4, 5, 6, 7, 8, 9, 10, 11] [some 0, some 1, some 2, some 3, some 4, some 5, some 6, some 7, some 8, some 9, some 10, some 11] (rV C0 (tX5_finding l D cI cS a0 a1 a2 a3 a4 a5 a6 a7 a8 a9 a10 a11 nw kp ad fd tp kn it wd sz nm mv ik td bg en so va iw im st ht (-1000001) z_8.1 z_8.2 e_9 (((hD (wX5 cI cS a0 a1 a2 a3 a4 a5 a6 a7 a8 a9 a10 a11 nw kp ad fd tp kn it wd sz nm mv ik td bg en so va iw im st ht) rfl).sub [0, 1, 2, 3, 4, 5, 6, 7, 8, 9, 10, 11] (by decide) rfl).weaken (fun _ _ _ _ => trivial))) RX5 gX5_hold_X5_finding rfl ⟨rfl, rfl⟩ pdX5_finding rfl ⟨Nat.le_of_ble_eq_true rfl, Nat.le_of_ble_eq_true rfl⟩ (fun _ _ _ _ q => q) (va_recv hE.1 hPc (ci := 4) (q0 := 0) rfl rfl) (fun U hU _ _ => by rw [hU]; exact hPc) hl.1 rfl (Nat.le_of_ble_eq_true rfl) dX5_hold_23 ⟨Nat.zero_le _, Nat.zero_le _⟩) hP (hD _ rfl) hS rfl rfl rfl (fun H locs hP hS => ?_)
        obtain ⟨q0, g0⟩ := Prod.mk.inj (Option.some.inj h)
        obtain ⟨q1, q2⟩ := Prod.mk.inj g0
        subst q0 q1 q2
        exact eMi C0 hP hS rfl rfl dX5_hold_26
def fX5_above (v0 : Int32) : Int32 := (if v0 = 0 then (-1) else (if v0 = 3 then 1 else (if v0 = 4 then 3 else (if v0 = 6 then 2 else 0))))
abbrev rmX5_above : Room := { frames := 0, cells := 0, slots := 0, locals := 0 }
theorem pdX5_above : (yX5_above.cls ≠ "java/lang/invoke/MethodHandle" ∧ yX5_above.cls ≠ "java/lang/invoke/VarHandle" ∧ (parseMethodDescriptor yX5_above.desc).map (fun d => d.parameters.length) = some 1) := by decide +kernel
set_option maxHeartbeats 4000000 in
set_option maxRecDepth 100000 in
theorem tX5_above (l : Launch) (D : va_G) (cI cS : ClassId) (v0 : Int32) (z0 : Int32) (h : fX5_above v0 = z0) : Met l yX5_above wsX5_above rmX5_above (PZ D cI cS [.int v0] (fun U => va_P D vwCl ([] : va_W) U.heap)) (vp_Si (fun x => x = z0)) 0 0 (fun _ => False) := by
  refine Met.mk RX5 (by decide) rfl rfl (Nat.le_of_ble_eq_true rfl) ?_
  intro p e s m below meth c ls C0 hP hl
  have hl : lv_has ls 1 [(0, .int v0)] := hl
  obtain ⟨hx, hb, hr, hml, hown, hts, hlk, hE⟩ := id C0
  rw [fX5_above] at h
  refine lv_iload_n hx hb dX5_above_0 rfl (lv_at hl 0 rfl) ?_
  refine lv_if_ne (tgt := 8) hx hb dX5_above_1 (by decide) (fun c_1 => ?_) (fun c_1 => ?_)
  · have h := ifn c_1 h
    refine lv_iload_n hx hb dX5_above_8 rfl (lv_at hl 0 rfl) ?_
    refine lv_iconst (v := 3) hx hb dX5_above_9 (by decide) ?_
    refine lv_icmp_ne (tgt := 17) hx hb dX5_above_10 (by decide) (fun c_2 => ?_) (fun c_2 => ?_)
    · have h := ifn c_2 h
      refine lv_iload_n hx hb dX5_above_17 rfl (lv_at hl 0 rfl) ?_
      refine lv_iconst (v := 4) hx hb dX5_above_18 (by decide) ?_
      refine lv_icmp_ne (tgt := 26) hx hb dX5_above_19 (by decide) (fun c_3 => ?_) (fun c_3 => ?_)
      · have h := ifn c_3 h
        refine lv_iload_n hx hb dX5_above_26 rfl (lv_at hl 0 rfl) ?_
        refine lv_bipush (v := 6) hx hb dX5_above_27 (by decide) ?_
        refine lv_icmp_ne (tgt := 36) hx hb dX5_above_29 (by decide) (fun c_4 => ?_) (fun c_4 => ?_)
        · have h := ifn c_4 h
          refine lv_iconst (v := 0) hx hb dX5_above_36 (by decide) ?_
          exact eRi C0 h dX5_above_37
        · have h := ifp c_4 h
          refine lv_iconst (v := 2) hx hb dX5_above_32 (by decide) ?_
          refine lv_goto (tgt := 37) hx hb dX5_above_33 (by decide) ?_
          exact eRi C0 h dX5_above_37
      · have h := ifp c_3 h
        refine lv_iconst (v := 3) hx hb dX5_above_22 (by decide) ?_
        refine lv_goto (tgt := 37) hx hb dX5_above_23 (by decide) ?_
        exact eRi C0 h dX5_above_37
    · have h := ifp c_2 h
      refine lv_iconst (v := 1) hx hb dX5_above_13 (by decide) ?_
      refine lv_goto (tgt := 37) hx hb dX5_above_14 (by decide) ?_
      exact eRi C0 h dX5_above_37
  · have h := ifp c_1 h
    refine lv_iconst (v := (-1)) hx hb dX5_above_4 (by decide) ?_
    refine lv_goto (tgt := 37) hx hb dX5_above_5 (by decide) ?_
    exact eRi C0 h dX5_above_37
def fX5_isUnder_2 (v1 : Int32) : Nat → Int32 → Option (Int32)
  | 0, _ => none
  | n + 1, v2 => (if v2 < 0 then (if v2 < 0 then some 0 else some 1) else (if v2 = v1 then (if v2 < 0 then some 0 else some 1) else fX5_isUnder_2 v1 n (fX5_above v2)))
def fX5_isUnder (F : Nat) (v0 : Int32) (v1 : Int32) : Option (Int32) := fX5_isUnder_2 v1 F v0
abbrev rmX5_isUnder : Room := { frames := 1, cells := 0, slots := 0, locals := 20 }
theorem pdX5_isUnder : (yX5_isUnder.cls ≠ "java/lang/invoke/MethodHandle" ∧ yX5_isUnder.cls ≠ "java/lang/invoke/VarHandle" ∧ (parseMethodDescriptor yX5_isUnder.desc).map (fun d => d.parameters.length) = some 2) := by decide +kernel
set_option maxHeartbeats 4000000 in
set_option maxRecDepth 100000 in
theorem lX5_isUnder_2 {p : Program} {l : Launch} {e : Env} {s : State} {m : MethodId} {av : Array Value} {below : List Frame} {meth : Method} {c : Code} {D : va_G} {cI cS : ClassId} (C0 : CX p s m av meth c RX5 cX5_isUnder 3 (some .boolean) wsX5_isUnder D cI cS) (F : Nat) (v1 : Int32) (z0 : Int32) (hP : va_P D vwCl ([] : va_W) s.heap) : ∀ (n : Nat) (v2 : Int32), ∀ (ls : Array Slot), lv_has ls 3 [(1, .int v1), (2, .int v2)] → fX5_isUnder_2 v1 n v2 = some z0 → W p l e rmX5_isUnder s m av below meth c s.heap [] 0 0 (MQ below (vp_Si (fun x => x = z0)) av s 0 0 (fun _ => False)) (F0 m 2 ls []) := by
  obtain ⟨hx, hb, hr, hml, hown, hts, hlk, hE⟩ := id C0
  intro n
  induction n with
  | zero =>
    intro v2 ls hl h
    cases (show none = some z0 from h)
  | succ n ih =>
    intro v2 ls hl h
    rw [fX5_isUnder_2] at h
    refine lv_iload_n hx hb dX5_isUnder_2 rfl (lv_at hl 1 rfl) ?_
    refine lv_if_lt (tgt := 19) hx hb dX5_isUnder_3 (by decide) (fun c_1 => ?_) (fun c_1 => ?_)
    · have h := ifp c_1 h
      refine lv_iload_n hx hb dX5_isUnder_19 rfl (lv_at hl 1 rfl) ?_
      refine lv_if_lt (tgt := 27) hx hb dX5_isUnder_20 (by decide) (fun c_2 => ?_) (fun c_2 => ?_)
      · have h := ifp c_2 h
        refine lv_iconst (v := 0) hx hb dX5_isUnder_27 (by decide) ?_
        exact eRz C0 rfl (Option.some.inj h) dX5_isUnder_28
      · have h := ifn c_2 h
        refine lv_iconst (v := 1) hx hb dX5_isUnder_23 (by decide) ?_
        refine lv_goto (tgt := 28) hx hb dX5_isUnder_24 (by decide) ?_
        exact eRz C0 rfl (Option.some.inj h) dX5_isUnder_28
    · have h := ifn c_1 h
      refine lv_iload_n hx hb dX5_isUnder_6 rfl (lv_at hl 1 rfl) ?_
      refine lv_iload_n hx hb dX5_isUnder_7 rfl (lv_at hl 0 rfl) ?_
      refine lv_icmp_eq (tgt := 19) hx hb dX5_isUnder_8 (by decide) (fun c_3 => ?_) (fun c_3 => ?_)
      · have h := ifp c_3 h
        refine lv_iload_n hx hb dX5_isUnder_19 rfl (lv_at hl 1 rfl) ?_
        refine lv_if_lt (tgt := 27) hx hb dX5_isUnder_20 (by decide) (fun c_4 => ?_) (fun c_4 => ?_)
        · have h := ifp c_4 h
          refine lv_iconst (v := 0) hx hb dX5_isUnder_27 (by decide) ?_
          exact eRz C0 rfl (Option.some.inj h) dX5_isUnder_28
        · have h := ifn c_4 h
          refine lv_iconst (v := 1) hx hb dX5_isUnder_23 (by decide) ?_
          refine lv_goto (tgt := 28) hx hb dX5_isUnder_24 (by decide) ?_
          exact eRz C0 rfl (Option.some.inj h) dX5_isUnder_28
      · have h := ifn c_3 h
        refine lv_iload_n hx hb dX5_isUnder_11 rfl (lv_at hl 1 rfl) ?_
        refine kRi (rS C0 (tX5_above l D cI cS v2 (fX5_above v2) rfl) gX5_isUnder_X5_above rfl ⟨rfl, rfl⟩ pdX5_above rfl ⟨Nat.le_of_ble_eq_true rfl, Nat.le_of_ble_eq_true rfl⟩ (fun _ _ _ _ q => q) (fun _ _ _ _ => vp0) hl.1 rfl (Nat.le_of_ble_eq_true rfl) dX5_isUnder_12 ⟨Nat.zero_le _, Nat.zero_le _⟩) ?_
        refine lv_istore_n (lv' := [(2, .int (fX5_above v2)), (1, .int v1)]) hx hb dX5_isUnder_15 rfl hl (by decide) rfl (fun ls hl => ?_)
        refine lv_goto (tgt := 2) hx hb dX5_isUnder_16 (by decide) ?_
        exact ih (fX5_above v2) _ (lv_sub hl [1, 0] rfl) h
set_option maxHeartbeats 4000000 in
set_option maxRecDepth 100000 in
theorem tX5_isUnder (l : Launch) (D : va_G) (cI cS : ClassId) (F : Nat) (v0 : Int32) (v1 : Int32) (z0 : Int32) (h : fX5_isUnder F v0 v1 = some z0) : Met l yX5_isUnder wsX5_isUnder rmX5_isUnder (PZ D cI cS [.int v0, .int v1] (fun U => va_P D vwCl ([] : va_W) U.heap)) (vp_Si (fun x => x = z0)) 0 0 (fun _ => False) := by
  refine Met.mk RX5 (by decide) rfl rfl (Nat.le_of_ble_eq_true rfl) ?_
  intro p e s m below meth c ls C0 hP hl
  have hl : lv_has ls 3 [(0, .int v0), (1, .int v1)] := hl
  obtain ⟨hx, hb, hr, hml, hown, hts, hlk, hE⟩ := id C0
  rw [fX5_isUnder] at h
  refine lv_iload_n hx hb dX5_isUnder_0 rfl (lv_at hl 0 rfl) ?_
  refine lv_istore_n (lv' := [(2, .int v0), (0, .int v0), (1, .int v1)]) hx hb dX5_isUnder_1 rfl hl (by decide) rfl (fun ls hl => ?_)
  exact lX5_isUnder_2 (l := l) (e := e) (below := below) C0 F v1 z0 hP F v0 _ (lv_sub hl [2, 0] rfl) h
def fX5_as (F : Nat) (nw : Nat → Int32) (fd : Nat → Int32) (v1 : Int32) (v2 : Int32) : Option (Int32 × (Nat → Int32)) := (if (fX5_isSpot v1) = 0 then Option.bind (fX5_finding fd (-1000001)) (fun z_2 => some (z_2.1, z_2.2)) else (if (fX5_isKind v2) = 0 then Option.bind (fX5_finding fd (-1000001)) (fun z_16 => some (z_16.1, z_16.2)) else if ¬ ((10 + v1) < 0 ∨ 84 ≤ (10 + v1).toNatClampNeg) then (if 0 ≤ (nw (10 + v1).toNatClampNeg) then Option.bind (fX5_sayingIs nw (nw (10 + v1).toNatClampNeg) 0) (fun z_7 => Option.bind (fX5_isUnder F z_7 v2) (fun z_9 => (if z_9 = 0 then Option.bind (fX5_finding fd (-1000003)) (fun z_12 => some (z_12.1, z_12.2)) else some (nw (10 + v1).toNatClampNeg, fd)))) else Option.bind (fX5_finding fd (-1000006)) (fun z_14 => some (z_14.1, z_14.2))) else none))
abbrev rmX5_as : Room := { frames := 2, cells := 0, slots := 0, locals := 43 }
theorem pdX5_as : (yX5_as.cls = RX5 ∧ yX5_as.cls ≠ "java/lang/invoke/MethodHandle" ∧ yX5_as.cls ≠ "java/lang/invoke/VarHandle" ∧ (parseMethodDescriptor yX5_as.desc).map (fun d => d.parameters.length) = some 2) := by decide +kernel
set_option maxHeartbeats 4000000 in
set_option maxRecDepth 100000 in
theorem tX5_as (l : Launch) (D : va_G) (cI cS : ClassId) (F : Nat) (a0 a1 a2 a3 a4 a5 a6 a7 a8 a9 a10 a11 : Nat) (nw : Nat → Int32) (kp : Nat → Int32) (ad : Nat → Int32) (fd : Nat → Int32) (tp : Nat → Int32) (kn : Nat → Option Nat) (it : Nat → Int32) (wd : Nat → Int32) (sz : Nat → Int32) (nm : Nat → Int32) (mv : Nat → Int32) (ik : Int32) (td : Int32) (bg : Int32) (en : Int32) (so : Int32) (va : Int32) (iw : Int32) (im : Int32) (st : Int32) (ht : Int32) (v1 : Int32) (v2 : Int32) (z0 : Int32) (z1 : Nat → Int32) (h : fX5_as F nw fd v1 v2 = some (z0, z1)) (hD0 : va_D (fun _ => True) (wX5 cI cS a0 a1 a2 a3 a4 a5 a6 a7 a8 a9 a10 a11 nw kp ad fd tp kn it wd sz nm mv ik td bg en so va iw im st ht)) : Met l yX5_as wsX5_as rmX5_as (PZ D cI cS [.ref a0, .int v1, .int v2] (fun U => va_P D vwCl (wX5 cI cS a0 a1 a2 a3 a4 a5 a6 a7 a8 a9 a10 a11 nw kp ad fd tp kn it wd sz nm mv ik td bg en so va iw im st ht) U.heap)) (qI D (wX5 cI cS a0 a1 a2 a3 a4 a5 a6 a7 a8 a9 a10 a11 nw kp ad fd tp kn it wd sz nm mv ik td bg en so va iw im st ht) (wX5 cI cS a0 a1 a2 a3 a4 a5 a6 a7 a8 a9 a10 a11 nw kp ad z1 tp kn it wd sz nm mv ik td bg en so va iw im st ht) z0) 0 0 (wA (wX5 cI cS a0 a1 a2 a3 a4 a5 a6 a7 a8 a9 a10 a11 nw kp ad fd tp kn it wd sz nm mv ik td bg en so va iw im st ht)) := by
  refine Met.mk RX5 (by decide) rfl rfl (Nat.le_of_ble_eq_true rfl) ?_
  intro p e s m below meth c ls C0 hP hl
  have hl : lv_has ls 4 [(0, .ref a0), (1, .int v1), (2, .int v2)] := hl
  obtain ⟨hx, hb, hr, hml, hown, hts, hlk, hE⟩ := id C0
  have hinX5 : ∀ w ∈ u_ws RX5 TX5 21, w ∈ wsX5_as := by decide +kernel
  have hD : ∀ W : va_W, W.map Prod.fst = [a0, a1, a2, a3, a4, a5, a6, a7, a8, a9, a10, a11] → va_D (wA (wX5 cI cS a0 a1 a2 a3 a4 a5 a6 a7 a8 a9 a10 a11 nw kp ad fd tp kn it wd sz nm mv ik td bg en so va iw im st ht)) W := fun W hW => hD0.own.re hW
  have hS : va_S (wA (wX5 cI cS a0 a1 a2 a3 a4 a5 a6 a7 a8 a9 a10 a11 nw kp ad fd tp kn it wd sz nm mv ik td bg en so va iw im st ht)) s.heap s.heap [] := va_S.rf
  have hP : va_P D vwCl (wX5 cI cS a0 a1 a2 a3 a4 a5 a6 a7 a8 a9 a10 a11 nw kp ad fd tp kn it wd sz nm mv ik td bg en so va iw im st ht) s.heap := hP
  rw [fX5_as] at h
  refine lv_iload_n hx hb dX5_as_0 rfl (lv_at hl 1 rfl) ?_
  refine kRi (rS C0 (tX5_isSpot l D cI cS v1 (fX5_isSpot v1) rfl) gX5_as_X5_isSpot rfl ⟨rfl, rfl⟩ pdX5_isSpot rfl ⟨Nat.le_of_ble_eq_true rfl, Nat.le_of_ble_eq_true rfl⟩ (fun _ _ _ _ q => q) (fun _ _ _ _ => vp0) hl.1 rfl (Nat.le_of_ble_eq_true rfl) dX5_as_1 ⟨Nat.zero_le _, Nat.zero_le _⟩) ?_
  refine lv_if_eq (tgt := 14) hx hb dX5_as_4 (by decide) (fun c_1 => ?_) (fun c_1 => ?_)
  · have h := ifp c_1 h
    refine lv_aload_n hx hb dX5_as_14 rfl (lv_at hl 0 rfl) ?_
    refine lv_ldc (v := (-1000001)) hx hb hown (hts _ (List.mem_of_getElem? (i := 1) rfl)) dX5_as_15 ?_
    obtain ⟨z_2, e_3, h⟩ := bds h
    have hPc := hP.sub (ws' := (wX5 cI cS a0 a1 a2 a3 a4 a5 a6 a7 a8 a9 a10 a11 nw kp ad fd tp kn it wd sz nm mv ik td bg en so va iw im st ht)) [0, 1, 2, 3, 4, 5, 6, 7, 8, 9, 10, 11] rfl
    refine kMi (wf' := (wX5 cI cS a0 a1 a2 a3 a4 a5 a6 a7 a8 a9 a10 a11 nw kp ad z_2.2 tp kn it wd sz nm mv ik td bg en so va iw im st ht)) [0, 1, 2, 3, 4, 5, 6, 7, 8, 9, 10, 11] [some 0, some 1, some 2, some 3, some 4, some 5, some 6, some 7, some 8, some 9, some 10, some 11] (rV C0 (tX5_finding l D cI cS a0 a1 a2 a3 a4 a5 a6 a7 a8 a9 a10 a11 nw kp ad fd tp kn it wd sz nm mv ik td bg en so va iw im st ht (-1000001) z_2.1 z_2.2 e_3 (((hD (wX5 cI cS a0 a1 a2 a3 a4 a5 a6 a7 a8 a9 a10 a11 nw kp ad fd tp kn it wd sz nm mv ik td bg en so va iw im st ht) rfl).sub [0, 1, 2, 3, 4, 5, 6, 7, 8, 9, 10, 11] (by decide) rfl).weaken (fun _ _ _ _ => trivial))) RX5 gX5_as_X5_finding rfl ⟨rfl, rfl⟩ pdX5_finding rfl ⟨Nat.le_of_ble_eq_true rfl, Nat.le_of_ble_eq_true rfl⟩ (fun _ _ _ _ q => q) (va_recv hE.1 hPc (ci := 4) (q0 := 0) rfl rfl) (fun U hU _ _ => by rw [hU]; exact hPc) hl.1 rfl (Nat.le_of_ble_eq_true rfl) dX5_as_17 ⟨Nat.zero_le _, Nat.zero_le _⟩) hP (hD _ rfl) hS rfl rfl rfl (fun H locs hP hS => ?_)
    obtain ⟨q0, q1⟩ := Prod.mk.inj (Option.some.inj h)
    subst q0 q1
    exact eMi C0 hP hS rfl rfl dX5_as_20
  · have h := ifn c_1 h
    refine lv_iload_n hx hb dX5_as_7 rfl (lv_at hl 2 rfl) ?_
    refine kRi (rS C0 (tX5_isKind l D cI cS v2 (fX5_isKind v2) rfl) gX5_as_X5_isKind rfl ⟨rfl, rfl⟩ pdX5_isKind rfl ⟨Nat.le_of_ble_eq_true rfl, Nat.le_of_ble_eq_true rfl⟩ (fun _ _ _ _ q => q) (fun _ _ _ _ => vp0) hl.1 rfl (Nat.le_of_ble_eq_true rfl) dX5_as_8 ⟨Nat.zero_le _, Nat.zero_le _⟩) ?_
    refine lv_if_ne (tgt := 21) hx hb dX5_as_11 (by decide) (fun c_4 => ?_) (fun c_4 => ?_)
    · have h := ifn c_4 h
      refine lv_aload_n hx hb dX5_as_21 rfl (lv_at hl 0 rfl) ?_
      refine va_get (D := D) (ci := 4) (v := .ref a1) (C := RX5) (T := TX5) (N := 21) hx hb hts hinX5 hown hE.1 hP 0 rfl rfl 0 (by decide) (hts _ (List.mem_of_getElem? (i := 2) rfl)) (fun _ h9 => h9) rfl dX5_as_22 ?_
      refine lv_bipush (v := 10) hx hb dX5_as_25 (by decide) ?_
      refine lv_iload_n hx hb dX5_as_27 rfl (lv_at hl 1 rfl) ?_
      refine lv_iadd hx hb dX5_as_28 ?_
      obtain ⟨hi_5, h⟩ := ifs h
      refine va_iald hx hb hE.1 hP 1 0 rfl rfl hi_5 dX5_as_29 ?_
      refine lv_istore_n (lv' := [(3, .int (nw (10 + v1).toNatClampNeg)), (0, .ref a0), (1, .int v1), (2, .int v2)]) hx hb dX5_as_30 rfl hl (by decide) rfl (fun ls hl => ?_)
      refine lv_iload_n hx hb dX5_as_31 rfl (lv_at hl 0 rfl) ?_
      refine lv_if_ge (tgt := 42) hx hb dX5_as_32 (by decide) (fun c_6 => ?_) (fun c_6 => ?_)
      · have h := ifp c_6 h
        refine lv_aload_n hx hb dX5_as_42 rfl (lv_at hl 1 rfl) ?_
        refine lv_iload_n hx hb dX5_as_43 rfl (lv_at hl 0 rfl) ?_
        refine lv_iconst (v := 0) hx hb dX5_as_44 (by decide) ?_
        obtain ⟨z_7, e_8, h⟩ := bds h
        have hPc := hP.sub (ws' := (wX5 cI cS a0 a1 a2 a3 a4 a5 a6 a7 a8 a9 a10 a11 nw kp ad fd tp kn it wd sz nm mv ik td bg en so va iw im st ht)) [0, 1, 2, 3, 4, 5, 6, 7, 8, 9, 10, 11] rfl
        refine kRi (rV C0 (tX5_sayingIs l D cI cS a0 a1 a2 a3 a4 a5 a6 a7 a8 a9 a10 a11 nw kp ad fd tp kn it wd sz nm mv ik td bg en so va iw im st ht (nw (10 + v1).toNatClampNeg) 0 z_7 e_8) RX5 gX5_as_X5_sayingIs rfl ⟨rfl, rfl⟩ pdX5_sayingIs rfl ⟨Nat.le_of_ble_eq_true rfl, Nat.le_of_ble_eq_true rfl⟩ (fun _ _ _ _ q => q) (va_recv hE.1 hPc (ci := 4) (q0 := 0) rfl rfl) (fun U hU _ _ => by rw [hU]; exact hPc) hl.1 rfl (Nat.le_of_ble_eq_true rfl) dX5_as_45 ⟨Nat.zero_le _, Nat.zero_le _⟩) ?_
        refine lv_iload_n hx hb dX5_as_48 rfl (lv_at hl 3 rfl) ?_
        obtain ⟨z_9, e_10, h⟩ := bds h
        refine kRi (rS C0 (tX5_isUnder l D cI cS F z_7 v2 z_9 e_10) gX5_as_X5_isUnder rfl ⟨rfl, rfl⟩ pdX5_isUnder rfl ⟨Nat.le_of_ble_eq_true rfl, Nat.le_of_ble_eq_true rfl⟩ (fun _ _ _ _ q => q) (fun _ _ _ _ => vp0) hl.1 rfl (Nat.le_of_ble_eq_true rfl) dX5_as_49 ⟨Nat.zero_le _, Nat.zero_le _⟩) ?_
        refine lv_if_eq (tgt := 59) hx hb dX5_as_52 (by decide) (fun c_11 => ?_) (fun c_11 => ?_)
        · have h := ifp c_11 h
          refine lv_aload_n hx hb dX5_as_59 rfl (lv_at hl 1 rfl) ?_
          refine lv_ldcw (v := (-1000003)) hx hb hown (hts _ (List.mem_of_getElem? (i := 4) rfl)) dX5_as_60 ?_
          obtain ⟨z_12, e_13, h⟩ := bds h
          have hPc := hP.sub (ws' := (wX5 cI cS a0 a1 a2 a3 a4 a5 a6 a7 a8 a9 a10 a11 nw kp ad fd tp kn it wd sz nm mv ik td bg en so va iw im st ht)) [0, 1, 2, 3, 4, 5, 6, 7, 8, 9, 10, 11] rfl
          refine kMi (wf' := (wX5 cI cS a0 a1 a2 a3 a4 a5 a6 a7 a8 a9 a10 a11 nw kp ad z_12.2 tp kn it wd sz nm mv ik td bg en so va iw im st ht)) [0, 1, 2, 3, 4, 5, 6, 7, 8, 9, 10, 11] [some 0, some 1, some 2, some 3, some 4, some 5, some 6, some 7, some 8, some 9, some 10, some 11] (rV C0 (tX5_finding l D cI cS a0 a1 a2 a3 a4 a5 a6 a7 a8 a9 a10 a11 nw kp ad fd tp kn it wd sz nm mv ik td bg en so va iw im st ht (-1000003) z_12.1 z_12.2 e_13 (((hD (wX5 cI cS a0 a1 a2 a3 a4 a5 a6 a7 a8 a9 a10 a11 nw kp ad fd tp kn it wd sz nm mv ik td bg en so va iw im st ht) rfl).sub [0, 1, 2, 3, 4, 5, 6, 7, 8, 9, 10, 11] (by decide) rfl).weaken (fun _ _ _ _ => trivial))) RX5 gX5_as_X5_finding rfl ⟨rfl, rfl⟩ pdX5_finding rfl ⟨Nat.le_of_ble_eq_true rfl, Nat.le_of_ble_eq_true rfl⟩ (fun _ _ _ _ q => q) (va_recv hE.1 hPc (ci := 4) (q0 := 0) rfl rfl) (fun U hU _ _ => by rw [hU]; exact hPc) hl.1 rfl (Nat.le_of_ble_eq_true rfl) dX5_as_63 ⟨Nat.zero_le _, Nat.zero_le _⟩) hP (hD _ rfl) hS rfl rfl rfl (fun H locs hP hS => ?_)
          obtain ⟨q0, q1⟩ := Prod.mk.inj (Option.some.inj h)
          subst q0 q1
          exact eMi C0 hP hS rfl rfl dX5_as_66
        · have h := ifn c_11 h
          refine lv_iload_n hx hb dX5_as_55 rfl (lv_at hl 0 rfl) ?_
          refine lv_goto (tgt := 66) hx hb dX5_as_56 (by decide) ?_
          obtain ⟨q0, q1⟩ := Prod.mk.inj (Option.some.inj h)
          subst q0 q1
          exact eMi C0 hP hS rfl rfl dX5_as_66
      · have h := ifn c_6 h
        refine lv_aload_n hx hb dX5_as_35 rfl (lv_at hl 1 rfl) ?_
        refine lv_ldc (v := (-1000006)) hx hb hown (hts _ (List.mem_of_getElem? (i := 3) rfl)) dX5_as_36 ?_
        obtain ⟨z_14, e_15, h⟩ := bds h
        have hPc := hP.sub (ws' := (wX5 cI cS a0 a1 a2 a3 a4 a5 a6 a7 a8 a9 a10 a11 nw kp ad fd tp kn it wd sz nm mv ik td bg en so va iw im st ht)) [0, 1, 2, 3, 4, 5, 6, 7, 8, 9, 10, 11] rfl
        refine kMi (wf' := (wX5 cI cS a0 a1 a2 a3 a4 a5 a6 a7 a8 a9 a10 a11 nw kp ad z_14.2 tp kn it wd sz nm mv ik td bg en so va iw im st ht)) [0, 1, 2, 3, 4, 5, 6, 7, 8, 9, 10, 11] [some 0, some 1, some 2, some 3, some 4, some 5, some 6, some 7, some 8, some 9, some 10, some 11] (rV C0 (tX5_finding l D cI cS a0 a1 a2 a3 a4 a5 a6 a7 a8 a9 a10 a11 nw kp ad fd tp kn it wd sz nm mv ik td bg en so va iw im st ht (-1000006) z_14.1 z_14.2 e_15 (((hD (wX5 cI cS a0 a1 a2 a3 a4 a5 a6 a7 a8 a9 a10 a11 nw kp ad fd tp kn it wd sz nm mv ik td bg en so va iw im st ht) rfl).sub [0, 1, 2, 3, 4, 5, 6, 7, 8, 9, 10, 11] (by decide) rfl).weaken (fun _ _ _ _ => trivial))) RX5 gX5_as_X5_finding rfl ⟨rfl, rfl⟩ pdX5_finding rfl ⟨Nat.le_of_ble_eq_true rfl, Nat.le_of_ble_eq_true rfl⟩ (fun _ _ _ _ q => q) (va_recv hE.1 hPc (ci := 4) (q0 := 0) rfl rfl) (fun U hU _ _ => by rw [hU]; exact hPc) hl.1 rfl (Nat.le_of_ble_eq_true rfl) dX5_as_38 ⟨Nat.zero_le _, Nat.zero_le _⟩) hP (hD _ rfl) hS rfl rfl rfl (fun H locs hP hS => ?_)
        obtain ⟨q0, q1⟩ := Prod.mk.inj (Option.some.inj h)
        subst q0 q1
        exact eMi C0 hP hS rfl rfl dX5_as_41
    · have h := ifp c_4 h
      refine lv_aload_n hx hb dX5_as_14 rfl (lv_at hl 0 rfl) ?_
      refine lv_ldc (v := (-1000001)) hx hb hown (hts _ (List.mem_of_getElem? (i := 1) rfl)) dX5_as_15 ?_
      obtain ⟨z_16, e_17, h⟩ := bds h
      have hPc := hP.sub (ws' := (wX5 cI cS a0 a1 a2 a3 a4 a5 a6 a7 a8 a9 a10 a11 nw kp ad fd tp kn it wd sz nm mv ik td bg en so va iw im st ht)) [0, 1, 2, 3, 4, 5, 6, 7, 8, 9, 10, 11] rfl
      refine kMi (wf' := (wX5 cI cS a0 a1 a2 a3 a4 a5 a6 a7 a8 a9 a10 a11 nw kp ad z_16.2 tp kn it wd sz nm mv ik td bg en so va iw im st ht)) [0, 1, 2, 3, 4, 5, 6, 7, 8, 9, 10, 11] [some 0, some 1, some 2, some 3, some 4, some 5, some 6, some 7, some 8, some 9, some 10, some 11] (rV C0 (tX5_finding l D cI cS a0 a1 a2 a3 a4 a5 a6 a7 a8 a9 a10 a11 nw kp ad fd tp kn it wd sz nm mv ik td bg en so va iw im st ht (-1000001) z_16.1 z_16.2 e_17 (((hD (wX5 cI cS a0 a1 a2 a3 a4 a5 a6 a7 a8 a9 a10 a11 nw kp ad fd tp kn it wd sz nm mv ik td bg en so va iw im st ht) rfl).sub [0, 1, 2, 3, 4, 5, 6, 7, 8, 9, 10, 11] (by decide) rfl).weaken (fun _ _ _ _ => trivial))) RX5 gX5_as_X5_finding rfl ⟨rfl, rfl⟩ pdX5_finding rfl ⟨Nat.le_of_ble_eq_true rfl, Nat.le_of_ble_eq_true rfl⟩ (fun _ _ _ _ q => q) (va_recv hE.1 hPc (ci := 4) (q0 := 0) rfl rfl) (fun U hU _ _ => by rw [hU]; exact hPc) hl.1 rfl (Nat.le_of_ble_eq_true rfl) dX5_as_17 ⟨Nat.zero_le _, Nat.zero_le _⟩) hP (hD _ rfl) hS rfl rfl rfl (fun H locs hP hS => ?_)
      obtain ⟨q0, q1⟩ := Prod.mk.inj (Option.some.inj h)
      subst q0 q1
      exact eMi C0 hP hS rfl rfl dX5_as_20
def fX5_cutTo (v0 : Int32) (v1 : Int32) : Int32 := (if v1 = 8 then v0.toInt8.toInt32 else (if v1 = 16 then v0.toInt16.toInt32 else v0))
abbrev rmX5_cutTo : Room := { frames := 0, cells := 0, slots := 0, locals := 0 }
theorem pdX5_cutTo : (yX5_cutTo.cls ≠ "java/lang/invoke/MethodHandle" ∧ yX5_cutTo.cls ≠ "java/lang/invoke/VarHandle" ∧ (parseMethodDescriptor yX5_cutTo.desc).map (fun d => d.parameters.length) = some 2) := by decide +kernel
set_option maxHeartbeats 4000000 in
set_option maxRecDepth 100000 in
theorem tX5_cutTo (l : Launch) (D : va_G) (cI cS : ClassId) (v0 : Int32) (v1 : Int32) (z0 : Int32) (h : fX5_cutTo v0 v1 = z0) : Met l yX5_cutTo wsX5_cutTo rmX5_cutTo (PZ D cI cS [.int v0, .int v1] (fun U => va_P D vwCl ([] : va_W) U.heap)) (vp_Si (fun x => x = z0)) 0 0 (fun _ => False) := by
  refine Met.mk RX5 (by decide) rfl rfl (Nat.le_of_ble_eq_true rfl) ?_
  intro p e s m below meth c ls C0 hP hl
  have hl : lv_has ls 2 [(0, .int v0), (1, .int v1)] := hl
  obtain ⟨hx, hb, hr, hml, hown, hts, hlk, hE⟩ := id C0
  rw [fX5_cutTo] at h
  refine lv_iload_n hx hb dX5_cutTo_0 rfl (lv_at hl 1 rfl) ?_
  refine lv_bipush (v := 8) hx hb dX5_cutTo_1 (by decide) ?_
  refine lv_icmp_ne (tgt := 11) hx hb dX5_cutTo_3 (by decide) (fun c_1 => ?_) (fun c_1 => ?_)
  · have h := ifn c_1 h
    refine lv_iload_n hx hb dX5_cutTo_11 rfl (lv_at hl 1 rfl) ?_
    refine lv_bipush (v := 16) hx hb dX5_cutTo_12 (by decide) ?_
    refine lv_icmp_ne (tgt := 22) hx hb dX5_cutTo_14 (by decide) (fun c_2 => ?_) (fun c_2 => ?_)
    · have h := ifn c_2 h
      refine lv_iload_n hx hb dX5_cutTo_22 rfl (lv_at hl 0 rfl) ?_
      exact eRi C0 h dX5_cutTo_23
    · have h := ifp c_2 h
      refine lv_iload_n hx hb dX5_cutTo_17 rfl (lv_at hl 0 rfl) ?_
      refine lv_i2s (v := v0.toInt16.toInt32) hx hb dX5_cutTo_18 rfl ?_
      refine lv_goto (tgt := 23) hx hb dX5_cutTo_19 (by decide) ?_
      exact eRi C0 h dX5_cutTo_23
  · have h := ifp c_1 h
    refine lv_iload_n hx hb dX5_cutTo_6 rfl (lv_at hl 0 rfl) ?_
    refine lv_i2b (v := v0.toInt8.toInt32) hx hb dX5_cutTo_7 rfl ?_
    refine lv_goto (tgt := 23) hx hb dX5_cutTo_8 (by decide) ?_
    exact eRi C0 h dX5_cutTo_23
def fX5_sheet_86 (fd : Nat → Int32) (wd : Nat → Int32) (sz : Nat → Int32) (v1 : Int32) : Nat → Int32 → (Nat → Int32) → Option (Int32 × (Nat → Int32) × (Nat → Int32) × (Nat → Int32) × (Nat → Int32))
  | 0, _, _ => none
  | n + 1, v4, nm => (if 40 ≤ v4 then if ¬ (v1 < 0 ∨ 4 ≤ v1.toNatClampNeg) then some (sz v1.toNatClampNeg, fd, wd, sz, nm) else none else if ¬ (((40 * v1) + v4) < 0 ∨ 160 ≤ ((40 * v1) + v4).toNatClampNeg) then fX5_sheet_86 fd wd sz v1 n (v4 + 1) (upd nm ((40 * v1) + v4).toNatClampNeg 0) else none)
def fX5_sheet (F : Nat) (fd : Nat → Int32) (wd : Nat → Int32) (sz : Nat → Int32) (nm : Nat → Int32) (v1 : Int32) (v2 : Int32) (v3 : Int32) : Option (Int32 × (Nat → Int32) × (Nat → Int32) × (Nat → Int32) × (Nat → Int32)) := (if (fX5_isSheet v1) = 0 then Option.bind (fX5_finding fd (-1000001)) (fun z_2 => some (z_2.1, z_2.2, wd, sz, nm)) else (if v2 = 0 then (if 0 ≤ v3 then (if v3 ≤ 40 then if ¬ (v1 < 0 ∨ 4 ≤ v1.toNatClampNeg) then (if v2 = 0 then if ¬ (v1 < 0 ∨ 4 ≤ v1.toNatClampNeg) then fX5_sheet_86 fd (upd wd v1.toNatClampNeg v2) (upd sz v1.toNatClampNeg 0) v1 F 0 nm else none else if ¬ (v1 < 0 ∨ 4 ≤ v1.toNatClampNeg) then fX5_sheet_86 fd (upd wd v1.toNatClampNeg v2) (upd sz v1.toNatClampNeg v3) v1 F 0 nm else none) else none else Option.bind (fX5_finding fd (-1000001)) (fun z_14 => some (z_14.1, z_14.2, wd, sz, nm))) else Option.bind (fX5_finding fd (-1000007)) (fun z_16 => some (z_16.1, z_16.2, wd, sz, nm))) else (if v2 = 8 then (if 0 ≤ v3 then (if v3 ≤ 40 then if ¬ (v1 < 0 ∨ 4 ≤ v1.toNatClampNeg) then (if v2 = 0 then if ¬ (v1 < 0 ∨ 4 ≤ v1.toNatClampNeg) then fX5_sheet_86 fd (upd wd v1.toNatClampNeg v2) (upd sz v1.toNatClampNeg 0) v1 F 0 nm else none else if ¬ (v1 < 0 ∨ 4 ≤ v1.toNatClampNeg) then fX5_sheet_86 fd (upd wd v1.toNatClampNeg v2) (upd sz v1.toNatClampNeg v3) v1 F 0 nm else none) else none else Option.bind (fX5_finding fd (-1000001)) (fun z_25 => some (z_25.1, z_25.2, wd, sz, nm))) else Option.bind (fX5_finding fd (-1000007)) (fun z_27 => some (z_27.1, z_27.2, wd, sz, nm))) else (if v2 = 16 then (if 0 ≤ v3 then (if v3 ≤ 40 then if ¬ (v1 < 0 ∨ 4 ≤ v1.toNatClampNeg) then (if v2 = 0 then if ¬ (v1 < 0 ∨ 4 ≤ v1.toNatClampNeg) then fX5_sheet_86 fd (upd wd v1.toNatClampNeg v2) (upd sz v1.toNatClampNeg 0) v1 F 0 nm else none else if ¬ (v1 < 0 ∨ 4 ≤ v1.toNatClampNeg) then fX5_sheet_86 fd (upd wd v1.toNatClampNeg v2) (upd sz v1.toNatClampNeg v3) v1 F 0 nm else none) else none else Option.bind (fX5_finding fd (-1000001)) (fun z_36 => some (z_36.1, z_36.2, wd, sz, nm))) else Option.bind (fX5_finding fd (-1000007)) (fun z_38 => some (z_38.1, z_38.2, wd, sz, nm))) else (if v2 = 32 then (if 0 ≤ v3 then (if v3 ≤ 40 then if ¬ (v1 < 0 ∨ 4 ≤ v1.toNatClampNeg) then (if v2 = 0 then if ¬ (v1 < 0 ∨ 4 ≤ v1.toNatClampNeg) then fX5_sheet_86 fd (upd wd v1.toNatClampNeg v2) (upd sz v1.toNatClampNeg 0) v1 F 0 nm else none else if ¬ (v1 < 0 ∨ 4 ≤ v1.toNatClampNeg) then fX5_sheet_86 fd (upd wd v1.toNatClampNeg v2) (upd sz v1.toNatClampNeg v3) v1 F 0 nm else none) else none else Option.bind (fX5_finding fd (-1000001)) (fun z_47 => some (z_47.1, z_47.2, wd, sz, nm))) else Option.bind (fX5_finding fd (-1000007)) (fun z_49 => some (z_49.1, z_49.2, wd, sz, nm))) else Option.bind (fX5_finding fd (-1000001)) (fun z_51 => some (z_51.1, z_51.2, wd, sz, nm)))))))
abbrev rmX5_sheet : Room := { frames := 2, cells := 0, slots := 0, locals := 42 }
theorem pdX5_sheet : (yX5_sheet.cls = RX5 ∧ yX5_sheet.cls ≠ "java/lang/invoke/MethodHandle" ∧ yX5_sheet.cls ≠ "java/lang/invoke/VarHandle" ∧ (parseMethodDescriptor yX5_sheet.desc).map (fun d => d.parameters.length) = some 3) := by decide +kernel
set_option maxHeartbeats 4000000 in
set_option maxRecDepth 100000 in
theorem lX5_sheet_86 {p : Program} {l : Launch} {e : Env} {s : State} {m : MethodId} {av : Array Value} {below : List Frame} {meth : Method} {c : Code} {D : va_G} {cI cS : ClassId} {a0 a1 a2 a3 a4 a5 a6 a7 a8 a9 a10 a11 : Nat} {W0 : va_W} (C0 : CX p s m av meth c RX5 cX5_sheet 5 (some .int) wsX5_sheet D cI cS) (F : Nat) (nw : Nat → Int32) (kp : Nat → Int32) (ad : Nat → Int32) (fd : Nat → Int32) (tp : Nat → Int32) (kn : Nat → Option Nat) (it : Nat → Int32) (wd : Nat → Int32) (sz : Nat → Int32) (mv : Nat → Int32) (ik : Int32) (td : Int32) (bg : Int32) (en : Int32) (so : Int32) (va : Int32) (iw : Int32) (im : Int32) (st : Int32) (ht : Int32) (v1 : Int32) (z0 : Int32) (z1 : Nat → Int32) (z2 : Nat → Int32) (z3 : Nat → Int32) (z4 : Nat → Int32) (hD : ∀ W : va_W, W.map Prod.fst = [a0, a1, a2, a3, a4, a5, a6, a7, a8, a9, a10, a11] → va_D (wA W0) W) : ∀ (n : Nat) (v4 : Int32) (nm : Nat → Int32) (H : Heap) (locs : List Loc), va_P D vwCl (wX5 cI cS a0 a1 a2 a3 a4 a5 a6 a7 a8 a9 a10 a11 nw kp ad fd tp kn it wd sz nm mv ik td bg en so va iw im st ht) H → va_S (wA W0) s.heap H locs → ∀ (ls : Array Slot), lv_has ls 5 [(0, .ref a0), (1, .int v1), (4, .int v4)] → fX5_sheet_86 fd wd sz v1 n v4 nm = some (z0, z1, z2, z3, z4) → W p l e rmX5_sheet s m av below meth c H locs 0 0 (MQ below (qI D W0 (wX5 cI cS a0 a1 a2 a3 a4 a5 a6 a7 a8 a9 a10 a11 nw kp ad z1 tp kn it z2 z3 z4 mv ik td bg en so va iw im st ht) z0) av s 0 0 (wA W0)) (F0 m 86 ls []) := by
  obtain ⟨hx, hb, hr, hml, hown, hts, hlk, hE⟩ := id C0
  have hinX5 : ∀ w ∈ u_ws RX5 TX5 21, w ∈ wsX5_sheet := by decide +kernel
  intro n
  induction n with
  | zero =>
    intro v4 nm H locs hP hS ls hl h
    cases (show none = some (z0, z1, z2, z3, z4) from h)
  | succ n ih =>
    intro v4 nm H locs hP hS ls hl h
    rw [fX5_sheet_86] at h
    refine lv_iload hx hb dX5_sheet_86 (lv_at hl 2 rfl) ?_
    refine lv_bipush (v := 40) hx hb dX5_sheet_88 (by decide) ?_
    refine lv_icmp_ge (tgt := 112) hx hb dX5_sheet_90 (by decide) (fun c_10 => ?_) (fun c_10 => ?_)
    · have h := ifp c_10 h
      refine lv_aload_n hx hb dX5_sheet_112 rfl (lv_at hl 0 rfl) ?_
      refine va_get (D := D) (ci := 4) (v := .ref a9) (C := RX5) (T := TX5) (N := 21) hx hb hts hinX5 hown hE.1 hP 0 rfl rfl 18 (by decide) (hts _ (List.mem_of_getElem? (i := 4) rfl)) (fun _ h9 => h9) rfl dX5_sheet_113 ?_
      refine lv_iload_n hx hb dX5_sheet_116 rfl (lv_at hl 1 rfl) ?_
      obtain ⟨hi_11, h⟩ := ifs h
      refine va_iald hx hb hE.1 hP 9 0 rfl rfl hi_11 dX5_sheet_117 ?_
      obtain ⟨q0, g0⟩ := Prod.mk.inj (Option.some.inj h)
      obtain ⟨q1, g1⟩ := Prod.mk.inj g0
      obtain ⟨q2, g2⟩ := Prod.mk.inj g1
      obtain ⟨q3, q4⟩ := Prod.mk.inj g2
      subst q0 q1 q2 q3 q4
      exact eMi C0 hP hS rfl rfl dX5_sheet_118
    · have h := ifn c_10 h
      refine lv_aload_n hx hb dX5_sheet_93 rfl (lv_at hl 0 rfl) ?_
      refine va_get (D := D) (ci := 4) (v := .ref a10) (C := RX5) (T := TX5) (N := 21) hx hb hts hinX5 hown hE.1 hP 0 rfl rfl 19 (by decide) (hts _ (List.mem_of_getElem? (i := 5) rfl)) (fun _ h9 => h9) rfl dX5_sheet_94 ?_
      refine lv_bipush (v := 40) hx hb dX5_sheet_97 (by decide) ?_
      refine lv_iload_n hx hb dX5_sheet_99 rfl (lv_at hl 1 rfl) ?_
      refine lv_imul hx hb dX5_sheet_100 ?_
      refine lv_iload hx hb dX5_sheet_101 (lv_at hl 2 rfl) ?_
      refine lv_iadd hx hb dX5_sheet_103 ?_
      refine lv_iconst (v := 0) hx hb dX5_sheet_104 (by decide) ?_
      obtain ⟨hi_12, h⟩ := ifs h
      refine va_iast hx hb hE.1 hP (hD _ rfl) hS 10 0 rfl rfl hi_12 dX5_sheet_105 (fun H locs hP _ hS => ?_)
      have hP : va_P D vwCl (wX5 cI cS a0 a1 a2 a3 a4 a5 a6 a7 a8 a9 a10 a11 nw kp ad fd tp kn it wd sz (upd nm ((40 * v1) + v4).toNatClampNeg 0) mv ik td bg en so va iw im st ht) H := hP
      refine lv_iinc (v := v4 + 1) (lv' := [(4, .int (v4 + 1)), (0, .ref a0), (1, .int v1)]) hx hb dX5_sheet_106 hl (k := 2) rfl rfl (by decide) rfl (fun ls hl => ?_)
      refine lv_goto (tgt := 86) hx hb dX5_sheet_109 (by decide) ?_
      exact ih (v4 + 1) (upd nm ((40 * v1) + v4).toNatClampNeg 0) _ _ hP hS _ (lv_sub hl [1, 2, 0] rfl) h
set_option maxHeartbeats 4000000 in
set_option maxRecDepth 100000 in
theorem tX5_sheet (l : Launch) (D : va_G) (cI cS : ClassId) (F : Nat) (a0 a1 a2 a3 a4 a5 a6 a7 a8 a9 a10 a11 : Nat) (nw : Nat → Int32) (kp : Nat → Int32) (ad : Nat → Int32) (fd : Nat → Int32) (tp : Nat → Int32) (kn : Nat → Option Nat) (it : Nat → Int32) (wd : Nat → Int32) (sz : Nat → Int32) (nm : Nat → Int32) (mv : Nat → Int32) (ik : Int32) (td : Int32) (bg : Int32) (en : Int32) (so : Int32) (va : Int32) (iw : Int32) (im : Int32) (st : Int32) (ht : Int32) (v1 : Int32) (v2 : Int32) (v3 : Int32) (z0 : Int32) (z1 : Nat → Int32) (z2 : Nat → Int32) (z3 : Nat → Int32) (z4 : Nat → Int32) (h : fX5_sheet F fd wd sz nm v1 v2 v3 = some (z0, z1, z2, z3, z4)) (hD0 : va_D (fun _ => True) (wX5 cI cS a0 a1 a2 a3 a4 a5 a6 a7 a8 a9 a10 a11 nw kp ad fd tp kn it wd sz nm mv ik td bg en so va iw im st ht)) : Met l yX5_sheet wsX5_sheet rmX5_sheet (PZ D cI cS [.ref a0, .int v1, .int v2, .int v3] (fun U => va_P D vwCl (wX5 cI cS a0 a1 a2 a3 a4 a5 a6 a7 a8 a9 a10 a11 nw kp ad fd tp kn it wd sz nm mv ik td bg en so va iw im st ht) U.heap)) (qI D (wX5 cI cS a0 a1 a2 a3 a4 a5 a6 a7 a8 a9 a10 a11 nw kp ad fd tp kn it wd sz nm mv ik td bg en so va iw im st ht) (wX5 cI cS a0 a1 a2 a3 a4 a5 a6 a7 a8 a9 a10 a11 nw kp ad z1 tp kn it z2 z3 z4 mv ik td bg en so va iw im st ht) z0) 0 0 (wA (wX5 cI cS a0 a1 a2 a3 a4 a5 a6 a7 a8 a9 a10 a11 nw kp ad fd tp kn it wd sz nm mv ik td bg en so va iw im st ht)) := by
  refine Met.mk RX5 (by decide) rfl rfl (Nat.le_of_ble_eq_true rfl) ?_
  intro p e s m below meth c ls C0 hP hl
  have hl : lv_has ls 5 [(0, .ref a0), (1, .int v1), (2, .int v2), (3, .int v3)] := hl
  obtain ⟨hx, hb, hr, hml, hown, hts, hlk, hE⟩ := id C0
  have hinX5 : ∀ w ∈ u_ws RX5 TX5 21, w ∈ wsX5_sheet := by decide +kernel
  have hD : ∀ W : va_W, W.map Prod.fst = [a0, a1, a2, a3, a4, a5, a6, a7, a8, a9, a10, a11] → va_D (wA (wX5 cI cS a0 a1 a2 a3 a4 a5 a6 a7 a8 a9 a10 a11 nw kp ad fd tp kn it wd sz nm mv ik td bg en so va iw im st ht)) W := fun W hW => hD0.own.re hW
  have hS : va_S (wA (wX5 cI cS a0 a1 a2 a3 a4 a5 a6 a7 a8 a9 a10 a11 nw kp ad fd tp kn it wd sz nm mv ik td bg en so va iw im st ht)) s.heap s.heap [] := va_S.rf
  have hP : va_P D vwCl (wX5 cI cS a0 a1 a2 a3 a4 a5 a6 a7 a8 a9 a10 a11 nw kp ad fd tp kn it wd sz nm mv ik td bg en so va iw im st ht) s.heap := hP
  rw [fX5_sheet] at h
  refine lv_iload_n hx hb dX5_sheet_0 rfl (lv_at hl 1 rfl) ?_
  refine kRi (rS C0 (tX5_isSheet l D cI cS v1 (fX5_isSheet v1) rfl) gX5_sheet_X5_isSheet rfl ⟨rfl, rfl⟩ pdX5_isSheet rfl ⟨Nat.le_of_ble_eq_true rfl, Nat.le_of_ble_eq_true rfl⟩ (fun _ _ _ _ q => q) (fun _ _ _ _ => vp0) hl.1 rfl (Nat.le_of_ble_eq_true rfl) dX5_sheet_1 ⟨Nat.zero_le _, Nat.zero_le _⟩) ?_
  refine lv_if_eq (tgt := 29) hx hb dX5_sheet_4 (by decide) (fun c_1 => ?_) (fun c_1 => ?_)
  · have h := ifp c_1 h
    refine lv_aload_n hx hb dX5_sheet_29 rfl (lv_at hl 0 rfl) ?_
    refine lv_ldc (v := (-1000001)) hx hb hown (hts _ (List.mem_of_getElem? (i := 1) rfl)) dX5_sheet_30 ?_
    obtain ⟨z_2, e_3, h⟩ := bds h
    have hPc := hP.sub (ws' := (wX5 cI cS a0 a1 a2 a3 a4 a5 a6 a7 a8 a9 a10 a11 nw kp ad fd tp kn it wd sz nm mv ik td bg en so va iw im st ht)) [0, 1, 2, 3, 4, 5, 6, 7, 8, 9, 10, 11] rfl
    refine kMi (wf' := (wX5 cI cS a0 a1 a2 a3 a4 a5 a6 a7 a8 a9 a10 a11 nw kp ad z_2.2 tp kn it wd sz nm mv ik td bg en so va iw im st ht)) [0, 1, 2, 3, 4, 5, 6, 7, 8, 9, 10, 11] [some 0, some 1, some 2, some 3, some 4, some 5, some 6, some 7, some 8, some 9, some 10, some 11] (rV C0 (tX5_finding l D cI cS a0 a1 a2 a3 a4 a5 a6 a7 a8 a9 a10 a11 nw kp ad fd tp kn it wd sz nm mv ik td bg en so va iw im st ht (-1000001) z_2.1 z_2.2 e_3 (((hD (wX5 cI cS a0 a1 a2 a3 a4 a5 a6 a7 a8 a9 a10 a11 nw kp ad fd tp kn it wd sz nm mv ik td bg en so va iw im st ht) rfl).sub [0, 1, 2, 3, 4, 5, 6, 7, 8, 9, 10, 11] (by decide) rfl).weaken (fun _ _ _ _ => trivial))) RX5 gX5_sheet_X5_finding rfl ⟨rfl, rfl⟩ pdX5_finding rfl ⟨Nat.le_of_ble_eq_true rfl, Nat.le_of_ble_eq_true rfl⟩ (fun _ _ _ _ q => q) (va_recv hE.1 hPc (ci := 4) (q0 := 0) rfl rfl) (fun U hU _ _ => by rw [hU]; exact hPc) hl.1 rfl (Nat.le_of_ble_eq_true rfl) dX5_sheet_32 ⟨Nat.zero_le _, Nat.zero_le _⟩) hP (hD _ rfl) hS rfl rfl rfl (fun H locs hP hS => ?_)
    obtain ⟨q0, g0⟩ := Prod.mk.inj (Option.some.inj h)
    obtain ⟨q1, g1⟩ := Prod.mk.inj g0
    obtain ⟨q2, g2⟩ := Prod.mk.inj g1
    obtain ⟨q3, q4⟩ := Prod.mk.inj g2
    subst q0 q1 q2 q3 q4
    exact eMi C0 hP hS rfl rfl dX5_sheet_35
  · have h := ifn c_1 h
    refine lv_iload_n hx hb dX5_sheet_7 rfl (lv_at hl 2 rfl) ?_
    refine lv_if_eq (tgt := 36) hx hb dX5_sheet_8 (by decide) (fun c_4 => ?_) (fun c_4 => ?_)
    · have h := ifp c_4 h
      refine lv_iload_n hx hb dX5_sheet_36 rfl (lv_at hl 3 rfl) ?_
      refine lv_if_ge (tgt := 48) hx hb dX5_sheet_37 (by decide) (fun c_5 => ?_) (fun c_5 => ?_)
      · have h := ifp c_5 h
        refine lv_iload_n hx hb dX5_sheet_48 rfl (lv_at hl 3 rfl) ?_
        refine lv_bipush (v := 40) hx hb dX5_sheet_49 (by decide) ?_
        refine lv_icmp_le (tgt := 61) hx hb dX5_sheet_51 (by decide) (fun c_6 => ?_) (fun c_6 => ?_)
        · have h := ifp c_6 h
          refine lv_aload_n hx hb dX5_sheet_61 rfl (lv_at hl 0 rfl) ?_
          refine va_get (D := D) (ci := 4) (v := .ref a8) (C := RX5) (T := TX5) (N := 21) hx hb hts hinX5 hown hE.1 hP 0 rfl rfl 17 (by decide) (hts _ (List.mem_of_getElem? (i := 3) rfl)) (fun _ h9 => h9) rfl dX5_sheet_62 ?_
          refine lv_iload_n hx hb dX5_sheet_65 rfl (lv_at hl 1 rfl) ?_
          refine lv_iload_n hx hb dX5_sheet_66 rfl (lv_at hl 2 rfl) ?_
          obtain ⟨hi_7, h⟩ := ifs h
          refine va_iast hx hb hE.1 hP (hD _ rfl) hS 8 0 rfl rfl hi_7 dX5_sheet_67 (fun H locs hP _ hS => ?_)
          have hP : va_P D vwCl (wX5 cI cS a0 a1 a2 a3 a4 a5 a6 a7 a8 a9 a10 a11 nw kp ad fd tp kn it (upd wd v1.toNatClampNeg v2) sz nm mv ik td bg en so va iw im st ht) H := hP
          refine lv_aload_n hx hb dX5_sheet_68 rfl (lv_at hl 0 rfl) ?_
          refine va_get (D := D) (ci := 4) (v := .ref a9) (C := RX5) (T := TX5) (N := 21) hx hb hts hinX5 hown hE.1 hP 0 rfl rfl 18 (by decide) (hts _ (List.mem_of_getElem? (i := 4) rfl)) (fun _ h9 => h9) rfl dX5_sheet_69 ?_
          refine lv_iload_n hx hb dX5_sheet_72 rfl (lv_at hl 1 rfl) ?_
          refine lv_iload_n hx hb dX5_sheet_73 rfl (lv_at hl 2 rfl) ?_
          refine lv_if_ne (tgt := 81) hx hb dX5_sheet_74 (by decide) (fun c_8 => ?_) (fun c_8 => ?_)
          · have h := ifn c_8 h
            refine lv_iload_n hx hb dX5_sheet_81 rfl (lv_at hl 3 rfl) ?_
            obtain ⟨hi_9, h⟩ := ifs h
            refine va_iast hx hb hE.1 hP (hD _ rfl) hS 9 0 rfl rfl hi_9 dX5_sheet_82 (fun H locs hP _ hS => ?_)
            have hP : va_P D vwCl (wX5 cI cS a0 a1 a2 a3 a4 a5 a6 a7 a8 a9 a10 a11 nw kp ad fd tp kn it (upd wd v1.toNatClampNeg v2) (upd sz v1.toNatClampNeg v3) nm mv ik td bg en so va iw im st ht) H := hP
            refine lv_iconst (v := 0) hx hb dX5_sheet_83 (by decide) ?_
            refine lv_istore (lv' := [(4, .int 0), (0, .ref a0), (1, .int v1), (2, .int v2), (3, .int v3)]) hx hb dX5_sheet_84 hl (by decide) rfl (fun ls hl => ?_)
            exact lX5_sheet_86 (l := l) (e := e) (below := below) C0 F nw kp ad fd tp kn it (upd wd v1.toNatClampNeg v2) (upd sz v1.toNatClampNeg v3) mv ik td bg en so va iw im st ht v1 z0 z1 z2 z3 z4 hD F 0 nm _ _ hP hS _ (lv_sub hl [1, 2, 0] rfl) h
          · have h := ifp c_8 h
            refine lv_iconst (v := 0) hx hb dX5_sheet_77 (by decide) ?_
            refine lv_goto (tgt := 82) hx hb dX5_sheet_78 (by decide) ?_
            obtain ⟨hi_13, h⟩ := ifs h
            refine va_iast hx hb hE.1 hP (hD _ rfl) hS 9 0 rfl rfl hi_13 dX5_sheet_82 (fun H locs hP _ hS => ?_)
            have hP : va_P D vwCl (wX5 cI cS a0 a1 a2 a3 a4 a5 a6 a7 a8 a9 a10 a11 nw kp ad fd tp kn it (upd wd v1.toNatClampNeg v2) (upd sz v1.toNatClampNeg 0) nm mv ik td bg en so va iw im st ht) H := hP
            refine lv_iconst (v := 0) hx hb dX5_sheet_83 (by decide) ?_
            refine lv_istore (lv' := [(4, .int 0), (0, .ref a0), (1, .int v1), (2, .int v2), (3, .int v3)]) hx hb dX5_sheet_84 hl (by decide) rfl (fun ls hl => ?_)
            exact lX5_sheet_86 (l := l) (e := e) (below := below) C0 F nw kp ad fd tp kn it (upd wd v1.toNatClampNeg v2) (upd sz v1.toNatClampNeg 0) mv ik td bg en so va iw im st ht v1 z0 z1 z2 z3 z4 hD F 0 nm _ _ hP hS _ (lv_sub hl [1, 2, 0] rfl) h
        · have h := ifn c_6 h
          refine lv_aload_n hx hb dX5_sheet_54 rfl (lv_at hl 0 rfl) ?_
          refine lv_ldc (v := (-1000001)) hx hb hown (hts _ (List.mem_of_getElem? (i := 1) rfl)) dX5_sheet_55 ?_
          obtain ⟨z_14, e_15, h⟩ := bds h
          have hPc := hP.sub (ws' := (wX5 cI cS a0 a1 a2 a3 a4 a5 a6 a7 a8 a9 a10 a11 nw kp ad fd tp kn it wd sz nm mv ik td bg en so va iw im st ht)) [0, 1, 2, 3, 4, 5, 6, 7, 8, 9, 10, 11] rfl
          refine kMi (wf' := (wX5 cI cS a0 a1 a2 a3 a4 a5 a6 a7 a8 a9 a10 a11 nw kp ad z_14.2 tp kn it wd sz nm mv ik td bg en so va iw im st ht)) [0, 1, 2, 3, 4, 5, 6, 7, 8, 9, 10, 11] [some 0, some 1, some 2, some 3, some 4, some 5, some 6, some 7, some 8, some 9, some 10, some 11] (rV C0 (tX5_finding l D cI cS a0 a1 a2 a3 a4 a5 a6 a7 a8 a9 a10 a11 nw kp ad fd tp kn it wd sz nm mv ik td bg en so va iw im st ht (-1000001) z_14.1 z_14.2 e_15 (((hD (wX5 cI cS a0 a1 a2 a3 a4 a5 a6 a7 a8 a9 a10 a11 nw kp ad fd tp kn it wd sz nm mv ik td bg en so va iw im st ht) rfl).sub [0, 1, 2, 3, 4, 5, 6, 7, 8, 9, 10, 11] (by decide) rfl).weaken (fun _ _ _ _ => trivial))) RX5 gX5_sheet_X5_finding rfl ⟨rfl, rfl⟩ pdX5_finding rfl ⟨Nat.le_of_ble_eq_true rfl, Nat.le_of_ble_eq_true rfl⟩ (fun _ _ _ _ q => q) (va_recv hE.1 hPc (ci := 4) (q0 := 0) rfl rfl) (fun U hU _ _ => by rw [hU]; exact hPc) hl.1 rfl (Nat.le_of_ble_eq_true rfl) dX5_sheet_57 ⟨Nat.zero_le _, Nat.zero_le _⟩) hP (hD _ rfl) hS rfl rfl rfl (fun H locs hP hS => ?_)
          obtain ⟨q0, g0⟩ := Prod.mk.inj (Option.some.inj h)
          obtain ⟨q1, g1⟩ := Prod.mk.inj g0
          obtain ⟨q2, g2⟩ := Prod.mk.inj g1
          obtain ⟨q3, q4⟩ := Prod.mk.inj g2
          subst q0 q1 q2 q3 q4
          exact eMi C0 hP hS rfl rfl dX5_sheet_60
      · have h := ifn c_5 h
        refine lv_aload_n hx hb dX5_sheet_40 rfl (lv_at hl 0 rfl) ?_
        refine lv_ldcw (v := (-1000007)) hx hb hown (hts _ (List.mem_of_getElem? (i := 2) rfl)) dX5_sheet_41 ?_
        obtain ⟨z_16, e_17, h⟩ := bds h
        have hPc := hP.sub (ws' := (wX5 cI cS a0 a1 a2 a3 a4 a5 a6 a7 a8 a9 a10 a11 nw kp ad fd tp kn it wd sz nm mv ik td bg en so va iw im st ht)) [0, 1, 2, 3, 4, 5, 6, 7, 8, 9, 10, 11] rfl
        refine kMi (wf' := (wX5 cI cS a0 a1 a2 a3 a4 a5 a6 a7 a8 a9 a10 a11 nw kp ad z_16.2 tp kn it wd sz nm mv ik td bg en so va iw im st ht)) [0, 1, 2, 3, 4, 5, 6, 7, 8, 9, 10, 11] [some 0, some 1, some 2, some 3, some 4, some 5, some 6, some 7, some 8, some 9, some 10, some 11] (rV C0 (tX5_finding l D cI cS a0 a1 a2 a3 a4 a5 a6 a7 a8 a9 a10 a11 nw kp ad fd tp kn it wd sz nm mv ik td bg en so va iw im st ht (-1000007) z_16.1 z_16.2 e_17 (((hD (wX5 cI cS a0 a1 a2 a3 a4 a5 a6 a7 a8 a9 a10 a11 nw kp ad fd tp kn it wd sz nm mv ik td bg en so va iw im st ht) rfl).sub [0, 1, 2, 3, 4, 5, 6, 7, 8, 9, 10, 11] (by decide) rfl).weaken (fun _ _ _ _ => trivial))) RX5 gX5_sheet_X5_finding rfl ⟨rfl, rfl⟩ pdX5_finding rfl ⟨Nat.le_of_ble_eq_true rfl, Nat.le_of_ble_eq_true rfl⟩ (fun _ _ _ _ q => q) (va_recv hE.1 hPc (ci := 4) (q0 := 0) rfl rfl) (fun U hU _ _ => by rw [hU]; exact hPc) hl.1 rfl (Nat.le_of_ble_eq_true rfl) dX5_sheet_44 ⟨Nat.zero_le _, Nat.zero_le _⟩) hP (hD _ rfl) hS rfl rfl rfl (fun H locs hP hS => ?_)
        obtain ⟨q0, g0⟩ := Prod.mk.inj (Option.some.inj h)
        obtain ⟨q1, g1⟩ := Prod.mk.inj g0
        obtain ⟨q2, g2⟩ := Prod.mk.inj g1
        obtain ⟨q3, q4⟩ := Prod.mk.inj g2
        subst q0 q1 q2 q3 q4
        exact eMi C0 hP hS rfl rfl dX5_sheet_47
    · have h := ifn c_4 h
      refine lv_iload_n hx hb dX5_sheet_11 rfl (lv_at hl 2 rfl) ?_
      refine lv_bipush (v := 8) hx hb dX5_sheet_12 (by decide) ?_
      refine lv_icmp_eq (tgt := 36) hx hb dX5_sheet_14 (by decide) (fun c_18 => ?_) (fun c_18 => ?_)
      · have h := ifp c_18 h
        refine lv_iload_n hx hb dX5_sheet_36 rfl (lv_at hl 3 rfl) ?_
        refine lv_if_ge (tgt := 48) hx hb dX5_sheet_37 (by decide) (fun c_19 => ?_) (fun c_19 => ?_)
        · have h := ifp c_19 h
          refine lv_iload_n hx hb dX5_sheet_48 rfl (lv_at hl 3 rfl) ?_
          refine lv_bipush (v := 40) hx hb dX5_sheet_49 (by decide) ?_
          refine lv_icmp_le (tgt := 61) hx hb dX5_sheet_51 (by decide) (fun c_20 => ?_) (fun c_20 => ?_)
          · have h := ifp c_20 h
            refine lv_aload_n hx hb dX5_sheet_61 rfl (lv_at hl 0 rfl) ?_
            refine va_get (D := D) (ci := 4) (v := .ref a8) (C := RX5) (T := TX5) (N := 21) hx hb hts hinX5 hown hE.1 hP 0 rfl rfl 17 (by decide) (hts _ (List.mem_of_getElem? (i := 3) rfl)) (fun _ h9 => h9) rfl dX5_sheet_62 ?_
            refine lv_iload_n hx hb dX5_sheet_65 rfl (lv_at hl 1 rfl) ?_
            refine lv_iload_n hx hb dX5_sheet_66 rfl (lv_at hl 2 rfl) ?_
            obtain ⟨hi_21, h⟩ := ifs h
            refine va_iast hx hb hE.1 hP (hD _ rfl) hS 8 0 rfl rfl hi_21 dX5_sheet_67 (fun H locs hP _ hS => ?_)
            have hP : va_P D vwCl (wX5 cI cS a0 a1 a2 a3 a4 a5 a6 a7 a8 a9 a10 a11 nw kp ad fd tp kn it (upd wd v1.toNatClampNeg v2) sz nm mv ik td bg en so va iw im st ht) H := hP
            refine lv_aload_n hx hb dX5_sheet_68 rfl (lv_at hl 0 rfl) ?_
            refine va_get (D := D) (ci := 4) (v := .ref a9) (C := RX5) (T := TX5) (N := 21) hx hb hts hinX5 hown hE.1 hP 0 rfl rfl 18 (by decide) (hts _ (List.mem_of_getElem? (i := 4) rfl)) (fun _ h9 => h9) rfl dX5_sheet_69 ?_
            refine lv_iload_n hx hb dX5_sheet_72 rfl (lv_at hl 1 rfl) ?_
            refine lv_iload_n hx hb dX5_sheet_73 rfl (lv_at hl 2 rfl) ?_
            refine lv_if_ne (tgt := 81) hx hb dX5_sheet_74 (by decide) (fun c_22 => ?_) (fun c_22 => ?_)
            · have h := ifn c_22 h
              refine lv_iload_n hx hb dX5_sheet_81 rfl (lv_at hl 3 rfl) ?_
              obtain ⟨hi_23, h⟩ := ifs h
              refine va_iast hx hb hE.1 hP (hD _ rfl) hS 9 0 rfl rfl hi_23 dX5_sheet_82 (fun H locs hP _ hS => ?_)
              have hP : va_P D vwCl (wX5 cI cS a0 a1 a2 a3 a4 a5 a6 a7 a8 a9 a10 a11 nw kp ad fd tp kn it (upd wd v1.toNatClampNeg v2) (upd sz v1.toNatClampNeg v3) nm mv ik td bg en so va iw im st ht) H := hP
              refine lv_iconst (v := 0) hx hb dX5_sheet_83 (by decide) ?_
              refine lv_istore (lv' := [(4, .int 0), (0, .ref a0), (1, .int v1), (2, .int v2), (3, .int v3)]) hx hb dX5_sheet_84 hl (by decide) rfl (fun ls hl => ?_)
              exact lX5_sheet_86 (l := l) (e := e) (below := below) C0 F nw kp ad fd tp kn it (upd wd v1.toNatClampNeg v2) (upd sz v1.toNatClampNeg v3) mv ik td bg en so va iw im st ht v1 z0 z1 z2 z3 z4 hD F 0 nm _ _ hP hS _ (lv_sub hl [1, 2, 0] rfl) h
            · have h := ifp c_22 h
              refine lv_iconst (v := 0) hx hb dX5_sheet_77 (by decide) ?_
              refine lv_goto (tgt := 82) hx hb dX5_sheet_78 (by decide) ?_
              obtain ⟨hi_24, h⟩ := ifs h
              refine va_iast hx hb hE.1 hP (hD _ rfl) hS 9 0 rfl rfl hi_24 dX5_sheet_82 (fun H locs hP _ hS => ?_)
              have hP : va_P D vwCl (wX5 cI cS a0 a1 a2 a3 a4 a5 a6 a7 a8 a9 a10 a11 nw kp ad fd tp kn it (upd wd v1.toNatClampNeg v2) (upd sz v1.toNatClampNeg 0) nm mv ik td bg en so va iw im st ht) H := hP
              refine lv_iconst (v := 0) hx hb dX5_sheet_83 (by decide) ?_
              refine lv_istore (lv' := [(4, .int 0), (0, .ref a0), (1, .int v1), (2, .int v2), (3, .int v3)]) hx hb dX5_sheet_84 hl (by decide) rfl (fun ls hl => ?_)
              exact lX5_sheet_86 (l := l) (e := e) (below := below) C0 F nw kp ad fd tp kn it (upd wd v1.toNatClampNeg v2) (upd sz v1.toNatClampNeg 0) mv ik td bg en so va iw im st ht v1 z0 z1 z2 z3 z4 hD F 0 nm _ _ hP hS _ (lv_sub hl [1, 2, 0] rfl) h
          · have h := ifn c_20 h
            refine lv_aload_n hx hb dX5_sheet_54 rfl (lv_at hl 0 rfl) ?_
            refine lv_ldc (v := (-1000001)) hx hb hown (hts _ (List.mem_of_getElem? (i := 1) rfl)) dX5_sheet_55 ?_
            obtain ⟨z_25, e_26, h⟩ := bds h
            have hPc := hP.sub (ws' := (wX5 cI cS a0 a1 a2 a3 a4 a5 a6 a7 a8 a9 a10 a11 nw kp ad fd tp kn it wd sz nm mv ik td bg en so va iw im st ht)) [0, 1, 2, 3, 4, 5, 6, 7, 8, 9, 10, 11] rfl
            refine kMi (wf' := (wX5 cI cS a0 a1 a2 a3 a4 a5 a6 a7 a8 a9 a10 a11 nw kp ad z_25.2 tp kn it wd sz nm mv ik td bg en so va iw im st ht)) [0, 1, 2, 3, 4, 5, 6, 7, 8, 9, 10, 11] [some 0, some 1, some 2, some 3, some 4, some 5, some 6, some 7, some 8, some 9, some 10, some 11] (rV C0 (tX5_finding l D cI cS a0 a1 a2 a3 a4 a5 a6 a7 a8 a9 a10 a11 nw kp ad fd tp kn it wd sz nm mv ik td bg en so va iw im st ht (-1000001) z_25.1 z_25.2 e_26 (((hD (wX5 cI cS a0 a1 a2 a3 a4 a5 a6 a7 a8 a9 a10 a11 nw kp ad fd tp kn it wd sz nm mv ik td bg en so va iw im st ht) rfl).sub [0, 1, 2, 3, 4, 5, 6, 7, 8, 9, 10, 11] (by decide) rfl).weaken (fun _ _ _ _ => trivial))) RX5 gX5_sheet_X5_finding rfl ⟨rfl, rfl⟩ pdX5_finding rfl ⟨Nat.le_of_ble_eq_true rfl, Nat.le_of_ble_eq_true rfl⟩ (fun _ _ _ _ q => q) (va_recv hE.1 hPc (ci := 4) (q0 := 0) rfl rfl) (fun U hU _ _ => by rw [hU]; exact hPc) hl.1 rfl (Nat.le_of_ble_eq_true rfl) dX5_sheet_57 ⟨Nat.zero_le _, Nat.zero_le _⟩) hP (hD _ rfl) hS rfl rfl rfl (fun H locs hP hS => ?_)
            obtain ⟨q0, g0⟩ := Prod.mk.inj (Option.some.inj h)
            obtain ⟨q1, g1⟩ := Prod.mk.inj g0
            obtain ⟨q2, g2⟩ := Prod.mk.inj g1
            obtain ⟨q3, q4⟩ := Prod.mk.inj g2
            subst q0 q1 q2 q3 q4
            exact eMi C0 hP hS rfl rfl dX5_sheet_60
        · have h := ifn c_19 h
          refine lv_aload_n hx hb dX5_sheet_40 rfl (lv_at hl 0 rfl) ?_
          refine lv_ldcw (v := (-1000007)) hx hb hown (hts _ (List.mem_of_getElem? (i := 2) rfl)) dX5_sheet_41 ?_
          obtain ⟨z_27, e_28, h⟩ := bds h
          have hPc := hP.sub (ws' := (wX5 cI cS a0 a1 a2 a3 a4 a5 a6 a7 a8 a9 a10 a11 nw kp ad fd tp kn it wd sz nm mv ik td bg en so va iw im st ht)) [0, 1, 2, 3, 4, 5, 6, 7, 8, 9, 10, 11] rfl
          refine kMi (wf' := (wX5 cI cS a0 a1 a2 a3 a4 a5 a6 a7 a8 a9 a10 a11 nw kp ad z_27.2 tp kn it wd sz nm mv ik td bg en so va iw im st ht)) [0, 1, 2, 3, 4, 5, 6, 7, 8, 9, 10, 11] [some 0, some 1, some 2, some 3, some 4, some 5, some 6, some 7, some 8, some 9, some 10, some 11] (rV C0 (tX5_finding l D cI cS a0 a1 a2 a3 a4 a5 a6 a7 a8 a9 a10 a11 nw kp ad fd tp kn it wd sz nm mv ik td bg en so va iw im st ht (-1000007) z_27.1 z_27.2 e_28 (((hD (wX5 cI cS a0 a1 a2 a3 a4 a5 a6 a7 a8 a9 a10 a11 nw kp ad fd tp kn it wd sz nm mv ik td bg en so va iw im st ht) rfl).sub [0, 1, 2, 3, 4, 5, 6, 7, 8, 9, 10, 11] (by decide) rfl).weaken (fun _ _ _ _ => trivial))) RX5 gX5_sheet_X5_finding rfl ⟨rfl, rfl⟩ pdX5_finding rfl ⟨Nat.le_of_ble_eq_true rfl, Nat.le_of_ble_eq_true rfl⟩ (fun _ _ _ _ q => q) (va_recv hE.1 hPc (ci := 4) (q0 := 0) rfl rfl) (fun U hU _ _ => by rw [hU]; exact hPc) hl.1 rfl (Nat.le_of_ble_eq_true rfl) dX5_sheet_44 ⟨Nat.zero_le _, Nat.zero_le _⟩) hP (hD _ rfl) hS rfl rfl rfl (fun H locs hP hS => ?_)
          obtain ⟨q0, g0⟩ := Prod.mk.inj (Option.some.inj h)
          obtain ⟨q1, g1⟩ := Prod.mk.inj g0
          obtain ⟨q2, g2⟩ := Prod.mk.inj g1
          obtain ⟨q3, q4⟩ := Prod.mk.inj g2
          subst q0 q1 q2 q3 q4
          exact eMi C0 hP hS rfl rfl dX5_sheet_47
      · have h := ifn c_18 h
        refine lv_iload_n hx hb dX5_sheet_17 rfl (lv_at hl 2 rfl) ?_
        refine lv_bipush (v := 16) hx hb dX5_sheet_18 (by decide) ?_
        refine lv_icmp_eq (tgt := 36) hx hb dX5_sheet_20 (by decide) (fun c_29 => ?_) (fun c_29 => ?_)
        · have h := ifp c_29 h
          refine lv_iload_n hx hb dX5_sheet_36 rfl (lv_at hl 3 rfl) ?_
          refine lv_if_ge (tgt := 48) hx hb dX5_sheet_37 (by decide) (fun c_30 => ?_) (fun c_30 => ?_)
          · have h := ifp c_30 h
            refine lv_iload_n hx hb dX5_sheet_48 rfl (lv_at hl 3 rfl) ?_
            refine lv_bipush (v := 40) hx hb dX5_sheet_49 (by decide) ?_
            refine lv_icmp_le (tgt := 61) hx hb dX5_sheet_51 (by decide) (fun c_31 => ?_) (fun c_31 => ?_)
            · have h := ifp c_31 h
              refine lv_aload_n hx hb dX5_sheet_61 rfl (lv_at hl 0 rfl) ?_
              refine va_get (D := D) (ci := 4) (v := .ref a8) (C := RX5) (T := TX5) (N := 21) hx hb hts hinX5 hown hE.1 hP 0 rfl rfl 17 (by decide) (hts _ (List.mem_of_getElem? (i := 3) rfl)) (fun _ h9 => h9) rfl dX5_sheet_62 ?_
              refine lv_iload_n hx hb dX5_sheet_65 rfl (lv_at hl 1 rfl) ?_
              refine lv_iload_n hx hb dX5_sheet_66 rfl (lv_at hl 2 rfl) ?_
              obtain ⟨hi_32, h⟩ := ifs h
              refine va_iast hx hb hE.1 hP (hD _ rfl) hS 8 0 rfl rfl hi_32 dX5_sheet_67 (fun H locs hP _ hS => ?_)
              have hP : va_P D vwCl (wX5 cI cS a0 a1 a2 a3 a4 a5 a6 a7 a8 a9 a10 a11 nw kp ad fd tp kn it (upd wd v1.toNatClampNeg v2) sz nm mv ik td bg en so va iw im st ht) H := hP
              refine lv_aload_n hx hb dX5_sheet_68 rfl (lv_at hl 0 rfl) ?_
              refine va_get (D := D) (ci := 4) (v := .ref a9) (C := RX5) (T := TX5) (N := 21) hx hb hts hinX5 hown hE.1 hP 0 rfl rfl 18 (by decide) (hts _ (List.mem_of_getElem? (i := 4) rfl)) (fun _ h9 => h9) rfl dX5_sheet_69 ?_
              refine lv_iload_n hx hb dX5_sheet_72 rfl (lv_at hl 1 rfl) ?_
              refine lv_iload_n hx hb dX5_sheet_73 rfl (lv_at hl 2 rfl) ?_
              refine lv_if_ne (tgt := 81) hx hb dX5_sheet_74 (by decide) (fun c_33 => ?_) (fun c_33 => ?_)
              · have h := ifn c_33 h
                refine lv_iload_n hx hb dX5_sheet_81 rfl (lv_at hl 3 rfl) ?_
                obtain ⟨hi_34, h⟩ := ifs h
                refine va_iast hx hb hE.1 hP (hD _ rfl) hS 9 0 rfl rfl hi_34 dX5_sheet_82 (fun H locs hP _ hS => ?_)
                have hP : va_P D vwCl (wX5 cI cS a0 a1 a2 a3 a4 a5 a6 a7 a8 a9 a10 a11 nw kp ad fd tp kn it (upd wd v1.toNatClampNeg v2) (upd sz v1.toNatClampNeg v3) nm mv ik td bg en so va iw im st ht) H := hP
                refine lv_iconst (v := 0) hx hb dX5_sheet_83 (by decide) ?_
                refine lv_istore (lv' := [(4, .int 0), (0, .ref a0), (1, .int v1), (2, .int v2), (3, .int v3)]) hx hb dX5_sheet_84 hl (by decide) rfl (fun ls hl => ?_)
                exact lX5_sheet_86 (l := l) (e := e) (below := below) C0 F nw kp ad fd tp kn it (upd wd v1.toNatClampNeg v2) (upd sz v1.toNatClampNeg v3) mv ik td bg en so va iw im st ht v1 z0 z1 z2 z3 z4 hD F 0 nm _ _ hP hS _ (lv_sub hl [1, 2, 0] rfl) h
              · have h := ifp c_33 h
                refine lv_iconst (v := 0) hx hb dX5_sheet_77 (by decide) ?_
                refine lv_goto (tgt := 82) hx hb dX5_sheet_78 (by decide) ?_
                obtain ⟨hi_35, h⟩ := ifs h
                refine va_iast hx hb hE.1 hP (hD _ rfl) hS 9 0 rfl rfl hi_35 dX5_sheet_82 (fun H locs hP _ hS => ?_)
                have hP : va_P D vwCl (wX5 cI cS a0 a1 a2 a3 a4 a5 a6 a7 a8 a9 a10 a11 nw kp ad fd tp kn it (upd wd v1.toNatClampNeg v2) (upd sz v1.toNatClampNeg 0) nm mv ik td bg en so va iw im st ht) H := hP
                refine lv_iconst (v := 0) hx hb dX5_sheet_83 (by decide) ?_
                refine lv_istore (lv' := [(4, .int 0), (0, .ref a0), (1, .int v1), (2, .int v2), (3, .int v3)]) hx hb dX5_sheet_84 hl (by decide) rfl (fun ls hl => ?_)
                exact lX5_sheet_86 (l := l) (e := e) (below := below) C0 F nw kp ad fd tp kn it (upd wd v1.toNatClampNeg v2) (upd sz v1.toNatClampNeg 0) mv ik td bg en so va iw im st ht v1 z0 z1 z2 z3 z4 hD F 0 nm _ _ hP hS _ (lv_sub hl [1, 2, 0] rfl) h
            · have h := ifn c_31 h
              refine lv_aload_n hx hb dX5_sheet_54 rfl (lv_at hl 0 rfl) ?_
              refine lv_ldc (v := (-1000001)) hx hb hown (hts _ (List.mem_of_getElem? (i := 1) rfl)) dX5_sheet_55 ?_
              obtain ⟨z_36, e_37, h⟩ := bds h
              have hPc := hP.sub (ws' := (wX5 cI cS a0 a1 a2 a3 a4 a5 a6 a7 a8 a9 a10 a11 nw kp ad fd tp kn it wd sz nm mv ik td bg en so va iw im st ht)) [0, 1, 2, 3, 4, 5, 6, 7, 8, 9, 10, 11] rfl
              refine kMi (wf' := (wX5 cI cS a0 a1 a2 a3 a4 a5 a6 a7 a8 a9 a10 a11 nw kp ad z_36.2 tp kn it wd sz nm mv ik td bg en so va iw im st ht)) [0, 1, 2, 3, 4, 5, 6, 7, 8, 9, 10, 11] [some 0, some 1, some 2, some 3, some 4, some 5, some 6, some 7, some 8, some 9, some 10, some 11] (rV C0 (tX5_finding l D cI cS a0 a1 a2 a3 a4 a5 a6 a7 a8 a9 a10 a11 nw kp ad fd tp kn it wd sz nm mv ik td bg en so va iw im st ht (-1000001) z_36.1 z_36.2 e_37 (((hD (wX5 cI cS a0 a1 a2 a3 a4 a5 a6 a7 a8 a9 a10 a11 nw kp ad fd tp kn it wd sz nm mv ik td bg en so va iw im st ht) rfl).sub [0, 1, 2, 3, 4, 5, 6, 7, 8, 9, 10, 11] (by decide) rfl).weaken (fun _ _ _ _ => trivial))) RX5 gX5_sheet_X5_finding rfl ⟨rfl, rfl⟩ pdX5_finding rfl ⟨Nat.le_of_ble_eq_true rfl, Nat.le_of_ble_eq_true rfl⟩ (fun _ _ _ _ q => q) (va_recv hE.1 hPc (ci := 4) (q0 := 0) rfl rfl) (fun U hU _ _ => by rw [hU]; exact hPc) hl.1 rfl (Nat.le_of_ble_eq_true rfl) dX5_sheet_57 ⟨Nat.zero_le _, Nat.zero_le _⟩) hP (hD _ rfl) hS rfl rfl rfl (fun H locs hP hS => ?_)
              obtain ⟨q0, g0⟩ := Prod.mk.inj (Option.some.inj h)
              obtain ⟨q1, g1⟩ := Prod.mk.inj g0
              obtain ⟨q2, g2⟩ := Prod.mk.inj g1
              obtain ⟨q3, q4⟩ := Prod.mk.inj g2
              subst q0 q1 q2 q3 q4
              exact eMi C0 hP hS rfl rfl dX5_sheet_60
          · have h := ifn c_30 h
            refine lv_aload_n hx hb dX5_sheet_40 rfl (lv_at hl 0 rfl) ?_
            refine lv_ldcw (v := (-1000007)) hx hb hown (hts _ (List.mem_of_getElem? (i := 2) rfl)) dX5_sheet_41 ?_
            obtain ⟨z_38, e_39, h⟩ := bds h
            have hPc := hP.sub (ws' := (wX5 cI cS a0 a1 a2 a3 a4 a5 a6 a7 a8 a9 a10 a11 nw kp ad fd tp kn it wd sz nm mv ik td bg en so va iw im st ht)) [0, 1, 2, 3, 4, 5, 6, 7, 8, 9, 10, 11] rfl
            refine kMi (wf' := (wX5 cI cS a0 a1 a2 a3 a4 a5 a6 a7 a8 a9 a10 a11 nw kp ad z_38.2 tp kn it wd sz nm mv ik td bg en so va iw im st ht)) [0, 1, 2, 3, 4, 5, 6, 7, 8, 9, 10, 11] [some 0, some 1, some 2, some 3, some 4, some 5, some 6, some 7, some 8, some 9, some 10, some 11] (rV C0 (tX5_finding l D cI cS a0 a1 a2 a3 a4 a5 a6 a7 a8 a9 a10 a11 nw kp ad fd tp kn it wd sz nm mv ik td bg en so va iw im st ht (-1000007) z_38.1 z_38.2 e_39 (((hD (wX5 cI cS a0 a1 a2 a3 a4 a5 a6 a7 a8 a9 a10 a11 nw kp ad fd tp kn it wd sz nm mv ik td bg en so va iw im st ht) rfl).sub [0, 1, 2, 3, 4, 5, 6, 7, 8, 9, 10, 11] (by decide) rfl).weaken (fun _ _ _ _ => trivial))) RX5 gX5_sheet_X5_finding rfl ⟨rfl, rfl⟩ pdX5_finding rfl ⟨Nat.le_of_ble_eq_true rfl, Nat.le_of_ble_eq_true rfl⟩ (fun _ _ _ _ q => q) (va_recv hE.1 hPc (ci := 4) (q0 := 0) rfl rfl) (fun U hU _ _ => by rw [hU]; exact hPc) hl.1 rfl (Nat.le_of_ble_eq_true rfl) dX5_sheet_44 ⟨Nat.zero_le _, Nat.zero_le _⟩) hP (hD _ rfl) hS rfl rfl rfl (fun H locs hP hS => ?_)
            obtain ⟨q0, g0⟩ := Prod.mk.inj (Option.some.inj h)
            obtain ⟨q1, g1⟩ := Prod.mk.inj g0
            obtain ⟨q2, g2⟩ := Prod.mk.inj g1
            obtain ⟨q3, q4⟩ := Prod.mk.inj g2
            subst q0 q1 q2 q3 q4
            exact eMi C0 hP hS rfl rfl dX5_sheet_47
        · have h := ifn c_29 h
          refine lv_iload_n hx hb dX5_sheet_23 rfl (lv_at hl 2 rfl) ?_
          refine lv_bipush (v := 32) hx hb dX5_sheet_24 (by decide) ?_
          refine lv_icmp_eq (tgt := 36) hx hb dX5_sheet_26 (by decide) (fun c_40 => ?_) (fun c_40 => ?_)
          · have h := ifp c_40 h
            refine lv_iload_n hx hb dX5_sheet_36 rfl (lv_at hl 3 rfl) ?_
            refine lv_if_ge (tgt := 48) hx hb dX5_sheet_37 (by decide) (fun c_41 => ?_) (fun c_41 => ?_)
            · have h := ifp c_41 h
              refine lv_iload_n hx hb dX5_sheet_48 rfl (lv_at hl 3 rfl) ?_
              refine lv_bipush (v := 40) hx hb dX5_sheet_49 (by decide) ?_
              refine lv_icmp_le (tgt := 61) hx hb dX5_sheet_51 (by decide) (fun c_42 => ?_) (fun c_42 => ?_)
              · have h := ifp c_42 h
                refine lv_aload_n hx hb dX5_sheet_61 rfl (lv_at hl 0 rfl) ?_
                refine va_get (D := D) (ci := 4) (v := .ref a8) (C := RX5) (T := TX5) (N := 21) hx hb hts hinX5 hown hE.1 hP 0 rfl rfl 17 (by decide) (hts _ (List.mem_of_getElem? (i := 3) rfl)) (fun _ h9 => h9) rfl dX5_sheet_62 ?_
                refine lv_iload_n hx hb dX5_sheet_65 rfl (lv_at hl 1 rfl) ?_
                refine lv_iload_n hx hb dX5_sheet_66 rfl (lv_at hl 2 rfl) ?_
                obtain ⟨hi_43, h⟩ := ifs h
                refine va_iast hx hb hE.1 hP (hD _ rfl) hS 8 0 rfl rfl hi_43 dX5_sheet_67 (fun H locs hP _ hS => ?_)
                have hP : va_P D vwCl (wX5 cI cS a0 a1 a2 a3 a4 a5 a6 a7 a8 a9 a10 a11 nw kp ad fd tp kn it (upd wd v1.toNatClampNeg v2) sz nm mv ik td bg en so va iw im st ht) H := hP
                refine lv_aload_n hx hb dX5_sheet_68 rfl (lv_at hl 0 rfl) ?_
                refine va_get (D := D) (ci := 4) (v := .ref a9) (C := RX5) (T := TX5) (N := 21) hx hb hts hinX5 hown hE.1 hP 0 rfl rfl 18 (by decide) (hts _ (List.mem_of_getElem? (i := 4) rfl)) (fun _ h9 => h9) rfl dX5_sheet_69 ?_
                refine lv_iload_n hx hb dX5_sheet_72 rfl (lv_at hl 1 rfl) ?_
                refine lv_iload_n hx hb dX5_sheet_73 rfl (lv_at hl 2 rfl) ?_
                refine lv_if_ne (tgt := 81) hx hb dX5_sheet_74 (by decide) (fun c_44 => ?_) (fun c_44 => ?_)
                · have h := ifn c_44 h
                  refine lv_iload_n hx hb dX5_sheet_81 rfl (lv_at hl 3 rfl) ?_
                  obtain ⟨hi_45, h⟩ := ifs h
                  refine va_iast hx hb hE.1 hP (hD _ rfl) hS 9 0 rfl rfl hi_45 dX5_sheet_82 (fun H locs hP _ hS => ?_)
                  have hP : va_P D vwCl (wX5 cI cS a0 a1 a2 a3 a4 a5 a6 a7 a8 a9 a10 a11 nw kp ad fd tp kn it (upd wd v1.toNatClampNeg v2) (upd sz v1.toNatClampNeg v3) nm mv ik td bg en so va iw im st ht) H := hP
                  refine lv_iconst (v := 0) hx hb dX5_sheet_83 (by decide) ?_
                  refine lv_istore (lv' := [(4, .int 0), (0, .ref a0), (1, .int v1), (2, .int v2), (3, .int v3)]) hx hb dX5_sheet_84 hl (by decide) rfl (fun ls hl => ?_)
                  exact lX5_sheet_86 (l := l) (e := e) (below := below) C0 F nw kp ad fd tp kn it (upd wd v1.toNatClampNeg v2) (upd sz v1.toNatClampNeg v3) mv ik td bg en so va iw im st ht v1 z0 z1 z2 z3 z4 hD F 0 nm _ _ hP hS _ (lv_sub hl [1, 2, 0] rfl) h
                · have h := ifp c_44 h
                  refine lv_iconst (v := 0) hx hb dX5_sheet_77 (by decide) ?_
                  refine lv_goto (tgt := 82) hx hb dX5_sheet_78 (by decide) ?_
                  obtain ⟨hi_46, h⟩ := ifs h
                  refine va_iast hx hb hE.1 hP (hD _ rfl) hS 9 0 rfl rfl hi_46 dX5_sheet_82 (fun H locs hP _ hS => ?_)
                  have hP : va_P D vwCl (wX5 cI cS a0 a1 a2 a3 a4 a5 a6 a7 a8 a9 a10 a11 nw kp ad fd tp kn it (upd wd v1.toNatClampNeg v2) (upd sz v1.toNatClampNeg 0) nm mv ik td bg en so va iw im st ht) H := hP
                  refine lv_iconst (v := 0) hx hb dX5_sheet_83 (by decide) ?_
                  refine lv_istore (lv' := [(4, .int 0), (0, .ref a0), (1, .int v1), (2, .int v2), (3, .int v3)]) hx hb dX5_sheet_84 hl (by decide) rfl (fun ls hl => ?_)
                  exact lX5_sheet_86 (l := l) (e := e) (below := below) C0 F nw kp ad fd tp kn it (upd wd v1.toNatClampNeg v2) (upd sz v1.toNatClampNeg 0) mv ik td bg en so va iw im st ht v1 z0 z1 z2 z3 z4 hD F 0 nm _ _ hP hS _ (lv_sub hl [1, 2, 0] rfl) h
              · have h := ifn c_42 h
                refine lv_aload_n hx hb dX5_sheet_54 rfl (lv_at hl 0 rfl) ?_
                refine lv_ldc (v := (-1000001)) hx hb hown (hts _ (List.mem_of_getElem? (i := 1) rfl)) dX5_sheet_55 ?_
                obtain ⟨z_47, e_48, h⟩ := bds h
                have hPc := hP.sub (ws' := (wX5 cI cS a0 a1 a2 a3 a4 a5 a6 a7 a8 a9 a10 a11 nw kp ad fd tp kn it wd sz nm mv ik td bg en so va iw im st ht)) [0, 1, 2, 3, 4, 5, 6, 7, 8, 9, 10, 11] rfl
                refine kMi (wf' := (wX5 cI cS a0 a1 a2 a3 a4 a5 a6 a7 a8 a9 a10 a11 nw kp ad z_47.2 tp kn it wd sz nm mv ik td bg en so va iw im st ht)) [0, 1, 2, 3, 4, 5, 6, 7, 8, 9, 10, 11] [some 0, some 1, some 2, some 3, some 4, some 5, some 6, some 7, some 8, some 9, some 10, some 11] (rV C0 (tX5_finding l D cI cS a0 a1 a2 a3 a4 a5 a6 a7 a8 a9 a10 a11 nw kp ad fd tp kn it wd sz nm mv ik td bg en so va iw im st ht (-1000001) z_47.1 z_47.2 e_48 (((hD (wX5 cI cS a0 a1 a2 a3 a4 a5 a6 a7 a8 a9 a10 a11 nw kp ad fd tp kn it wd sz nm mv ik td bg en so va iw im st ht) rfl).sub [0, 1, 2, 3, 4, 5, 6, 7, 8, 9, 10, 11] (by decide) rfl).weaken (fun _ _ _ _ => trivial))) RX5 gX5_sheet_X5_finding rfl ⟨rfl, rfl⟩ pdX5_finding rfl ⟨Nat.le_of_ble_eq_true rfl, Nat.le_of_ble_eq_true rfl⟩ (fun _ _ _ _ q => q) (va_recv hE.1 hPc (ci := 4) (q0 := 0) rfl rfl) (fun U hU _ _ => by rw [hU]; exact hPc) hl.1 rfl (Nat.le_of_ble_eq_true rfl) dX5_sheet_57 ⟨Nat.zero_le _, Nat.zero_le _⟩) hP (hD _ rfl) hS rfl rfl rfl (fun H locs hP hS => ?_)
                obtain ⟨q0, g0⟩ := Prod.mk.inj (Option.some.inj h)
                obtain ⟨q1, g1⟩ := Prod.mk.inj g0
                obtain ⟨q2, g2⟩ := Prod.mk.inj g1
                obtain ⟨q3, q4⟩ := Prod.mk.inj g2
                subst q0 q1 q2 q3 q4
                exact eMi C0 hP hS rfl rfl dX5_sheet_60
            · have h := ifn c_41 h
              refine lv_aload_n hx hb dX5_sheet_40 rfl (lv_at hl 0 rfl) ?_
              refine lv_ldcw (v := (-1000007)) hx hb hown (hts _ (List.mem_of_getElem? (i := 2) rfl)) dX5_sheet_41 ?_
              obtain ⟨z_49, e_50, h⟩ := bds h
              have hPc := hP.sub (ws' := (wX5 cI cS a0 a1 a2 a3 a4 a5 a6 a7 a8 a9 a10 a11 nw kp ad fd tp kn it wd sz nm mv ik td bg en so va iw im st ht)) [0, 1, 2, 3, 4, 5, 6, 7, 8, 9, 10, 11] rfl
              refine kMi (wf' := (wX5 cI cS a0 a1 a2 a3 a4 a5 a6 a7 a8 a9 a10 a11 nw kp ad z_49.2 tp kn it wd sz nm mv ik td bg en so va iw im st ht)) [0, 1, 2, 3, 4, 5, 6, 7, 8, 9, 10, 11] [some 0, some 1, some 2, some 3, some 4, some 5, some 6, some 7, some 8, some 9, some 10, some 11] (rV C0 (tX5_finding l D cI cS a0 a1 a2 a3 a4 a5 a6 a7 a8 a9 a10 a11 nw kp ad fd tp kn it wd sz nm mv ik td bg en so va iw im st ht (-1000007) z_49.1 z_49.2 e_50 (((hD (wX5 cI cS a0 a1 a2 a3 a4 a5 a6 a7 a8 a9 a10 a11 nw kp ad fd tp kn it wd sz nm mv ik td bg en so va iw im st ht) rfl).sub [0, 1, 2, 3, 4, 5, 6, 7, 8, 9, 10, 11] (by decide) rfl).weaken (fun _ _ _ _ => trivial))) RX5 gX5_sheet_X5_finding rfl ⟨rfl, rfl⟩ pdX5_finding rfl ⟨Nat.le_of_ble_eq_true rfl, Nat.le_of_ble_eq_true rfl⟩ (fun _ _ _ _ q => q) (va_recv hE.1 hPc (ci := 4) (q0 := 0) rfl rfl) (fun U hU _ _ => by rw [hU]; exact hPc) hl.1 rfl (Nat.le_of_ble_eq_true rfl) dX5_sheet_44 ⟨Nat.zero_le _, Nat.zero_le _⟩) hP (hD _ rfl) hS rfl rfl rfl (fun H locs hP hS => ?_)
              obtain ⟨q0, g0⟩ := Prod.mk.inj (Option.some.inj h)
              obtain ⟨q1, g1⟩ := Prod.mk.inj g0
              obtain ⟨q2, g2⟩ := Prod.mk.inj g1
              obtain ⟨q3, q4⟩ := Prod.mk.inj g2
              subst q0 q1 q2 q3 q4
              exact eMi C0 hP hS rfl rfl dX5_sheet_47
          · have h := ifn c_40 h
            refine lv_aload_n hx hb dX5_sheet_29 rfl (lv_at hl 0 rfl) ?_
            refine lv_ldc (v := (-1000001)) hx hb hown (hts _ (List.mem_of_getElem? (i := 1) rfl)) dX5_sheet_30 ?_
            obtain ⟨z_51, e_52, h⟩ := bds h
            have hPc := hP.sub (ws' := (wX5 cI cS a0 a1 a2 a3 a4 a5 a6 a7 a8 a9 a10 a11 nw kp ad fd tp kn it wd sz nm mv ik td bg en so va iw im st ht)) [0, 1, 2, 3, 4, 5, 6, 7, 8, 9, 10, 11] rfl
            refine kMi (wf' := (wX5 cI cS a0 a1 a2 a3 a4 a5 a6 a7 a8 a9 a10 a11 nw kp ad z_51.2 tp kn it wd sz nm mv ik td bg en so va iw im st ht)) [0, 1, 2, 3, 4, 5, 6, 7, 8, 9, 10, 11] [some 0, some 1, some 2, some 3, some 4, some 5, some 6, some 7, some 8, some 9, some 10, some 11] (rV C0 (tX5_finding l D cI cS a0 a1 a2 a3 a4 a5 a6 a7 a8 a9 a10 a11 nw kp ad fd tp kn it wd sz nm mv ik td bg en so va iw im st ht (-1000001) z_51.1 z_51.2 e_52 (((hD (wX5 cI cS a0 a1 a2 a3 a4 a5 a6 a7 a8 a9 a10 a11 nw kp ad fd tp kn it wd sz nm mv ik td bg en so va iw im st ht) rfl).sub [0, 1, 2, 3, 4, 5, 6, 7, 8, 9, 10, 11] (by decide) rfl).weaken (fun _ _ _ _ => trivial))) RX5 gX5_sheet_X5_finding rfl ⟨rfl, rfl⟩ pdX5_finding rfl ⟨Nat.le_of_ble_eq_true rfl, Nat.le_of_ble_eq_true rfl⟩ (fun _ _ _ _ q => q) (va_recv hE.1 hPc (ci := 4) (q0 := 0) rfl rfl) (fun U hU _ _ => by rw [hU]; exact hPc) hl.1 rfl (Nat.le_of_ble_eq_true rfl) dX5_sheet_32 ⟨Nat.zero_le _, Nat.zero_le _⟩) hP (hD _ rfl) hS rfl rfl rfl (fun H locs hP hS => ?_)
            obtain ⟨q0, g0⟩ := Prod.mk.inj (Option.some.inj h)
            obtain ⟨q1, g1⟩ := Prod.mk.inj g0
            obtain ⟨q2, g2⟩ := Prod.mk.inj g1
            obtain ⟨q3, q4⟩ := Prod.mk.inj g2
            subst q0 q1 q2 q3 q4
            exact eMi C0 hP hS rfl rfl dX5_sheet_35
def fX5_write (fd : Nat → Int32) (wd : Nat → Int32) (sz : Nat → Int32) (nm : Nat → Int32) (v1 : Int32) (v2 : Int32) (v3 : Int32) : Option (Int32 × (Nat → Int32) × (Nat → Int32)) := (if (fX5_isSheet v1) = 0 then Option.bind (fX5_finding fd (-1000001)) (fun z_12 => some (z_12.1, z_12.2, nm)) else if ¬ (v1 < 0 ∨ 4 ≤ v1.toNatClampNeg) then (if (wd v1.toNatClampNeg) = 0 then Option.bind (fX5_finding fd (-1000006)) (fun z_10 => some (z_10.1, z_10.2, nm)) else if ¬ (v1 < 0 ∨ 4 ≤ v1.toNatClampNeg) then (if (fX5_within v2 0 ((sz v1.toNatClampNeg) - 1)) = 0 then Option.bind (fX5_finding fd (-1000001)) (fun z_8 => some (z_8.1, z_8.2, nm)) else if ¬ (v1 < 0 ∨ 4 ≤ v1.toNatClampNeg) then if ¬ (((40 * v1) + v2) < 0 ∨ 160 ≤ ((40 * v1) + v2).toNatClampNeg) then some (1, fd, upd nm ((40 * v1) + v2).toNatClampNeg (fX5_cutTo v3 (wd v1.toNatClampNeg))) else none else none) else none) else none)
abbrev rmX5_write : Room := { frames := 2, cells := 0, slots := 0, locals := 42 }
theorem pdX5_write : (yX5_write.cls = RX5 ∧ yX5_write.cls ≠ "java/lang/invoke/MethodHandle" ∧ yX5_write.cls ≠ "java/lang/invoke/VarHandle" ∧ (parseMethodDescriptor yX5_write.desc).map (fun d => d.parameters.length) = some 3) := by decide +kernel
set_option maxHeartbeats 4000000 in
set_option maxRecDepth 100000 in
theorem tX5_write (l : Launch) (D : va_G) (cI cS : ClassId) (a0 a1 a2 a3 a4 a5 a6 a7 a8 a9 a10 a11 : Nat) (nw : Nat → Int32) (kp : Nat → Int32) (ad : Nat → Int32) (fd : Nat → Int32) (tp : Nat → Int32) (kn : Nat → Option Nat) (it : Nat → Int32) (wd : Nat → Int32) (sz : Nat → Int32) (nm : Nat → Int32) (mv : Nat → Int32) (ik : Int32) (td : Int32) (bg : Int32) (en : Int32) (so : Int32) (va : Int32) (iw : Int32) (im : Int32) (st : Int32) (ht : Int32) (v1 : Int32) (v2 : Int32) (v3 : Int32) (z0 : Int32) (z1 : Nat → Int32) (z2 : Nat → Int32) (h : fX5_write fd wd sz nm v1 v2 v3 = some (z0, z1, z2)) (hD0 : va_D (fun _ => True) (wX5 cI cS a0 a1 a2 a3 a4 a5 a6 a7 a8 a9 a10 a11 nw kp ad fd tp kn it wd sz nm mv ik td bg en so va iw im st ht)) : Met l yX5_write wsX5_write rmX5_write (PZ D cI cS [.ref a0, .int v1, .int v2, .int v3] (fun U => va_P D vwCl (wX5 cI cS a0 a1 a2 a3 a4 a5 a6 a7 a8 a9 a10 a11 nw kp ad fd tp kn it wd sz nm mv ik td bg en so va iw im st ht) U.heap)) (qI D (wX5 cI cS a0 a1 a2 a3 a4 a5 a6 a7 a8 a9 a10 a11 nw kp ad fd tp kn it wd sz nm mv ik td bg en so va iw im st ht) (wX5 cI cS a0 a1 a2 a3 a4 a5 a6 a7 a8 a9 a10 a11 nw kp ad z1 tp kn it wd sz z2 mv ik td bg en so va iw im st ht) z0) 0 0 (wA (wX5 cI cS a0 a1 a2 a3 a4 a5 a6 a7 a8 a9 a10 a11 nw kp ad fd tp kn it wd sz nm mv ik td bg en so va iw im st ht)) := by
  refine Met.mk RX5 (by decide) rfl rfl (Nat.le_of_ble_eq_true rfl) ?_
  intro p e s m below meth c ls C0 hP hl
  have hl : lv_has ls 4 [(0, .ref a0), (1, .int v1), (2, .int v2), (3, .int v3)] := hl
  obtain ⟨hx, hb, hr, hml, hown, hts, hlk, hE⟩ := id C0
  have hinX5 : ∀ w ∈ u_ws RX5 TX5 21, w ∈ wsX5_write := by decide +kernel
  have hD : ∀ W : va_W, W.map Prod.fst = [a0, a1, a2, a3, a4, a5, a6, a7, a8, a9, a10, a11] → va_D (wA (wX5 cI cS a0 a1 a2 a3 a4 a5 a6 a7 a8 a9 a10 a11 nw kp ad fd tp kn it wd sz nm mv ik td bg en so va iw im st ht)) W := fun W hW => hD0.own.re hW
  have hS : va_S (wA (wX5 cI cS a0 a1 a2 a3 a4 a5 a6 a7 a8 a9 a10 a11 nw kp ad fd tp kn it wd sz nm mv ik td bg en so va iw im st ht)) s.heap s.heap [] := va_S.rf
  have hP : va_P D vwCl (wX5 cI cS a0 a1 a2 a3 a4 a5 a6 a7 a8 a9 a10 a11 nw kp ad fd tp kn it wd sz nm mv ik td bg en so va iw im st ht) s.heap := hP
  rw [fX5_write] at h
  refine lv_iload_n hx hb dX5_write_0 rfl (lv_at hl 1 rfl) ?_
  refine kRi (rS C0 (tX5_isSheet l D cI cS v1 (fX5_isSheet v1) rfl) gX5_write_X5_isSheet rfl ⟨rfl, rfl⟩ pdX5_isSheet rfl ⟨Nat.le_of_ble_eq_true rfl, Nat.le_of_ble_eq_true rfl⟩ (fun _ _ _ _ q => q) (fun _ _ _ _ => vp0) hl.1 rfl (Nat.le_of_ble_eq_true rfl) dX5_write_1 ⟨Nat.zero_le _, Nat.zero_le _⟩) ?_
  refine lv_if_ne (tgt := 14) hx hb dX5_write_4 (by decide) (fun c_1 => ?_) (fun c_1 => ?_)
  · have h := ifn c_1 h
    refine lv_aload_n hx hb dX5_write_14 rfl (lv_at hl 0 rfl) ?_
    refine va_get (D := D) (ci := 4) (v := .ref a8) (C := RX5) (T := TX5) (N := 21) hx hb hts hinX5 hown hE.1 hP 0 rfl rfl 17 (by decide) (hts _ (List.mem_of_getElem? (i := 2) rfl)) (fun _ h9 => h9) rfl dX5_write_15 ?_
    refine lv_iload_n hx hb dX5_write_18 rfl (lv_at hl 1 rfl) ?_
    obtain ⟨hi_2, h⟩ := ifs h
    refine va_iald hx hb hE.1 hP 8 0 rfl rfl hi_2 dX5_write_19 ?_
    refine lv_if_ne (tgt := 30) hx hb dX5_write_20 (by decide) (fun c_3 => ?_) (fun c_3 => ?_)
    · have h := ifn c_3 h
      refine lv_iload_n hx hb dX5_write_30 rfl (lv_at hl 2 rfl) ?_
      refine lv_iconst (v := 0) hx hb dX5_write_31 (by decide) ?_
      refine lv_aload_n hx hb dX5_write_32 rfl (lv_at hl 0 rfl) ?_
      refine va_get (D := D) (ci := 4) (v := .ref a9) (C := RX5) (T := TX5) (N := 21) hx hb hts hinX5 hown hE.1 hP 0 rfl rfl 18 (by decide) (hts _ (List.mem_of_getElem? (i := 4) rfl)) (fun _ h9 => h9) rfl dX5_write_33 ?_
      refine lv_iload_n hx hb dX5_write_36 rfl (lv_at hl 1 rfl) ?_
      obtain ⟨hi_4, h⟩ := ifs h
      refine va_iald hx hb hE.1 hP 9 0 rfl rfl hi_4 dX5_write_37 ?_
      refine lv_iconst (v := 1) hx hb dX5_write_38 (by decide) ?_
      refine lv_isub hx hb dX5_write_39 ?_
      refine kRi (rS C0 (tX5_within l D cI cS v2 0 ((sz v1.toNatClampNeg) - 1) (fX5_within v2 0 ((sz v1.toNatClampNeg) - 1)) rfl) gX5_write_X5_within rfl ⟨rfl, rfl⟩ pdX5_within rfl ⟨Nat.le_of_ble_eq_true rfl, Nat.le_of_ble_eq_true rfl⟩ (fun _ _ _ _ q => q) (fun _ _ _ _ => vp0) hl.1 rfl (Nat.le_of_ble_eq_true rfl) dX5_write_40 ⟨Nat.zero_le _, Nat.zero_le _⟩) ?_
      refine lv_if_ne (tgt := 53) hx hb dX5_write_43 (by decide) (fun c_5 => ?_) (fun c_5 => ?_)
      · have h := ifn c_5 h
        refine lv_aload_n hx hb dX5_write_53 rfl (lv_at hl 0 rfl) ?_
        refine va_get (D := D) (ci := 4) (v := .ref a10) (C := RX5) (T := TX5) (N := 21) hx hb hts hinX5 hown hE.1 hP 0 rfl rfl 19 (by decide) (hts _ (List.mem_of_getElem? (i := 5) rfl)) (fun _ h9 => h9) rfl dX5_write_54 ?_
        refine lv_bipush (v := 40) hx hb dX5_write_57 (by decide) ?_
        refine lv_iload_n hx hb dX5_write_59 rfl (lv_at hl 1 rfl) ?_
        refine lv_imul hx hb dX5_write_60 ?_
        refine lv_iload_n hx hb dX5_write_61 rfl (lv_at hl 2 rfl) ?_
        refine lv_iadd hx hb dX5_write_62 ?_
        refine lv_iload_n hx hb dX5_write_63 rfl (lv_at hl 3 rfl) ?_
        refine lv_aload_n hx hb dX5_write_64 rfl (lv_at hl 0 rfl) ?_
        refine va_get (D := D) (ci := 4) (v := .ref a8) (C := RX5) (T := TX5) (N := 21) hx hb hts hinX5 hown hE.1 hP 0 rfl rfl 17 (by decide) (hts _ (List.mem_of_getElem? (i := 2) rfl)) (fun _ h9 => h9) rfl dX5_write_65 ?_
        refine lv_iload_n hx hb dX5_write_68 rfl (lv_at hl 1 rfl) ?_
        obtain ⟨hi_6, h⟩ := ifs h
        refine va_iald hx hb hE.1 hP 8 0 rfl rfl hi_6 dX5_write_69 ?_
        refine kRi (rS C0 (tX5_cutTo l D cI cS v3 (wd v1.toNatClampNeg) (fX5_cutTo v3 (wd v1.toNatClampNeg)) rfl) gX5_write_X5_cutTo rfl ⟨rfl, rfl⟩ pdX5_cutTo rfl ⟨Nat.le_of_ble_eq_true rfl, Nat.le_of_ble_eq_true rfl⟩ (fun _ _ _ _ q => q) (fun _ _ _ _ => vp0) hl.1 rfl (Nat.le_of_ble_eq_true rfl) dX5_write_70 ⟨Nat.zero_le _, Nat.zero_le _⟩) ?_
        obtain ⟨hi_7, h⟩ := ifs h
        refine va_iast hx hb hE.1 hP (hD _ rfl) hS 10 0 rfl rfl hi_7 dX5_write_73 (fun H locs hP _ hS => ?_)
        have hP : va_P D vwCl (wX5 cI cS a0 a1 a2 a3 a4 a5 a6 a7 a8 a9 a10 a11 nw kp ad fd tp kn it wd sz (upd nm ((40 * v1) + v2).toNatClampNeg (fX5_cutTo v3 (wd v1.toNatClampNeg))) mv ik td bg en so va iw im st ht) H := hP
        refine lv_iconst (v := 1) hx hb dX5_write_74 (by decide) ?_
        obtain ⟨q0, g0⟩ := Prod.mk.inj (Option.some.inj h)
        obtain ⟨q1, q2⟩ := Prod.mk.inj g0
        subst q0 q1 q2
        exact eMi C0 hP hS rfl rfl dX5_write_75
      · have h := ifp c_5 h
        refine lv_aload_n hx hb dX5_write_46 rfl (lv_at hl 0 rfl) ?_
        refine lv_ldc (v := (-1000001)) hx hb hown (hts _ (List.mem_of_getElem? (i := 1) rfl)) dX5_write_47 ?_
        obtain ⟨z_8, e_9, h⟩ := bds h
        have hPc := hP.sub (ws' := (wX5 cI cS a0 a1 a2 a3 a4 a5 a6 a7 a8 a9 a10 a11 nw kp ad fd tp kn it wd sz nm mv ik td bg en so va iw im st ht)) [0, 1, 2, 3, 4, 5, 6, 7, 8, 9, 10, 11] rfl
        refine kMi (wf' := (wX5 cI cS a0 a1 a2 a3 a4 a5 a6 a7 a8 a9 a10 a11 nw kp ad z_8.2 tp kn it wd sz nm mv ik td bg en so va iw im st ht)) [0, 1, 2, 3, 4, 5, 6, 7, 8, 9, 10, 11] [some 0, some 1, some 2, some 3, some 4, some 5, some 6, some 7, some 8, some 9, some 10, some 11] (rV C0 (tX5_finding l D cI cS a0 a1 a2 a3 a4 a5 a6 a7 a8 a9 a10 a11 nw kp ad fd tp kn it wd sz nm mv ik td bg en so va iw im st ht (-1000001) z_8.1 z_8.2 e_9 (((hD (wX5 cI cS a0 a1 a2 a3 a4 a5 a6 a7 a8 a9 a10 a11 nw kp ad fd tp kn it wd sz nm mv ik td bg en so va iw im st ht) rfl).sub [0, 1, 2, 3, 4, 5, 6, 7, 8, 9, 10, 11] (by decide) rfl).weaken (fun _ _ _ _ => trivial))) RX5 gX5_write_X5_finding rfl ⟨rfl, rfl⟩ pdX5_finding rfl ⟨Nat.le_of_ble_eq_true rfl, Nat.le_of_ble_eq_true rfl⟩ (fun _ _ _ _ q => q) (va_recv hE.1 hPc (ci := 4) (q0 := 0) rfl rfl) (fun U hU _ _ => by rw [hU]; exact hPc) hl.1 rfl (Nat.le_of_ble_eq_true rfl) dX5_write_49 ⟨Nat.zero_le _, Nat.zero_le _⟩) hP (hD _ rfl) hS rfl rfl rfl (fun H locs hP hS => ?_)
        obtain ⟨q0, g0⟩ := Prod.mk.inj (Option.some.inj h)
        obtain ⟨q1, q2⟩ := Prod.mk.inj g0
        subst q0 q1 q2
        exact eMi C0 hP hS rfl rfl dX5_write_52
    · have h := ifp c_3 h
      refine lv_aload_n hx hb dX5_write_23 rfl (lv_at hl 0 rfl) ?_
      refine lv_ldc (v := (-1000006)) hx hb hown (hts _ (List.mem_of_getElem? (i := 3) rfl)) dX5_write_24 ?_
      obtain ⟨z_10, e_11, h⟩ := bds h
      have hPc := hP.sub (ws' := (wX5 cI cS a0 a1 a2 a3 a4 a5 a6 a7 a8 a9 a10 a11 nw kp ad fd tp kn it wd sz nm mv ik td bg en so va iw im st ht)) [0, 1, 2, 3, 4, 5, 6, 7, 8, 9, 10, 11] rfl
      refine kMi (wf' := (wX5 cI cS a0 a1 a2 a3 a4 a5 a6 a7 a8 a9 a10 a11 nw kp ad z_10.2 tp kn it wd sz nm mv ik td bg en so va iw im st ht)) [0, 1, 2, 3, 4, 5, 6, 7, 8, 9, 10, 11] [some 0, some 1, some 2, some 3, some 4, some 5, some 6, some 7, some 8, some 9, some 10, some 11] (rV C0 (tX5_finding l D cI cS a0 a1 a2 a3 a4 a5 a6 a7 a8 a9 a10 a11 nw kp ad fd tp kn it wd sz nm mv ik td bg en so va iw im st ht (-1000006) z_10.1 z_10.2 e_11 (((hD (wX5 cI cS a0 a1 a2 a3 a4 a5 a6 a7 a8 a9 a10 a11 nw kp ad fd tp kn it wd sz nm mv ik td bg en so va iw im st ht) rfl).sub [0, 1, 2, 3, 4, 5, 6, 7, 8, 9, 10, 11] (by decide) rfl).weaken (fun _ _ _ _ => trivial))) RX5 gX5_write_X5_finding rfl ⟨rfl, rfl⟩ pdX5_finding rfl ⟨Nat.le_of_ble_eq_true rfl, Nat.le_of_ble_eq_true rfl⟩ (fun _ _ _ _ q => q) (va_recv hE.1 hPc (ci := 4) (q0 := 0) rfl rfl) (fun U hU _ _ => by rw [hU]; exact hPc) hl.1 rfl (Nat.le_of_ble_eq_true rfl) dX5_write_26 ⟨Nat.zero_le _, Nat.zero_le _⟩) hP (hD _ rfl) hS rfl rfl rfl (fun H locs hP hS => ?_)
      obtain ⟨q0, g0⟩ := Prod.mk.inj (Option.some.inj h)
      obtain ⟨q1, q2⟩ := Prod.mk.inj g0
      subst q0 q1 q2
      exact eMi C0 hP hS rfl rfl dX5_write_29
  · have h := ifp c_1 h
    refine lv_aload_n hx hb dX5_write_7 rfl (lv_at hl 0 rfl) ?_
    refine lv_ldc (v := (-1000001)) hx hb hown (hts _ (List.mem_of_getElem? (i := 1) rfl)) dX5_write_8 ?_
    obtain ⟨z_12, e_13, h⟩ := bds h
    have hPc := hP.sub (ws' := (wX5 cI cS a0 a1 a2 a3 a4 a5 a6 a7 a8 a9 a10 a11 nw kp ad fd tp kn it wd sz nm mv ik td bg en so va iw im st ht)) [0, 1, 2, 3, 4, 5, 6, 7, 8, 9, 10, 11] rfl
    refine kMi (wf' := (wX5 cI cS a0 a1 a2 a3 a4 a5 a6 a7 a8 a9 a10 a11 nw kp ad z_12.2 tp kn it wd sz nm mv ik td bg en so va iw im st ht)) [0, 1, 2, 3, 4, 5, 6, 7, 8, 9, 10, 11] [some 0, some 1, some 2, some 3, some 4, some 5, some 6, some 7, some 8, some 9, some 10, some 11] (rV C0 (tX5_finding l D cI cS a0 a1 a2 a3 a4 a5 a6 a7 a8 a9 a10 a11 nw kp ad fd tp kn it wd sz nm mv ik td bg en so va iw im st ht (-1000001) z_12.1 z_12.2 e_13 (((hD (wX5 cI cS a0 a1 a2 a3 a4 a5 a6 a7 a8 a9 a10 a11 nw kp ad fd tp kn it wd sz nm mv ik td bg en so va iw im st ht) rfl).sub [0, 1, 2, 3, 4, 5, 6, 7, 8, 9, 10, 11] (by decide) rfl).weaken (fun _ _ _ _ => trivial))) RX5 gX5_write_X5_finding rfl ⟨rfl, rfl⟩ pdX5_finding rfl ⟨Nat.le_of_ble_eq_true rfl, Nat.le_of_ble_eq_true rfl⟩ (fun _ _ _ _ q => q) (va_recv hE.1 hPc (ci := 4) (q0 := 0) rfl rfl) (fun U hU _ _ => by rw [hU]; exact hPc) hl.1 rfl (Nat.le_of_ble_eq_true rfl) dX5_write_10 ⟨Nat.zero_le _, Nat.zero_le _⟩) hP (hD _ rfl) hS rfl rfl rfl (fun H locs hP hS => ?_)
    obtain ⟨q0, g0⟩ := Prod.mk.inj (Option.some.inj h)
    obtain ⟨q1, q2⟩ := Prod.mk.inj g0
    subst q0 q1 q2
    exact eMi C0 hP hS rfl rfl dX5_write_13
def fX5_copy_128 (k : (Nat → Int32) → Option (Int32 × (Nat → Int32) × (Nat → Int32) × (Nat → Int32))) (nm : Nat → Int32) (v1 : Int32) (v2 : Int32) (v5 : Int32) : Nat → Int32 → (Nat → Int32) → Option (Int32 × (Nat → Int32) × (Nat → Int32) × (Nat → Int32))
  | 0, _, _ => none
  | n + 1, v6, mv => (if v5 ≤ v6 then k mv else if ¬ ((((40 * v1) + v2) + v6) < 0 ∨ 160 ≤ (((40 * v1) + v2) + v6).toNatClampNeg) then if ¬ (v6 < 0 ∨ 40 ≤ v6.toNatClampNeg) then fX5_copy_128 k nm v1 v2 v5 n (v6 + 1) (upd mv v6.toNatClampNeg (nm (((40 * v1) + v2) + v6).toNatClampNeg)) else none else none)
def fX5_copy_165 (fd : Nat → Int32) (mv : Nat → Int32) (v3 : Int32) (v4 : Int32) (v5 : Int32) : Nat → Int32 → (Nat → Int32) → Option (Int32 × (Nat → Int32) × (Nat → Int32) × (Nat → Int32))
  | 0, _, _ => none
  | n + 1, v6, nm => (if v5 ≤ v6 then some (v5, fd, nm, mv) else if ¬ (v6 < 0 ∨ 40 ≤ v6.toNatClampNeg) then if ¬ ((((40 * v3) + v4) + v6) < 0 ∨ 160 ≤ (((40 * v3) + v4) + v6).toNatClampNeg) then fX5_copy_165 fd mv v3 v4 v5 n (v6 + 1) (upd nm (((40 * v3) + v4) + v6).toNatClampNeg (mv v6.toNatClampNeg)) else none else none)
def fX5_copy (F : Nat) (fd : Nat → Int32) (wd : Nat → Int32) (sz : Nat → Int32) (nm : Nat → Int32) (mv : Nat → Int32) (v1 : Int32) (v2 : Int32) (v3 : Int32) (v4 : Int32) (v5 : Int32) : Option (Int32 × (Nat → Int32) × (Nat → Int32) × (Nat → Int32)) := (if (fX5_isSheet v1) = 0 then Option.bind (fX5_finding fd (-1000001)) (fun z_2 => some (z_2.1, z_2.2, nm, mv)) else (if (fX5_isSheet v3) = 0 then Option.bind (fX5_finding fd (-1000001)) (fun z_42 => some (z_42.1, z_42.2, nm, mv)) else if ¬ (v1 < 0 ∨ 4 ≤ v1.toNatClampNeg) then (if (wd v1.toNatClampNeg) = 0 then Option.bind (fX5_finding fd (-1000006)) (fun z_7 => some (z_7.1, z_7.2, nm, mv)) else if ¬ (v3 < 0 ∨ 4 ≤ v3.toNatClampNeg) then (if (wd v3.toNatClampNeg) = 0 then Option.bind (fX5_finding fd (-1000006)) (fun z_40 => some (z_40.1, z_40.2, nm, mv)) else if ¬ (v1 < 0 ∨ 4 ≤ v1.toNatClampNeg) then if ¬ (v3 < 0 ∨ 4 ≤ v3.toNatClampNeg) then (if (wd v1.toNatClampNeg) = (wd v3.toNatClampNeg) then (if v2 < 0 then Option.bind (fX5_finding fd (-1000001)) (fun z_15 => some (z_15.1, z_15.2, nm, mv)) else (if v4 < 0 then Option.bind (fX5_finding fd (-1000001)) (fun z_18 => some (z_18.1, z_18.2, nm, mv)) else (if v5 < 0 then Option.bind (fX5_finding fd (-1000001)) (fun z_21 => some (z_21.1, z_21.2, nm, mv)) else if ¬ (v1 < 0 ∨ 4 ≤ v1.toNatClampNeg) then (if 0 < (lg_cmp (v2.toInt64 + v5.toInt64) ((sz v1.toNatClampNeg).toInt64)) then Option.bind (fX5_finding fd (-1000001)) (fun z_25 => some (z_25.1, z_25.2, nm, mv)) else if ¬ (v3 < 0 ∨ 4 ≤ v3.toNatClampNeg) then (if (lg_cmp (v4.toInt64 + v5.toInt64) ((sz v3.toNatClampNeg).toInt64)) ≤ 0 then fX5_copy_128 (fun mv__32 => fX5_copy_165 fd mv__32 v3 v4 v5 F 0 nm) nm v1 v2 v5 F 0 mv else Option.bind (fX5_finding fd (-1000001)) (fun z_36 => some (z_36.1, z_36.2, nm, mv))) else none) else none))) else Option.bind (fX5_finding fd (-1000003)) (fun z_38 => some (z_38.1, z_38.2, nm, mv))) else none else none) else none) else none))
abbrev rmX5_copy : Room := { frames := 2, cells := 0, slots := 0, locals := 42 }
theorem pdX5_copy : (yX5_copy.cls = RX5 ∧ yX5_copy.cls ≠ "java/lang/invoke/MethodHandle" ∧ yX5_copy.cls ≠ "java/lang/invoke/VarHandle" ∧ (parseMethodDescriptor yX5_copy.desc).map (fun d => d.parameters.length) = some 5) := by decide +kernel
set_option maxHeartbeats 4000000 in
set_option maxRecDepth 100000 in
theorem lX5_copy_128 {p : Program} {l : Launch} {e : Env} {s : State} {m : MethodId} {av : Array Value} {below : List Frame} {meth : Method} {c : Code} {D : va_G} {cI cS : ClassId} {a0 a1 a2 a3 a4 a5 a6 a7 a8 a9 a10 a11 : Nat} {W0 : va_W} (C0 : CX p s m av meth c RX5 cX5_copy 7 (some .int) wsX5_copy D cI cS) (F : Nat) (k : (Nat → Int32) → Option (Int32 × (Nat → Int32) × (Nat → Int32) × (Nat → Int32))) (nw : Nat → Int32) (kp : Nat → Int32) (ad : Nat → Int32) (fd : Nat → Int32) (tp : Nat → Int32) (kn : Nat → Option Nat) (it : Nat → Int32) (wd : Nat → Int32) (sz : Nat → Int32) (nm : Nat → Int32) (ik : Int32) (td : Int32) (bg : Int32) (en : Int32) (so : Int32) (va : Int32) (iw : Int32) (im : Int32) (st : Int32) (ht : Int32) (v1 : Int32) (v2 : Int32) (v3 : Int32) (v4 : Int32) (v5 : Int32) (z0 : Int32) (z1 : Nat → Int32) (z2 : Nat → Int32) (z3 : Nat → Int32) (hD : ∀ W : va_W, W.map Prod.fst = [a0, a1, a2, a3, a4, a5, a6, a7, a8, a9, a10, a11] → va_D (wA W0) W) (kk : ∀ (mv : Nat → Int32) (H : Heap) (locs : List Loc), va_P D vwCl (wX5 cI cS a0 a1 a2 a3 a4 a5 a6 a7 a8 a9 a10 a11 nw kp ad fd tp kn it wd sz nm mv ik td bg en so va iw im st ht) H → va_S (wA W0) s.heap H locs → ∀ (ls : Array Slot), lv_has ls 7 [(0, .ref a0), (3, .int v3), (4, .int v4), (5, .int v5)] → k mv = some (z0, z1, z2, z3) → W p l e rmX5_copy s m av below meth c H locs 0 0 (MQ below (qI D W0 (wX5 cI cS a0 a1 a2 a3 a4 a5 a6 a7 a8 a9 a10 a11 nw kp ad z1 tp kn it wd sz z2 z3 ik td bg en so va iw im st ht) z0) av s 0 0 (wA W0)) (F0 m 162 ls [])) : ∀ (n : Nat) (v6 : Int32) (mv : Nat → Int32) (H : Heap) (locs : List Loc), va_P D vwCl (wX5 cI cS a0 a1 a2 a3 a4 a5 a6 a7 a8 a9 a10 a11 nw kp ad fd tp kn it wd sz nm mv ik td bg en so va iw im st ht) H → va_S (wA W0) s.heap H locs → ∀ (ls : Array Slot), lv_has ls 7 [(0, .ref a0), (1, .int v1), (2, .int v2), (3, .int v3), (4, .int v4), (5, .int v5), (6, .int v6)] → fX5_copy_128 k nm v1 v2 v5 n v6 mv = some (z0, z1, z2, z3) → W p l e rmX5_copy s m av below meth c H locs 0 0 (MQ below (qI D W0 (wX5 cI cS a0 a1 a2 a3 a4 a5 a6 a7 a8 a9 a10 a11 nw kp ad z1 tp kn it wd sz z2 z3 ik td bg en so va iw im st ht) z0) av s 0 0 (wA W0)) (F0 m 128 ls []) := by
  obtain ⟨hx, hb, hr, hml, hown, hts, hlk, hE⟩ := id C0
  have hinX5 : ∀ w ∈ u_ws RX5 TX5 21, w ∈ wsX5_copy := by decide +kernel
  intro n
  induction n with
  | zero =>
    intro v6 mv H locs hP hS ls hl h
    cases (show none = some (z0, z1, z2, z3) from h)
  | succ n ih =>
    intro v6 mv H locs hP hS ls hl h
    rw [fX5_copy_128] at h
    refine lv_iload hx hb dX5_copy_128 (lv_at hl 6 rfl) ?_
    refine lv_iload hx hb dX5_copy_130 (lv_at hl 5 rfl) ?_
    refine lv_icmp_ge (tgt := 162) hx hb dX5_copy_132 (by decide) (fun c_29 => ?_) (fun c_29 => ?_)
    · have h := ifp c_29 h
      exact kk mv _ _ hP hS _ (lv_sub hl [0, 3, 4, 5] rfl) h
    · have h := ifn c_29 h
      refine lv_aload_n hx hb dX5_copy_135 rfl (lv_at hl 0 rfl) ?_
      refine va_get (D := D) (ci := 4) (v := .ref a11) (C := RX5) (T := TX5) (N := 21) hx hb hts hinX5 hown hE.1 hP 0 rfl rfl 20 (by decide) (hts _ (List.mem_of_getElem? (i := 6) rfl)) (fun _ h9 => h9) rfl dX5_copy_136 ?_
      refine lv_iload hx hb dX5_copy_139 (lv_at hl 6 rfl) ?_
      refine lv_aload_n hx hb dX5_copy_141 rfl (lv_at hl 0 rfl) ?_
      refine va_get (D := D) (ci := 4) (v := .ref a10) (C := RX5) (T := TX5) (N := 21) hx hb hts hinX5 hown hE.1 hP 0 rfl rfl 19 (by decide) (hts _ (List.mem_of_getElem? (i := 7) rfl)) (fun _ h9 => h9) rfl dX5_copy_142 ?_
      refine lv_bipush (v := 40) hx hb dX5_copy_145 (by decide) ?_
      refine lv_iload_n hx hb dX5_copy_147 rfl (lv_at hl 1 rfl) ?_
      refine lv_imul hx hb dX5_copy_148 ?_
      refine lv_iload_n hx hb dX5_copy_149 rfl (lv_at hl 2 rfl) ?_
      refine lv_iadd hx hb dX5_copy_150 ?_
      refine lv_iload hx hb dX5_copy_151 (lv_at hl 6 rfl) ?_
      refine lv_iadd hx hb dX5_copy_153 ?_
      obtain ⟨hi_30, h⟩ := ifs h
      refine va_iald hx hb hE.1 hP 10 0 rfl rfl hi_30 dX5_copy_154 ?_
      obtain ⟨hi_31, h⟩ := ifs h
      refine va_iast hx hb hE.1 hP (hD _ rfl) hS 11 0 rfl rfl hi_31 dX5_copy_155 (fun H locs hP _ hS => ?_)
      have hP : va_P D vwCl (wX5 cI cS a0 a1 a2 a3 a4 a5 a6 a7 a8 a9 a10 a11 nw kp ad fd tp kn it wd sz nm (upd mv v6.toNatClampNeg (nm (((40 * v1) + v2) + v6).toNatClampNeg)) ik td bg en so va iw im st ht) H := hP
      refine lv_iinc (v := v6 + 1) (lv' := [(6, .int (v6 + 1)), (0, .ref a0), (1, .int v1), (2, .int v2), (3, .int v3), (4, .int v4), (5, .int v5)]) hx hb dX5_copy_156 hl (k := 6) rfl rfl (by decide) rfl (fun ls hl => ?_)
      refine lv_goto (tgt := 128) hx hb dX5_copy_159 (by decide) ?_
      exact ih (v6 + 1) (upd mv v6.toNatClampNeg (nm (((40 * v1) + v2) + v6).toNatClampNeg)) _ _ hP hS _ (lv_sub hl [1, 2, 3, 4, 5, 6, 0] rfl) h
set_option maxHeartbeats 4000000 in
set_option maxRecDepth 100000 in
theorem lX5_copy_165 {p : Program} {l : Launch} {e : Env} {s : State} {m : MethodId} {av : Array Value} {below : List Frame} {meth : Method} {c : Code} {D : va_G} {cI cS : ClassId} {a0 a1 a2 a3 a4 a5 a6 a7 a8 a9 a10 a11 : Nat} {W0 : va_W} (C0 : CX p s m av meth c RX5 cX5_copy 7 (some .int) wsX5_copy D cI cS) (F : Nat) (nw : Nat → Int32) (kp : Nat → Int32) (ad : Nat → Int32) (fd : Nat → Int32) (tp : Nat → Int32) (kn : Nat → Option Nat) (it : Nat → Int32) (wd : Nat → Int32) (sz : Nat → Int32) (mv : Nat → Int32) (ik : Int32) (td : Int32) (bg : Int32) (en : Int32) (so : Int32) (va : Int32) (iw : Int32) (im : Int32) (st : Int32) (ht : Int32) (v3 : Int32) (v4 : Int32) (v5 : Int32) (z0 : Int32) (z1 : Nat → Int32) (z2 : Nat → Int32) (z3 : Nat → Int32) (hD : ∀ W : va_W, W.map Prod.fst = [a0, a1, a2, a3, a4, a5, a6, a7, a8, a9, a10, a11] → va_D (wA W0) W) : ∀ (n : Nat) (v6 : Int32) (nm : Nat → Int32) (H : Heap) (locs : List Loc), va_P D vwCl (wX5 cI cS a0 a1 a2 a3 a4 a5 a6 a7 a8 a9 a10 a11 nw kp ad fd tp kn it wd sz nm mv ik td bg en so va iw im st ht) H → va_S (wA W0) s.heap H locs → ∀ (ls : Array Slot), lv_has ls 7 [(0, .ref a0), (3, .int v3), (4, .int v4), (5, .int v5), (6, .int v6)] → fX5_copy_165 fd mv v3 v4 v5 n v6 nm = some (z0, z1, z2, z3) → W p l e rmX5_copy s m av below meth c H locs 0 0 (MQ below (qI D W0 (wX5 cI cS a0 a1 a2 a3 a4 a5 a6 a7 a8 a9 a10 a11 nw kp ad z1 tp kn it wd sz z2 z3 ik td bg en so va iw im st ht) z0) av s 0 0 (wA W0)) (F0 m 165 ls []) := by
  obtain ⟨hx, hb, hr, hml, hown, hts, hlk, hE⟩ := id C0
  have hinX5 : ∀ w ∈ u_ws RX5 TX5 21, w ∈ wsX5_copy := by decide +kernel
  intro n
  induction n with
  | zero =>
    intro v6 nm H locs hP hS ls hl h
    cases (show none = some (z0, z1, z2, z3) from h)
  | succ n ih =>
    intro v6 nm H locs hP hS ls hl h
    rw [fX5_copy_165] at h
    refine lv_iload hx hb dX5_copy_165 (lv_at hl 4 rfl) ?_
    refine lv_iload hx hb dX5_copy_167 (lv_at hl 3 rfl) ?_
    refine lv_icmp_ge (tgt := 200) hx hb dX5_copy_169 (by decide) (fun c_33 => ?_) (fun c_33 => ?_)
    · have h := ifp c_33 h
      refine lv_iload hx hb dX5_copy_200 (lv_at hl 3 rfl) ?_
      obtain ⟨q0, g0⟩ := Prod.mk.inj (Option.some.inj h)
      obtain ⟨q1, g1⟩ := Prod.mk.inj g0
      obtain ⟨q2, q3⟩ := Prod.mk.inj g1
      subst q0 q1 q2 q3
      exact eMi C0 hP hS rfl rfl dX5_copy_202
    · have h := ifn c_33 h
      refine lv_aload_n hx hb dX5_copy_172 rfl (lv_at hl 0 rfl) ?_
      refine va_get (D := D) (ci := 4) (v := .ref a10) (C := RX5) (T := TX5) (N := 21) hx hb hts hinX5 hown hE.1 hP 0 rfl rfl 19 (by decide) (hts _ (List.mem_of_getElem? (i := 7) rfl)) (fun _ h9 => h9) rfl dX5_copy_173 ?_
      refine lv_bipush (v := 40) hx hb dX5_copy_176 (by decide) ?_
      refine lv_iload_n hx hb dX5_copy_178 rfl (lv_at hl 1 rfl) ?_
      refine lv_imul hx hb dX5_copy_179 ?_
      refine lv_iload hx hb dX5_copy_180 (lv_at hl 2 rfl) ?_
      refine lv_iadd hx hb dX5_copy_182 ?_
      refine lv_iload hx hb dX5_copy_183 (lv_at hl 4 rfl) ?_
      refine lv_iadd hx hb dX5_copy_185 ?_
      refine lv_aload_n hx hb dX5_copy_186 rfl (lv_at hl 0 rfl) ?_
      refine va_get (D := D) (ci := 4) (v := .ref a11) (C := RX5) (T := TX5) (N := 21) hx hb hts hinX5 hown hE.1 hP 0 rfl rfl 20 (by decide) (hts _ (List.mem_of_getElem? (i := 6) rfl)) (fun _ h9 => h9) rfl dX5_copy_187 ?_
      refine lv_iload hx hb dX5_copy_190 (lv_at hl 4 rfl) ?_
      obtain ⟨hi_34, h⟩ := ifs h
      refine va_iald hx hb hE.1 hP 11 0 rfl rfl hi_34 dX5_copy_192 ?_
      obtain ⟨hi_35, h⟩ := ifs h
      refine va_iast hx hb hE.1 hP (hD _ rfl) hS 10 0 rfl rfl hi_35 dX5_copy_193 (fun H locs hP _ hS => ?_)
      have hP : va_P D vwCl (wX5 cI cS a0 a1 a2 a3 a4 a5 a6 a7 a8 a9 a10 a11 nw kp ad fd tp kn it wd sz (upd nm (((40 * v3) + v4) + v6).toNatClampNeg (mv v6.toNatClampNeg)) mv ik td bg en so va iw im st ht) H := hP
      refine lv_iinc (v := v6 + 1) (lv' := [(6, .int (v6 + 1)), (0, .ref a0), (3, .int v3), (4, .int v4), (5, .int v5)]) hx hb dX5_copy_194 hl (k := 4) rfl rfl (by decide) rfl (fun ls hl => ?_)
      refine lv_goto (tgt := 165) hx hb dX5_copy_197 (by decide) ?_
      exact ih (v6 + 1) (upd nm (((40 * v3) + v4) + v6).toNatClampNeg (mv v6.toNatClampNeg)) _ _ hP hS _ (lv_sub hl [1, 2, 3, 4, 0] rfl) h
set_option maxHeartbeats 4000000 in
set_option maxRecDepth 100000 in
theorem tX5_copy (l : Launch) (D : va_G) (cI cS : ClassId) (F : Nat) (a0 a1 a2 a3 a4 a5 a6 a7 a8 a9 a10 a11 : Nat) (nw : Nat → Int32) (kp : Nat → Int32) (ad : Nat → Int32) (fd : Nat → Int32) (tp : Nat → Int32) (kn : Nat → Option Nat) (it : Nat → Int32) (wd : Nat → Int32) (sz : Nat → Int32) (nm : Nat → Int32) (mv : Nat → Int32) (ik : Int32) (td : Int32) (bg : Int32) (en : Int32) (so : Int32) (va : Int32) (iw : Int32) (im : Int32) (st : Int32) (ht : Int32) (v1 : Int32) (v2 : Int32) (v3 : Int32) (v4 : Int32) (v5 : Int32) (z0 : Int32) (z1 : Nat → Int32) (z2 : Nat → Int32) (z3 : Nat → Int32) (h : fX5_copy F fd wd sz nm mv v1 v2 v3 v4 v5 = some (z0, z1, z2, z3)) (hD0 : va_D (fun _ => True) (wX5 cI cS a0 a1 a2 a3 a4 a5 a6 a7 a8 a9 a10 a11 nw kp ad fd tp kn it wd sz nm mv ik td bg en so va iw im st ht)) : Met l yX5_copy wsX5_copy rmX5_copy (PZ D cI cS [.ref a0, .int v1, .int v2, .int v3, .int v4, .int v5] (fun U => va_P D vwCl (wX5 cI cS a0 a1 a2 a3 a4 a5 a6 a7 a8 a9 a10 a11 nw kp ad fd tp kn it wd sz nm mv ik td bg en so va iw im st ht) U.heap)) (qI D (wX5 cI cS a0 a1 a2 a3 a4 a5 a6 a7 a8 a9 a10 a11 nw kp ad fd tp kn it wd sz nm mv ik td bg en so va iw im st ht) (wX5 cI cS a0 a1 a2 a3 a4 a5 a6 a7 a8 a9 a10 a11 nw kp ad z1 tp kn it wd sz z2 z3 ik td bg en so va iw im st ht) z0) 0 0 (wA (wX5 cI cS a0 a1 a2 a3 a4 a5 a6 a7 a8 a9 a10 a11 nw kp ad fd tp kn it wd sz nm mv ik td bg en so va iw im st ht)) := by
  refine Met.mk RX5 (by decide) rfl rfl (Nat.le_of_ble_eq_true rfl) ?_
  intro p e s m below meth c ls C0 hP hl
  have hl : lv_has ls 7 [(0, .ref a0), (1, .int v1), (2, .int v2), (3, .int v3), (4, .int v4), (5, .int v5)] := hl
  obtain ⟨hx, hb, hr, hml, hown, hts, hlk, hE⟩ := id C0
  have hinX5 : ∀ w ∈ u_ws RX5 TX5 21, w ∈ wsX5_copy := by decide +kernel
  have hD : ∀ W : va_W, W.map Prod.fst = [a0, a1, a2, a3, a4, a5, a6, a7, a8, a9, a10, a11] → va_D (wA (wX5 cI cS a0 a1 a2 a3 a4 a5 a6 a7 a8 a9 a10 a11 nw kp ad fd tp kn it wd sz nm mv ik td bg en so va iw im st ht)) W := fun W hW => hD0.own.re hW
  have hS : va_S (wA (wX5 cI cS a0 a1 a2 a3 a4 a5 a6 a7 a8 a9 a10 a11 nw kp ad fd tp kn it wd sz nm mv ik td bg en so va iw im st ht)) s.heap s.heap [] := va_S.rf
  have hP : va_P D vwCl (wX5 cI cS a0 a1 a2 a3 a4 a5 a6 a7 a8 a9 a10 a11 nw kp ad fd tp kn it wd sz nm mv ik td bg en so va iw im st ht) s.heap := hP
  rw [fX5_copy] at h
  refine lv_iload_n hx hb dX5_copy_0 rfl (lv_at hl 1 rfl) ?_
  refine kRi (rS C0 (tX5_isSheet l D cI cS v1 (fX5_isSheet v1) rfl) gX5_copy_X5_isSheet rfl ⟨rfl, rfl⟩ pdX5_isSheet rfl ⟨Nat.le_of_ble_eq_true rfl, Nat.le_of_ble_eq_true rfl⟩ (fun _ _ _ _ q => q) (fun _ _ _ _ => vp0) hl.1 rfl (Nat.le_of_ble_eq_true rfl) dX5_copy_1 ⟨Nat.zero_le _, Nat.zero_le _⟩) ?_
  refine lv_if_eq (tgt := 14) hx hb dX5_copy_4 (by decide) (fun c_1 => ?_) (fun c_1 => ?_)
  · have h := ifp c_1 h
    refine lv_aload_n hx hb dX5_copy_14 rfl (lv_at hl 0 rfl) ?_
    refine lv_ldc (v := (-1000001)) hx hb hown (hts _ (List.mem_of_getElem? (i := 1) rfl)) dX5_copy_15 ?_
    obtain ⟨z_2, e_3, h⟩ := bds h
    have hPc := hP.sub (ws' := (wX5 cI cS a0 a1 a2 a3 a4 a5 a6 a7 a8 a9 a10 a11 nw kp ad fd tp kn it wd sz nm mv ik td bg en so va iw im st ht)) [0, 1, 2, 3, 4, 5, 6, 7, 8, 9, 10, 11] rfl
    refine kMi (wf' := (wX5 cI cS a0 a1 a2 a3 a4 a5 a6 a7 a8 a9 a10 a11 nw kp ad z_2.2 tp kn it wd sz nm mv ik td bg en so va iw im st ht)) [0, 1, 2, 3, 4, 5, 6, 7, 8, 9, 10, 11] [some 0, some 1, some 2, some 3, some 4, some 5, some 6, some 7, some 8, some 9, some 10, some 11] (rV C0 (tX5_finding l D cI cS a0 a1 a2 a3 a4 a5 a6 a7 a8 a9 a10 a11 nw kp ad fd tp kn it wd sz nm mv ik td bg en so va iw im st ht (-1000001) z_2.1 z_2.2 e_3 (((hD (wX5 cI cS a0 a1 a2 a3 a4 a5 a6 a7 a8 a9 a10 a11 nw kp ad fd tp kn it wd sz nm mv ik td bg en so va iw im st ht) rfl).sub [0, 1, 2, 3, 4, 5, 6, 7, 8, 9, 10, 11] (by decide) rfl).weaken (fun _ _ _ _ => trivial))) RX5 gX5_copy_X5_finding rfl ⟨rfl, rfl⟩ pdX5_finding rfl ⟨Nat.le_of_ble_eq_true rfl, Nat.le_of_ble_eq_true rfl⟩ (fun _ _ _ _ q => q) (va_recv hE.1 hPc (ci := 4) (q0 := 0) rfl rfl) (fun U hU _ _ => by rw [hU]; exact hPc) hl.1 rfl (Nat.le_of_ble_eq_true rfl) dX5_copy_17 ⟨Nat.zero_le _, Nat.zero_le _⟩) hP (hD _ rfl) hS rfl rfl rfl (fun H locs hP hS => ?_)
    obtain ⟨q0, g0⟩ := Prod.mk.inj (Option.some.inj h)
    obtain ⟨q1, g1⟩ := Prod.mk.inj g0
    obtain ⟨q2, q3⟩ := Prod.mk.inj g1
    subst q0 q1 q2 q3
    exact eMi C0 hP hS rfl rfl dX5_copy_20
  · have h := ifn c_1 h
    refine lv_iload_n hx hb dX5_copy_7 rfl (lv_at hl 3 rfl) ?_
    refine kRi (rS C0 (tX5_isSheet l D cI cS v3 (fX5_isSheet v3) rfl) gX5_copy_X5_isSheet rfl ⟨rfl, rfl⟩ pdX5_isSheet rfl ⟨Nat.le_of_ble_eq_true rfl, Nat.le_of_ble_eq_true rfl⟩ (fun _ _ _ _ q => q) (fun _ _ _ _ => vp0) hl.1 rfl (Nat.le_of_ble_eq_true rfl) dX5_copy_8 ⟨Nat.zero_le _, Nat.zero_le _⟩) ?_
    refine lv_if_ne (tgt := 21) hx hb dX5_copy_11 (by decide) (fun c_4 => ?_) (fun c_4 => ?_)
    · have h := ifn c_4 h
      refine lv_aload_n hx hb dX5_copy_21 rfl (lv_at hl 0 rfl) ?_
      refine va_get (D := D) (ci := 4) (v := .ref a8) (C := RX5) (T := TX5) (N := 21) hx hb hts hinX5 hown hE.1 hP 0 rfl rfl 17 (by decide) (hts _ (List.mem_of_getElem? (i := 2) rfl)) (fun _ h9 => h9) rfl dX5_copy_22 ?_
      refine lv_iload_n hx hb dX5_copy_25 rfl (lv_at hl 1 rfl) ?_
      obtain ⟨hi_5, h⟩ := ifs h
      refine va_iald hx hb hE.1 hP 8 0 rfl rfl hi_5 dX5_copy_26 ?_
      refine lv_if_eq (tgt := 39) hx hb dX5_copy_27 (by decide) (fun c_6 => ?_) (fun c_6 => ?_)
      · have h := ifp c_6 h
        refine lv_aload_n hx hb dX5_copy_39 rfl (lv_at hl 0 rfl) ?_
        refine lv_ldc (v := (-1000006)) hx hb hown (hts _ (List.mem_of_getElem? (i := 3) rfl)) dX5_copy_40 ?_
        obtain ⟨z_7, e_8, h⟩ := bds h
        have hPc := hP.sub (ws' := (wX5 cI cS a0 a1 a2 a3 a4 a5 a6 a7 a8 a9 a10 a11 nw kp ad fd tp kn it wd sz nm mv ik td bg en so va iw im st ht)) [0, 1, 2, 3, 4, 5, 6, 7, 8, 9, 10, 11] rfl
        refine kMi (wf' := (wX5 cI cS a0 a1 a2 a3 a4 a5 a6 a7 a8 a9 a10 a11 nw kp ad z_7.2 tp kn it wd sz nm mv ik td bg en so va iw im st ht)) [0, 1, 2, 3, 4, 5, 6, 7, 8, 9, 10, 11] [some 0, some 1, some 2, some 3, some 4, some 5, some 6, some 7, some 8, some 9, some 10, some 11] (rV C0 (tX5_finding l D cI cS a0 a1 a2 a3 a4 a5 a6 a7 a8 a9 a10 a11 nw kp ad fd tp kn it wd sz nm mv ik td bg en so va iw im st ht (-1000006) z_7.1 z_7.2 e_8 (((hD (wX5 cI cS a0 a1 a2 a3 a4 a5 a6 a7 a8 a9 a10 a11 nw kp ad fd tp kn it wd sz nm mv ik td bg en so va iw im st ht) rfl).sub [0, 1, 2, 3, 4, 5, 6, 7, 8, 9, 10, 11] (by decide) rfl).weaken (fun _ _ _ _ => trivial))) RX5 gX5_copy_X5_finding rfl ⟨rfl, rfl⟩ pdX5_finding rfl ⟨Nat.le_of_ble_eq_true rfl, Nat.le_of_ble_eq_true rfl⟩ (fun _ _ _ _ q => q) (va_recv hE.1 hPc (ci := 4) (q0 := 0) rfl rfl) (fun U hU _ _ => by rw [hU]; exact hPc) hl.1 rfl (Nat.le_of_ble_eq_true rfl) dX5_copy_42 ⟨Nat.zero_le _, Nat.zero_le _⟩) hP (hD _ rfl) hS rfl rfl rfl (fun H locs hP hS => ?_)
        obtain ⟨q0, g0⟩ := Prod.mk.inj (Option.some.inj h)
        obtain ⟨q1, g1⟩ := Prod.mk.inj g0
        obtain ⟨q2, q3⟩ := Prod.mk.inj g1
        subst q0 q1 q2 q3
        exact eMi C0 hP hS rfl rfl dX5_copy_45
      · have h := ifn c_6 h
        refine lv_aload_n hx hb dX5_copy_30 rfl (lv_at hl 0 rfl) ?_
        refine va_get (D := D) (ci := 4) (v := .ref a8) (C := RX5) (T := TX5) (N := 21) hx hb hts hinX5 hown hE.1 hP 0 rfl rfl 17 (by decide) (hts _ (List.mem_of_getElem? (i := 2) rfl)) (fun _ h9 => h9) rfl dX5_copy_31 ?_
        refine lv_iload_n hx hb dX5_copy_34 rfl (lv_at hl 3 rfl) ?_
        obtain ⟨hi_9, h⟩ := ifs h
        refine va_iald hx hb hE.1 hP 8 0 rfl rfl hi_9 dX5_copy_35 ?_
        refine lv_if_ne (tgt := 46) hx hb dX5_copy_36 (by decide) (fun c_10 => ?_) (fun c_10 => ?_)
        · have h := ifn c_10 h
          refine lv_aload_n hx hb dX5_copy_46 rfl (lv_at hl 0 rfl) ?_
          refine va_get (D := D) (ci := 4) (v := .ref a8) (C := RX5) (T := TX5) (N := 21) hx hb hts hinX5 hown hE.1 hP 0 rfl rfl 17 (by decide) (hts _ (List.mem_of_getElem? (i := 2) rfl)) (fun _ h9 => h9) rfl dX5_copy_47 ?_
          refine lv_iload_n hx hb dX5_copy_50 rfl (lv_at hl 1 rfl) ?_
          obtain ⟨hi_11, h⟩ := ifs h
          refine va_iald hx hb hE.1 hP 8 0 rfl rfl hi_11 dX5_copy_51 ?_
          refine lv_aload_n hx hb dX5_copy_52 rfl (lv_at hl 0 rfl) ?_
          refine va_get (D := D) (ci := 4) (v := .ref a8) (C := RX5) (T := TX5) (N := 21) hx hb hts hinX5 hown hE.1 hP 0 rfl rfl 17 (by decide) (hts _ (List.mem_of_getElem? (i := 2) rfl)) (fun _ h9 => h9) rfl dX5_copy_53 ?_
          refine lv_iload_n hx hb dX5_copy_56 rfl (lv_at hl 3 rfl) ?_
          obtain ⟨hi_12, h⟩ := ifs h
          refine va_iald hx hb hE.1 hP 8 0 rfl rfl hi_12 dX5_copy_57 ?_
          refine lv_icmp_eq (tgt := 69) hx hb dX5_copy_58 (by decide) (fun c_13 => ?_) (fun c_13 => ?_)
          · have h := ifp c_13 h
            refine lv_iload_n hx hb dX5_copy_69 rfl (lv_at hl 2 rfl) ?_
            refine lv_if_lt (tgt := 118) hx hb dX5_copy_70 (by decide) (fun c_14 => ?_) (fun c_14 => ?_)
            · have h := ifp c_14 h
              refine lv_aload_n hx hb dX5_copy_118 rfl (lv_at hl 0 rfl) ?_
              refine lv_ldc (v := (-1000001)) hx hb hown (hts _ (List.mem_of_getElem? (i := 1) rfl)) dX5_copy_119 ?_
              obtain ⟨z_15, e_16, h⟩ := bds h
              have hPc := hP.sub (ws' := (wX5 cI cS a0 a1 a2 a3 a4 a5 a6 a7 a8 a9 a10 a11 nw kp ad fd tp kn it wd sz nm mv ik td bg en so va iw im st ht)) [0, 1, 2, 3, 4, 5, 6, 7, 8, 9, 10, 11] rfl
              refine kMi (wf' := (wX5 cI cS a0 a1 a2 a3 a4 a5 a6 a7 a8 a9 a10 a11 nw kp ad z_15.2 tp kn it wd sz nm mv ik td bg en so va iw im st ht)) [0, 1, 2, 3, 4, 5, 6, 7, 8, 9, 10, 11] [some 0, some 1, some 2, some 3, some 4, some 5, some 6, some 7, some 8, some 9, some 10, some 11] (rV C0 (tX5_finding l D cI cS a0 a1 a2 a3 a4 a5 a6 a7 a8 a9 a10 a11 nw kp ad fd tp kn it wd sz nm mv ik td bg en so va iw im st ht (-1000001) z_15.1 z_15.2 e_16 (((hD (wX5 cI cS a0 a1 a2 a3 a4 a5 a6 a7 a8 a9 a10 a11 nw kp ad fd tp kn it wd sz nm mv ik td bg en so va iw im st ht) rfl).sub [0, 1, 2, 3, 4, 5, 6, 7, 8, 9, 10, 11] (by decide) rfl).weaken (fun _ _ _ _ => trivial))) RX5 gX5_copy_X5_finding rfl ⟨rfl, rfl⟩ pdX5_finding rfl ⟨Nat.le_of_ble_eq_true rfl, Nat.le_of_ble_eq_true rfl⟩ (fun _ _ _ _ q => q) (va_recv hE.1 hPc (ci := 4) (q0 := 0) rfl rfl) (fun U hU _ _ => by rw [hU]; exact hPc) hl.1 rfl (Nat.le_of_ble_eq_true rfl) dX5_copy_121 ⟨Nat.zero_le _, Nat.zero_le _⟩) hP (hD _ rfl) hS rfl rfl rfl (fun H locs hP hS => ?_)
              obtain ⟨q0, g0⟩ := Prod.mk.inj (Option.some.inj h)
              obtain ⟨q1, g1⟩ := Prod.mk.inj g0
              obtain ⟨q2, q3⟩ := Prod.mk.inj g1
              subst q0 q1 q2 q3
              exact eMi C0 hP hS rfl rfl dX5_copy_124
            · have h := ifn c_14 h
              refine lv_iload hx hb dX5_copy_73 (lv_at hl 4 rfl) ?_
              refine lv_if_lt (tgt := 118) hx hb dX5_copy_75 (by decide) (fun c_17 => ?_) (fun c_17 => ?_)
              · have h := ifp c_17 h
                refine lv_aload_n hx hb dX5_copy_118 rfl (lv_at hl 0 rfl) ?_
                refine lv_ldc (v := (-1000001)) hx hb hown (hts _ (List.mem_of_getElem? (i := 1) rfl)) dX5_copy_119 ?_
                obtain ⟨z_18, e_19, h⟩ := bds h
                have hPc := hP.sub (ws' := (wX5 cI cS a0 a1 a2 a3 a4 a5 a6 a7 a8 a9 a10 a11 nw kp ad fd tp kn it wd sz nm mv ik td bg en so va iw im st ht)) [0, 1, 2, 3, 4, 5, 6, 7, 8, 9, 10, 11] rfl
                refine kMi (wf' := (wX5 cI cS a0 a1 a2 a3 a4 a5 a6 a7 a8 a9 a10 a11 nw kp ad z_18.2 tp kn it wd sz nm mv ik td bg en so va iw im st ht)) [0, 1, 2, 3, 4, 5, 6, 7, 8, 9, 10, 11] [some 0, some 1, some 2, some 3, some 4, some 5, some 6, some 7, some 8, some 9, some 10, some 11] (rV C0 (tX5_finding l D cI cS a0 a1 a2 a3 a4 a5 a6 a7 a8 a9 a10 a11 nw kp ad fd tp kn it wd sz nm mv ik td bg en so va iw im st ht (-1000001) z_18.1 z_18.2 e_19 (((hD (wX5 cI cS a0 a1 a2 a3 a4 a5 a6 a7 a8 a9 a10 a11 nw kp ad fd tp kn it wd sz nm mv ik td bg en so va iw im st ht) rfl).sub [0, 1, 2, 3, 4, 5, 6, 7, 8, 9, 10, 11] (by decide) rfl).weaken (fun _ _ _ _ => trivial))) RX5 gX5_copy_X5_finding rfl ⟨rfl, rfl⟩ pdX5_finding rfl ⟨Nat.le_of_ble_eq_true rfl, Nat.le_of_ble_eq_true rfl⟩ (fun _ _ _ _ q => q) (va_recv hE.1 hPc (ci := 4) (q0 := 0) rfl rfl) (fun U hU _ _ => by rw [hU]; exact hPc) hl.1 rfl (Nat.le_of_ble_eq_true rfl) dX5_copy_121 ⟨Nat.zero_le _, Nat.zero_le _⟩) hP (hD _ rfl) hS rfl rfl rfl (fun H locs hP hS => ?_)
                obtain ⟨q0, g0⟩ := Prod.mk.inj (Option.some.inj h)
                obtain ⟨q1, g1⟩ := Prod.mk.inj g0
                obtain ⟨q2, q3⟩ := Prod.mk.inj g1
                subst q0 q1 q2 q3
                exact eMi C0 hP hS rfl rfl dX5_copy_124
              · have h := ifn c_17 h
                refine lv_iload hx hb dX5_copy_78 (lv_at hl 5 rfl) ?_
                refine lv_if_lt (tgt := 118) hx hb dX5_copy_80 (by decide) (fun c_20 => ?_) (fun c_20 => ?_)
                · have h := ifp c_20 h
                  refine lv_aload_n hx hb dX5_copy_118 rfl (lv_at hl 0 rfl) ?_
                  refine lv_ldc (v := (-1000001)) hx hb hown (hts _ (List.mem_of_getElem? (i := 1) rfl)) dX5_copy_119 ?_
                  obtain ⟨z_21, e_22, h⟩ := bds h
                  have hPc := hP.sub (ws' := (wX5 cI cS a0 a1 a2 a3 a4 a5 a6 a7 a8 a9 a10 a11 nw kp ad fd tp kn it wd sz nm mv ik td bg en so va iw im st ht)) [0, 1, 2, 3, 4, 5, 6, 7, 8, 9, 10, 11] rfl
                  refine kMi (wf' := (wX5 cI cS a0 a1 a2 a3 a4 a5 a6 a7 a8 a9 a10 a11 nw kp ad z_21.2 tp kn it wd sz nm mv ik td bg en so va iw im st ht)) [0, 1, 2, 3, 4, 5, 6, 7, 8, 9, 10, 11] [some 0, some 1, some 2, some 3, some 4, some 5, some 6, some 7, some 8, some 9, some 10, some 11] (rV C0 (tX5_finding l D cI cS a0 a1 a2 a3 a4 a5 a6 a7 a8 a9 a10 a11 nw kp ad fd tp kn it wd sz nm mv ik td bg en so va iw im st ht (-1000001) z_21.1 z_21.2 e_22 (((hD (wX5 cI cS a0 a1 a2 a3 a4 a5 a6 a7 a8 a9 a10 a11 nw kp ad fd tp kn it wd sz nm mv ik td bg en so va iw im st ht) rfl).sub [0, 1, 2, 3, 4, 5, 6, 7, 8, 9, 10, 11] (by decide) rfl).weaken (fun _ _ _ _ => trivial))) RX5 gX5_copy_X5_finding rfl ⟨rfl, rfl⟩ pdX5_finding rfl ⟨Nat.le_of_ble_eq_true rfl, Nat.le_of_ble_eq_true rfl⟩ (fun _ _ _ _ q => q) (va_recv hE.1 hPc (ci := 4) (q0 := 0) rfl rfl) (fun U hU _ _ => by rw [hU]; exact hPc) hl.1 rfl (Nat.le_of_ble_eq_true rfl) dX5_copy_121 ⟨Nat.zero_le _, Nat.zero_le _⟩) hP (hD _ rfl) hS rfl rfl rfl (fun H locs hP hS => ?_)
                  obtain ⟨q0, g0⟩ := Prod.mk.inj (Option.some.inj h)
                  obtain ⟨q1, g1⟩ := Prod.mk.inj g0
                  obtain ⟨q2, q3⟩ := Prod.mk.inj g1
                  subst q0 q1 q2 q3
                  exact eMi C0 hP hS rfl rfl dX5_copy_124
                · have h := ifn c_20 h
                  refine lv_iload_n hx hb dX5_copy_83 rfl (lv_at hl 2 rfl) ?_
                  refine lv_i2l (v := v2.toInt64) hx hb dX5_copy_84 rfl ?_
                  refine lv_iload hx hb dX5_copy_85 (lv_at hl 5 rfl) ?_
                  refine lv_i2l (v := v5.toInt64) hx hb dX5_copy_87 rfl ?_
                  refine lv_ladd hx hb dX5_copy_88 ?_
                  refine lv_aload_n hx hb dX5_copy_89 rfl (lv_at hl 0 rfl) ?_
                  refine va_get (D := D) (ci := 4) (v := .ref a9) (C := RX5) (T := TX5) (N := 21) hx hb hts hinX5 hown hE.1 hP 0 rfl rfl 18 (by decide) (hts _ (List.mem_of_getElem? (i := 5) rfl)) (fun _ h9 => h9) rfl dX5_copy_90 ?_
                  refine lv_iload_n hx hb dX5_copy_93 rfl (lv_at hl 1 rfl) ?_
                  obtain ⟨hi_23, h⟩ := ifs h
                  refine va_iald hx hb hE.1 hP 9 0 rfl rfl hi_23 dX5_copy_94 ?_
                  refine lv_i2l (v := (sz v1.toNatClampNeg).toInt64) hx hb dX5_copy_95 rfl ?_
                  refine W.lcmp hx hb dX5_copy_96 ?_
                  refine lv_if_gt (tgt := 118) hx hb dX5_copy_97 (by decide) (fun c_24 => ?_) (fun c_24 => ?_)
                  · have h := ifp c_24 h
                    refine lv_aload_n hx hb dX5_copy_118 rfl (lv_at hl 0 rfl) ?_
                    refine lv_ldc (v := (-1000001)) hx hb hown (hts _ (List.mem_of_getElem? (i := 1) rfl)) dX5_copy_119 ?_
                    obtain ⟨z_25, e_26, h⟩ := bds h
                    have hPc := hP.sub (ws' := (wX5 cI cS a0 a1 a2 a3 a4 a5 a6 a7 a8 a9 a10 a11 nw kp ad fd tp kn it wd sz nm mv ik td bg en so va iw im st ht)) [0, 1, 2, 3, 4, 5, 6, 7, 8, 9, 10, 11] rfl
                    refine kMi (wf' := (wX5 cI cS a0 a1 a2 a3 a4 a5 a6 a7 a8 a9 a10 a11 nw kp ad z_25.2 tp kn it wd sz nm mv ik td bg en so va iw im st ht)) [0, 1, 2, 3, 4, 5, 6, 7, 8, 9, 10, 11] [some 0, some 1, some 2, some 3, some 4, some 5, some 6, some 7, some 8, some 9, some 10, some 11] (rV C0 (tX5_finding l D cI cS a0 a1 a2 a3 a4 a5 a6 a7 a8 a9 a10 a11 nw kp ad fd tp kn it wd sz nm mv ik td bg en so va iw im st ht (-1000001) z_25.1 z_25.2 e_26 (((hD (wX5 cI cS a0 a1 a2 a3 a4 a5 a6 a7 a8 a9 a10 a11 nw kp ad fd tp kn it wd sz nm mv ik td bg en so va iw im st ht) rfl).sub [0, 1, 2, 3, 4, 5, 6, 7, 8, 9, 10, 11] (by decide) rfl).weaken (fun _ _ _ _ => trivial))) RX5 gX5_copy_X5_finding rfl ⟨rfl, rfl⟩ pdX5_finding rfl ⟨Nat.le_of_ble_eq_true rfl, Nat.le_of_ble_eq_true rfl⟩ (fun _ _ _ _ q => q) (va_recv hE.1 hPc (ci := 4) (q0 := 0) rfl rfl) (fun U hU _ _ => by rw [hU]; exact hPc) hl.1 rfl (Nat.le_of_ble_eq_true rfl) dX5_copy_121 ⟨Nat.zero_le _, Nat.zero_le _⟩) hP (hD _ rfl) hS rfl rfl rfl (fun H locs hP hS => ?_)
                    obtain ⟨q0, g0⟩ := Prod.mk.inj (Option.some.inj h)
                    obtain ⟨q1, g1⟩ := Prod.mk.inj g0
                    obtain ⟨q2, q3⟩ := Prod.mk.inj g1
                    subst q0 q1 q2 q3
                    exact eMi C0 hP hS rfl rfl dX5_copy_124
                  · have h := ifn c_24 h
                    refine lv_iload hx hb dX5_copy_100 (lv_at hl 4 rfl) ?_
                    refine lv_i2l (v := v4.toInt64) hx hb dX5_copy_102 rfl ?_
                    refine lv_iload hx hb dX5_copy_103 (lv_at hl 5 rfl) ?_
                    refine lv_i2l (v := v5.toInt64) hx hb dX5_copy_105 rfl ?_
                    refine lv_ladd hx hb dX5_copy_106 ?_
                    refine lv_aload_n hx hb dX5_copy_107 rfl (lv_at hl 0 rfl) ?_
                    refine va_get (D := D) (ci := 4) (v := .ref a9) (C := RX5) (T := TX5) (N := 21) hx hb hts hinX5 hown hE.1 hP 0 rfl rfl 18 (by decide) (hts _ (List.mem_of_getElem? (i := 5) rfl)) (fun _ h9 => h9) rfl dX5_copy_108 ?_
                    refine lv_iload_n hx hb dX5_copy_111 rfl (lv_at hl 3 rfl) ?_
                    obtain ⟨hi_27, h⟩ := ifs h
                    refine va_iald hx hb hE.1 hP 9 0 rfl rfl hi_27 dX5_copy_112 ?_
                    refine lv_i2l (v := (sz v3.toNatClampNeg).toInt64) hx hb dX5_copy_113 rfl ?_
                    refine W.lcmp hx hb dX5_copy_114 ?_
                    refine lv_if_le (tgt := 125) hx hb dX5_copy_115 (by decide) (fun c_28 => ?_) (fun c_28 => ?_)
                    · have h := ifp c_28 h
                      refine lv_iconst (v := 0) hx hb dX5_copy_125 (by decide) ?_
                      refine lv_istore (lv' := [(6, .int 0), (0, .ref a0), (1, .int v1), (2, .int v2), (3, .int v3), (4, .int v4), (5, .int v5)]) hx hb dX5_copy_126 hl (by decide) rfl (fun ls hl => ?_)
                      refine lX5_copy_128 (l := l) (e := e) (below := below) C0 F _ nw kp ad fd tp kn it wd sz nm ik td bg en so va iw im st ht v1 v2 v3 v4 v5 z0 z1 z2 z3 hD (fun mv__32 H locs hP hS ls hl h => ?_) F 0 mv _ _ hP hS _ (lv_sub hl [1, 2, 3, 4, 5, 6, 0] rfl) h
                      refine lv_iconst (v := 0) hx hb dX5_copy_162 (by decide) ?_
                      refine lv_istore (lv' := [(6, .int 0), (0, .ref a0), (3, .int v3), (4, .int v4), (5, .int v5)]) hx hb dX5_copy_163 hl (by decide) rfl (fun ls hl => ?_)
                      exact lX5_copy_165 (l := l) (e := e) (below := below) C0 F nw kp ad fd tp kn it wd sz mv__32 ik td bg en so va iw im st ht v3 v4 v5 z0 z1 z2 z3 hD F 0 nm _ _ hP hS _ (lv_sub hl [1, 2, 3, 4, 0] rfl) h
                    · have h := ifn c_28 h
                      refine lv_aload_n hx hb dX5_copy_118 rfl (lv_at hl 0 rfl) ?_
                      refine lv_ldc (v := (-1000001)) hx hb hown (hts _ (List.mem_of_getElem? (i := 1) rfl)) dX5_copy_119 ?_
                      obtain ⟨z_36, e_37, h⟩ := bds h
                      have hPc := hP.sub (ws' := (wX5 cI cS a0 a1 a2 a3 a4 a5 a6 a7 a8 a9 a10 a11 nw kp ad fd tp kn it wd sz nm mv ik td bg en so va iw im st ht)) [0, 1, 2, 3, 4, 5, 6, 7, 8, 9, 10, 11] rfl
                      refine kMi (wf' := (wX5 cI cS a0 a1 a2 a3 a4 a5 a6 a7 a8 a9 a10 a11 nw kp ad z_36.2 tp kn it wd sz nm mv ik td bg en so va iw im st ht)) [0, 1, 2, 3, 4, 5, 6, 7, 8, 9, 10, 11] [some 0, some 1, some 2, some 3, some 4, some 5, some 6, some 7, some 8, some 9, some 10, some 11] (rV C0 (tX5_finding l D cI cS a0 a1 a2 a3 a4 a5 a6 a7 a8 a9 a10 a11 nw kp ad fd tp kn it wd sz nm mv ik td bg en so va iw im st ht (-1000001) z_36.1 z_36.2 e_37 (((hD (wX5 cI cS a0 a1 a2 a3 a4 a5 a6 a7 a8 a9 a10 a11 nw kp ad fd tp kn it wd sz nm mv ik td bg en so va iw im st ht) rfl).sub [0, 1, 2, 3, 4, 5, 6, 7, 8, 9, 10, 11] (by decide) rfl).weaken (fun _ _ _ _ => trivial))) RX5 gX5_copy_X5_finding rfl ⟨rfl, rfl⟩ pdX5_finding rfl ⟨Nat.le_of_ble_eq_true rfl, Nat.le_of_ble_eq_true rfl⟩ (fun _ _ _ _ q => q) (va_recv hE.1 hPc (ci := 4) (q0 := 0) rfl rfl) (fun U hU _ _ => by rw [hU]; exact hPc) hl.1 rfl (Nat.le_of_ble_eq_true rfl) dX5_copy_121 ⟨Nat.zero_le _, Nat.zero_le _⟩) hP (hD _ rfl) hS rfl rfl rfl (fun H locs hP hS => ?_)
                      obtain ⟨q0, g0⟩ := Prod.mk.inj (Option.some.inj h)
                      obtain ⟨q1, g1⟩ := Prod.mk.inj g0
                      obtain ⟨q2, q3⟩ := Prod.mk.inj g1
                      subst q0 q1 q2 q3
                      exact eMi C0 hP hS rfl rfl dX5_copy_124
          · have h := ifn c_13 h
            refine lv_aload_n hx hb dX5_copy_61 rfl (lv_at hl 0 rfl) ?_
            refine lv_ldcw (v := (-1000003)) hx hb hown (hts _ (List.mem_of_getElem? (i := 4) rfl)) dX5_copy_62 ?_
            obtain ⟨z_38, e_39, h⟩ := bds h
            have hPc := hP.sub (ws' := (wX5 cI cS a0 a1 a2 a3 a4 a5 a6 a7 a8 a9 a10 a11 nw kp ad fd tp kn it wd sz nm mv ik td bg en so va iw im st ht)) [0, 1, 2, 3, 4, 5, 6, 7, 8, 9, 10, 11] rfl
            refine kMi (wf' := (wX5 cI cS a0 a1 a2 a3 a4 a5 a6 a7 a8 a9 a10 a11 nw kp ad z_38.2 tp kn it wd sz nm mv ik td bg en so va iw im st ht)) [0, 1, 2, 3, 4, 5, 6, 7, 8, 9, 10, 11] [some 0, some 1, some 2, some 3, some 4, some 5, some 6, some 7, some 8, some 9, some 10, some 11] (rV C0 (tX5_finding l D cI cS a0 a1 a2 a3 a4 a5 a6 a7 a8 a9 a10 a11 nw kp ad fd tp kn it wd sz nm mv ik td bg en so va iw im st ht (-1000003) z_38.1 z_38.2 e_39 (((hD (wX5 cI cS a0 a1 a2 a3 a4 a5 a6 a7 a8 a9 a10 a11 nw kp ad fd tp kn it wd sz nm mv ik td bg en so va iw im st ht) rfl).sub [0, 1, 2, 3, 4, 5, 6, 7, 8, 9, 10, 11] (by decide) rfl).weaken (fun _ _ _ _ => trivial))) RX5 gX5_copy_X5_finding rfl ⟨rfl, rfl⟩ pdX5_finding rfl ⟨Nat.le_of_ble_eq_true rfl, Nat.le_of_ble_eq_true rfl⟩ (fun _ _ _ _ q => q) (va_recv hE.1 hPc (ci := 4) (q0 := 0) rfl rfl) (fun U hU _ _ => by rw [hU]; exact hPc) hl.1 rfl (Nat.le_of_ble_eq_true rfl) dX5_copy_65 ⟨Nat.zero_le _, Nat.zero_le _⟩) hP (hD _ rfl) hS rfl rfl rfl (fun H locs hP hS => ?_)
            obtain ⟨q0, g0⟩ := Prod.mk.inj (Option.some.inj h)
            obtain ⟨q1, g1⟩ := Prod.mk.inj g0
            obtain ⟨q2, q3⟩ := Prod.mk.inj g1
            subst q0 q1 q2 q3
            exact eMi C0 hP hS rfl rfl dX5_copy_68
        · have h := ifp c_10 h
          refine lv_aload_n hx hb dX5_copy_39 rfl (lv_at hl 0 rfl) ?_
          refine lv_ldc (v := (-1000006)) hx hb hown (hts _ (List.mem_of_getElem? (i := 3) rfl)) dX5_copy_40 ?_
          obtain ⟨z_40, e_41, h⟩ := bds h
          have hPc := hP.sub (ws' := (wX5 cI cS a0 a1 a2 a3 a4 a5 a6 a7 a8 a9 a10 a11 nw kp ad fd tp kn it wd sz nm mv ik td bg en so va iw im st ht)) [0, 1, 2, 3, 4, 5, 6, 7, 8, 9, 10, 11] rfl
          refine kMi (wf' := (wX5 cI cS a0 a1 a2 a3 a4 a5 a6 a7 a8 a9 a10 a11 nw kp ad z_40.2 tp kn it wd sz nm mv ik td bg en so va iw im st ht)) [0, 1, 2, 3, 4, 5, 6, 7, 8, 9, 10, 11] [some 0, some 1, some 2, some 3, some 4, some 5, some 6, some 7, some 8, some 9, some 10, some 11] (rV C0 (tX5_finding l D cI cS a0 a1 a2 a3 a4 a5 a6 a7 a8 a9 a10 a11 nw kp ad fd tp kn it wd sz nm mv ik td bg en so va iw im st ht (-1000006) z_40.1 z_40.2 e_41 (((hD (wX5 cI cS a0 a1 a2 a3 a4 a5 a6 a7 a8 a9 a10 a11 nw kp ad fd tp kn it wd sz nm mv ik td bg en so va iw im st ht) rfl).sub [0, 1, 2, 3, 4, 5, 6, 7, 8, 9, 10, 11] (by decide) rfl).weaken (fun _ _ _ _ => trivial))) RX5 gX5_copy_X5_finding rfl ⟨rfl, rfl⟩ pdX5_finding rfl ⟨Nat.le_of_ble_eq_true rfl, Nat.le_of_ble_eq_true rfl⟩ (fun _ _ _ _ q => q) (va_recv hE.1 hPc (ci := 4) (q0 := 0) rfl rfl) (fun U hU _ _ => by rw [hU]; exact hPc) hl.1 rfl (Nat.le_of_ble_eq_true rfl) dX5_copy_42 ⟨Nat.zero_le _, Nat.zero_le _⟩) hP (hD _ rfl) hS rfl rfl rfl (fun H locs hP hS => ?_)
          obtain ⟨q0, g0⟩ := Prod.mk.inj (Option.some.inj h)
          obtain ⟨q1, g1⟩ := Prod.mk.inj g0
          obtain ⟨q2, q3⟩ := Prod.mk.inj g1
          subst q0 q1 q2 q3
          exact eMi C0 hP hS rfl rfl dX5_copy_45
    · have h := ifp c_4 h
      refine lv_aload_n hx hb dX5_copy_14 rfl (lv_at hl 0 rfl) ?_
      refine lv_ldc (v := (-1000001)) hx hb hown (hts _ (List.mem_of_getElem? (i := 1) rfl)) dX5_copy_15 ?_
      obtain ⟨z_42, e_43, h⟩ := bds h
      have hPc := hP.sub (ws' := (wX5 cI cS a0 a1 a2 a3 a4 a5 a6 a7 a8 a9 a10 a11 nw kp ad fd tp kn it wd sz nm mv ik td bg en so va iw im st ht)) [0, 1, 2, 3, 4, 5, 6, 7, 8, 9, 10, 11] rfl
      refine kMi (wf' := (wX5 cI cS a0 a1 a2 a3 a4 a5 a6 a7 a8 a9 a10 a11 nw kp ad z_42.2 tp kn it wd sz nm mv ik td bg en so va iw im st ht)) [0, 1, 2, 3, 4, 5, 6, 7, 8, 9, 10, 11] [some 0, some 1, some 2, some 3, some 4, some 5, some 6, some 7, some 8, some 9, some 10, some 11] (rV C0 (tX5_finding l D cI cS a0 a1 a2 a3 a4 a5 a6 a7 a8 a9 a10 a11 nw kp ad fd tp kn it wd sz nm mv ik td bg en so va iw im st ht (-1000001) z_42.1 z_42.2 e_43 (((hD (wX5 cI cS a0 a1 a2 a3 a4 a5 a6 a7 a8 a9 a10 a11 nw kp ad fd tp kn it wd sz nm mv ik td bg en so va iw im st ht) rfl).sub [0, 1, 2, 3, 4, 5, 6, 7, 8, 9, 10, 11] (by decide) rfl).weaken (fun _ _ _ _ => trivial))) RX5 gX5_copy_X5_finding rfl ⟨rfl, rfl⟩ pdX5_finding rfl ⟨Nat.le_of_ble_eq_true rfl, Nat.le_of_ble_eq_true rfl⟩ (fun _ _ _ _ q => q) (va_recv hE.1 hPc (ci := 4) (q0 := 0) rfl rfl) (fun U hU _ _ => by rw [hU]; exact hPc) hl.1 rfl (Nat.le_of_ble_eq_true rfl) dX5_copy_17 ⟨Nat.zero_le _, Nat.zero_le _⟩) hP (hD _ rfl) hS rfl rfl rfl (fun H locs hP hS => ?_)
      obtain ⟨q0, g0⟩ := Prod.mk.inj (Option.some.inj h)
      obtain ⟨q1, g1⟩ := Prod.mk.inj g0
      obtain ⟨q2, q3⟩ := Prod.mk.inj g1
      subst q0 q1 q2 q3
      exact eMi C0 hP hS rfl rfl dX5_copy_20
def fX5_load_22 (fd : Nat → Int32) (sz : Nat → Int32) (nm : Nat → Int32) (v1 : Int32) : Nat → Int32 → (Nat → Int32) → Option (Int32 × (Nat → Int32) × (Nat → Int32))
  | 0, _, _ => none
  | n + 1, v2, nw => if ¬ (v1 < 0 ∨ 4 ≤ v1.toNatClampNeg) then (if (sz v1.toNatClampNeg) ≤ v2 then some (v2, nw, fd) else (if (fX5_isSaying nw v2) = 0 then some (v2, nw, fd) else if ¬ (((40 * v1) + v2) < 0 ∨ 160 ≤ ((40 * v1) + v2).toNatClampNeg) then (if (fX5_isMany (nm ((40 * v1) + v2).toNatClampNeg)) = 0 then some (v2, nw, fd) else if ¬ (((40 * v1) + v2) < 0 ∨ 160 ≤ ((40 * v1) + v2).toNatClampNeg) then if ¬ ((fX5_sayingAt v2 2) < 0 ∨ 84 ≤ (fX5_sayingAt v2 2).toNatClampNeg) then fX5_load_22 fd sz nm v1 n (v2 + 1) (upd nw (fX5_sayingAt v2 2).toNatClampNeg (nm ((40 * v1) + v2).toNatClampNeg)) else none else none) else none)) else none
def fX5_load (F : Nat) (nw : Nat → Int32) (fd : Nat → Int32) (wd : Nat → Int32) (sz : Nat → Int32) (nm : Nat → Int32) (v1 : Int32) : Option (Int32 × (Nat → Int32) × (Nat → Int32)) := Option.bind (fX5_lacks wd v1 1) (fun z_1 => (if z_1 = 0 then fX5_load_22 fd sz nm v1 F 0 nw else Option.bind (fX5_lacks wd v1 1) (fun z_11 => Option.bind (fX5_finding fd z_11) (fun z_13 => some (z_13.1, nw, z_13.2)))))
abbrev rmX5_load : Room := { frames := 3, cells := 0, slots := 0, locals := 64 }
theorem pdX5_load : (yX5_load.cls = RX5 ∧ yX5_load.cls ≠ "java/lang/invoke/MethodHandle" ∧ yX5_load.cls ≠ "java/lang/invoke/VarHandle" ∧ (parseMethodDescriptor yX5_load.desc).map (fun d => d.parameters.length) = some 1) := by decide +kernel
set_option maxHeartbeats 4000000 in
set_option maxRecDepth 100000 in
theorem lX5_load_22 {p : Program} {l : Launch} {e : Env} {s : State} {m : MethodId} {av : Array Value} {below : List Frame} {meth : Method} {c : Code} {D : va_G} {cI cS : ClassId} {a0 a1 a2 a3 a4 a5 a6 a7 a8 a9 a10 a11 : Nat} {W0 : va_W} (C0 : CX p s m av meth c RX5 cX5_load 3 (some .int) wsX5_load D cI cS) (F : Nat) (kp : Nat → Int32) (ad : Nat → Int32) (fd : Nat → Int32) (tp : Nat → Int32) (kn : Nat → Option Nat) (it : Nat → Int32) (wd : Nat → Int32) (sz : Nat → Int32) (nm : Nat → Int32) (mv : Nat → Int32) (ik : Int32) (td : Int32) (bg : Int32) (en : Int32) (so : Int32) (va : Int32) (iw : Int32) (im : Int32) (st : Int32) (ht : Int32) (v1 : Int32) (z0 : Int32) (z1 : Nat → Int32) (z2 : Nat → Int32) (hD : ∀ W : va_W, W.map Prod.fst = [a0, a1, a2, a3, a4, a5, a6, a7, a8, a9, a10, a11] → va_D (wA W0) W) : ∀ (n : Nat) (v2 : Int32) (nw : Nat → Int32) (H : Heap) (locs : List Loc), va_P D vwCl (wX5 cI cS a0 a1 a2 a3 a4 a5 a6 a7 a8 a9 a10 a11 nw kp ad fd tp kn it wd sz nm mv ik td bg en so va iw im st ht) H → va_S (wA W0) s.heap H locs → ∀ (ls : Array Slot), lv_has ls 3 [(0, .ref a0), (1, .int v1), (2, .int v2)] → fX5_load_22 fd sz nm v1 n v2 nw = some (z0, z1, z2) → W p l e rmX5_load s m av below meth c H locs 0 0 (MQ below (qI D W0 (wX5 cI cS a0 a1 a2 a3 a4 a5 a6 a7 a8 a9 a10 a11 z1 kp ad z2 tp kn it wd sz nm mv ik td bg en so va iw im st ht) z0) av s 0 0 (wA W0)) (F0 m 22 ls []) := by
  obtain ⟨hx, hb, hr, hml, hown, hts, hlk, hE⟩ := id C0
  have hinX5 : ∀ w ∈ u_ws RX5 TX5 21, w ∈ wsX5_load := by decide +kernel
  intro n
  induction n with
  | zero =>
    intro v2 nw H locs hP hS ls hl h
    cases (show none = some (z0, z1, z2) from h)
  | succ n ih =>
    intro v2 nw H locs hP hS ls hl h
    rw [fX5_load_22] at h
    refine lv_iload_n hx hb dX5_load_22 rfl (lv_at hl 2 rfl) ?_
    refine lv_aload_n hx hb dX5_load_23 rfl (lv_at hl 0 rfl) ?_
    refine va_get (D := D) (ci := 4) (v := .ref a9) (C := RX5) (T := TX5) (N := 21) hx hb hts hinX5 hown hE.1 hP 0 rfl rfl 18 (by decide) (hts _ (List.mem_of_getElem? (i := 1) rfl)) (fun _ h9 => h9) rfl dX5_load_24 ?_
    refine lv_iload_n hx hb dX5_load_27 rfl (lv_at hl 1 rfl) ?_
    obtain ⟨hi_4, h⟩ := ifs h
    refine va_iald hx hb hE.1 hP 9 0 rfl rfl hi_4 dX5_load_28 ?_
    refine lv_icmp_ge (tgt := 84) hx hb dX5_load_29 (by decide) (fun c_5 => ?_) (fun c_5 => ?_)
    · have h := ifp c_5 h
      refine lv_iload_n hx hb dX5_load_84 rfl (lv_at hl 2 rfl) ?_
      obtain ⟨q0, g0⟩ := Prod.mk.inj (Option.some.inj h)
      obtain ⟨q1, q2⟩ := Prod.mk.inj g0
      subst q0 q1 q2
      exact eMi C0 hP hS rfl rfl dX5_load_85
    · have h := ifn c_5 h
      refine lv_aload_n hx hb dX5_load_32 rfl (lv_at hl 0 rfl) ?_
      refine lv_iload_n hx hb dX5_load_33 rfl (lv_at hl 2 rfl) ?_
      have hPc := hP.sub (ws' := (wX5 cI cS a0 a1 a2 a3 a4 a5 a6 a7 a8 a9 a10 a11 nw kp ad fd tp kn it wd sz nm mv ik td bg en so va iw im st ht)) [0, 1, 2, 3, 4, 5, 6, 7, 8, 9, 10, 11] rfl
      refine kRi (rV C0 (tX5_isSaying l D cI cS a0 a1 a2 a3 a4 a5 a6 a7 a8 a9 a10 a11 nw kp ad fd tp kn it wd sz nm mv ik td bg en so va iw im st ht v2 (fX5_isSaying nw v2) rfl) RX5 gX5_load_X5_isSaying rfl ⟨rfl, rfl⟩ pdX5_isSaying rfl ⟨Nat.le_of_ble_eq_true rfl, Nat.le_of_ble_eq_true rfl⟩ (fun _ _ _ _ q => q) (va_recv hE.1 hPc (ci := 4) (q0 := 0) rfl rfl) (fun U hU _ _ => by rw [hU]; exact hPc) hl.1 rfl (Nat.le_of_ble_eq_true rfl) dX5_load_34 ⟨Nat.zero_le _, Nat.zero_le _⟩) ?_
      refine lv_if_eq (tgt := 84) hx hb dX5_load_37 (by decide) (fun c_6 => ?_) (fun c_6 => ?_)
      · have h := ifp c_6 h
        refine lv_iload_n hx hb dX5_load_84 rfl (lv_at hl 2 rfl) ?_
        obtain ⟨q0, g0⟩ := Prod.mk.inj (Option.some.inj h)
        obtain ⟨q1, q2⟩ := Prod.mk.inj g0
        subst q0 q1 q2
        exact eMi C0 hP hS rfl rfl dX5_load_85
      · have h := ifn c_6 h
        refine lv_aload_n hx hb dX5_load_40 rfl (lv_at hl 0 rfl) ?_
        refine va_get (D := D) (ci := 4) (v := .ref a10) (C := RX5) (T := TX5) (N := 21) hx hb hts hinX5 hown hE.1 hP 0 rfl rfl 19 (by decide) (hts _ (List.mem_of_getElem? (i := 2) rfl)) (fun _ h9 => h9) rfl dX5_load_41 ?_
        refine lv_bipush (v := 40) hx hb dX5_load_44 (by decide) ?_
        refine lv_iload_n hx hb dX5_load_46 rfl (lv_at hl 1 rfl) ?_
        refine lv_imul hx hb dX5_load_47 ?_
        refine lv_iload_n hx hb dX5_load_48 rfl (lv_at hl 2 rfl) ?_
        refine lv_iadd hx hb dX5_load_49 ?_
        obtain ⟨hi_7, h⟩ := ifs h
        refine va_iald hx hb hE.1 hP 10 0 rfl rfl hi_7 dX5_load_50 ?_
        refine kRi (rS C0 (tX5_isMany l D cI cS (nm ((40 * v1) + v2).toNatClampNeg) (fX5_isMany (nm ((40 * v1) + v2).toNatClampNeg)) rfl) gX5_load_X5_isMany rfl ⟨rfl, rfl⟩ pdX5_isMany rfl ⟨Nat.le_of_ble_eq_true rfl, Nat.le_of_ble_eq_true rfl⟩ (fun _ _ _ _ q => q) (fun _ _ _ _ => vp0) hl.1 rfl (Nat.le_of_ble_eq_true rfl) dX5_load_51 ⟨Nat.zero_le _, Nat.zero_le _⟩) ?_
        refine lv_if_eq (tgt := 84) hx hb dX5_load_54 (by decide) (fun c_8 => ?_) (fun c_8 => ?_)
        · have h := ifp c_8 h
          refine lv_iload_n hx hb dX5_load_84 rfl (lv_at hl 2 rfl) ?_
          obtain ⟨q0, g0⟩ := Prod.mk.inj (Option.some.inj h)
          obtain ⟨q1, q2⟩ := Prod.mk.inj g0
          subst q0 q1 q2
          exact eMi C0 hP hS rfl rfl dX5_load_85
        · have h := ifn c_8 h
          refine lv_aload_n hx hb dX5_load_57 rfl (lv_at hl 0 rfl) ?_
          refine va_get (D := D) (ci := 4) (v := .ref a1) (C := RX5) (T := TX5) (N := 21) hx hb hts hinX5 hown hE.1 hP 0 rfl rfl 0 (by decide) (hts _ (List.mem_of_getElem? (i := 3) rfl)) (fun _ h9 => h9) rfl dX5_load_58 ?_
          refine lv_iload_n hx hb dX5_load_61 rfl (lv_at hl 2 rfl) ?_
          refine lv_iconst (v := 2) hx hb dX5_load_62 (by decide) ?_
          refine kRi (rS C0 (tX5_sayingAt l D cI cS v2 2 (fX5_sayingAt v2 2) rfl) gX5_load_X5_sayingAt rfl ⟨rfl, rfl⟩ pdX5_sayingAt rfl ⟨Nat.le_of_ble_eq_true rfl, Nat.le_of_ble_eq_true rfl⟩ (fun _ _ _ _ q => q) (fun _ _ _ _ => vp0) hl.1 rfl (Nat.le_of_ble_eq_true rfl) dX5_load_63 ⟨Nat.zero_le _, Nat.zero_le _⟩) ?_
          refine lv_aload_n hx hb dX5_load_66 rfl (lv_at hl 0 rfl) ?_
          refine va_get (D := D) (ci := 4) (v := .ref a10) (C := RX5) (T := TX5) (N := 21) hx hb hts hinX5 hown hE.1 hP 0 rfl rfl 19 (by decide) (hts _ (List.mem_of_getElem? (i := 2) rfl)) (fun _ h9 => h9) rfl dX5_load_67 ?_
          refine lv_bipush (v := 40) hx hb dX5_load_70 (by decide) ?_
          refine lv_iload_n hx hb dX5_load_72 rfl (lv_at hl 1 rfl) ?_
          refine lv_imul hx hb dX5_load_73 ?_
          refine lv_iload_n hx hb dX5_load_74 rfl (lv_at hl 2 rfl) ?_
          refine lv_iadd hx hb dX5_load_75 ?_
          obtain ⟨hi_9, h⟩ := ifs h
          refine va_iald hx hb hE.1 hP 10 0 rfl rfl hi_9 dX5_load_76 ?_
          obtain ⟨hi_10, h⟩ := ifs h
          refine va_iast hx hb hE.1 hP (hD _ rfl) hS 1 0 rfl rfl hi_10 dX5_load_77 (fun H locs hP _ hS => ?_)
          have hP : va_P D vwCl (wX5 cI cS a0 a1 a2 a3 a4 a5 a6 a7 a8 a9 a10 a11 (upd nw (fX5_sayingAt v2 2).toNatClampNeg (nm ((40 * v1) + v2).toNatClampNeg)) kp ad fd tp kn it wd sz nm mv ik td bg en so va iw im st ht) H := hP
          refine lv_iinc (v := v2 + 1) (lv' := [(2, .int (v2 + 1)), (0, .ref a0), (1, .int v1)]) hx hb dX5_load_78 hl (k := 2) rfl rfl (by decide) rfl (fun ls hl => ?_)
          refine lv_goto (tgt := 22) hx hb dX5_load_81 (by decide) ?_
          exact ih (v2 + 1) (upd nw (fX5_sayingAt v2 2).toNatClampNeg (nm ((40 * v1) + v2).toNatClampNeg)) _ _ hP hS _ (lv_sub hl [1, 2, 0] rfl) h
set_option maxHeartbeats 4000000 in
set_option maxRecDepth 100000 in
theorem tX5_load (l : Launch) (D : va_G) (cI cS : ClassId) (F : Nat) (a0 a1 a2 a3 a4 a5 a6 a7 a8 a9 a10 a11 : Nat) (nw : Nat → Int32) (kp : Nat → Int32) (ad : Nat → Int32) (fd : Nat → Int32) (tp : Nat → Int32) (kn : Nat → Option Nat) (it : Nat → Int32) (wd : Nat → Int32) (sz : Nat → Int32) (nm : Nat → Int32) (mv : Nat → Int32) (ik : Int32) (td : Int32) (bg : Int32) (en : Int32) (so : Int32) (va : Int32) (iw : Int32) (im : Int32) (st : Int32) (ht : Int32) (v1 : Int32) (z0 : Int32) (z1 : Nat → Int32) (z2 : Nat → Int32) (h : fX5_load F nw fd wd sz nm v1 = some (z0, z1, z2)) (hD0 : va_D (fun _ => True) (wX5 cI cS a0 a1 a2 a3 a4 a5 a6 a7 a8 a9 a10 a11 nw kp ad fd tp kn it wd sz nm mv ik td bg en so va iw im st ht)) : Met l yX5_load wsX5_load rmX5_load (PZ D cI cS [.ref a0, .int v1] (fun U => va_P D vwCl (wX5 cI cS a0 a1 a2 a3 a4 a5 a6 a7 a8 a9 a10 a11 nw kp ad fd tp kn it wd sz nm mv ik td bg en so va iw im st ht) U.heap)) (qI D (wX5 cI cS a0 a1 a2 a3 a4 a5 a6 a7 a8 a9 a10 a11 nw kp ad fd tp kn it wd sz nm mv ik td bg en so va iw im st ht) (wX5 cI cS a0 a1 a2 a3 a4 a5 a6 a7 a8 a9 a10 a11 z1 kp ad z2 tp kn it wd sz nm mv ik td bg en so va iw im st ht) z0) 0 0 (wA (wX5 cI cS a0 a1 a2 a3 a4 a5 a6 a7 a8 a9 a10 a11 nw kp ad fd tp kn it wd sz nm mv ik td bg en so va iw im st ht)) := by
  refine Met.mk RX5 (by decide) rfl rfl (Nat.le_of_ble_eq_true rfl) ?_
  intro p e s m below meth c ls C0 hP hl
  have hl : lv_has ls 3 [(0, .ref a0), (1, .int v1)] := hl
  obtain ⟨hx, hb, hr, hml, hown, hts, hlk, hE⟩ := id C0
  have hinX5 : ∀ w ∈ u_ws RX5 TX5 21, w ∈ wsX5_load := by decide +kernel
  have hD : ∀ W : va_W, W.map Prod.fst = [a0, a1, a2, a3, a4, a5, a6, a7, a8, a9, a10, a11] → va_D (wA (wX5 cI cS a0 a1 a2 a3 a4 a5 a6 a7 a8 a9 a10 a11 nw kp ad fd tp kn it wd sz nm mv ik td bg en so va iw im st ht)) W := fun W hW => hD0.own.re hW
  have hS : va_S (wA (wX5 cI cS a0 a1 a2 a3 a4 a5 a6 a7 a8 a9 a10 a11 nw kp ad fd tp kn it wd sz nm mv ik td bg en so va iw im st ht)) s.heap s.heap [] := va_S.rf
  have hP : va_P D vwCl (wX5 cI cS a0 a1 a2 a3 a4 a5 a6 a7 a8 a9 a10 a11 nw kp ad fd tp kn it wd sz nm mv ik td bg en so va iw im st ht) s.heap := hP
  rw [fX5_load] at h
  refine lv_aload_n hx hb dX5_load_0 rfl (lv_at hl 0 rfl) ?_
  refine lv_iload_n hx hb dX5_load_1 rfl (lv_at hl 1 rfl) ?_
  refine lv_iconst (v := 1) hx hb dX5_load_2 (by decide) ?_
  obtain ⟨z_1, e_2, h⟩ := bds h
  have hPc := hP.sub (ws' := (wX5 cI cS a0 a1 a2 a3 a4 a5 a6 a7 a8 a9 a10 a11 nw kp ad fd tp kn it wd sz nm mv ik td bg en so va iw im st ht)) [0, 1, 2, 3, 4, 5, 6, 7, 8, 9, 10, 11] rfl
  refine kRi (rV C0 (tX5_lacks l D cI cS a0 a1 a2 a3 a4 a5 a6 a7 a8 a9 a10 a11 nw kp ad fd tp kn it wd sz nm mv ik td bg en so va iw im st ht v1 1 z_1 e_2) RX5 gX5_load_X5_lacks rfl ⟨rfl, rfl⟩ pdX5_lacks rfl ⟨Nat.le_of_ble_eq_true rfl, Nat.le_of_ble_eq_true rfl⟩ (fun _ _ _ _ q => q) (va_recv hE.1 hPc (ci := 4) (q0 := 0) rfl rfl) (fun U hU _ _ => by rw [hU]; exact hPc) hl.1 rfl (Nat.le_of_ble_eq_true rfl) dX5_load_3 ⟨Nat.zero_le _, Nat.zero_le _⟩) ?_
  refine lv_if_eq (tgt := 20) hx hb dX5_load_6 (by decide) (fun c_3 => ?_) (fun c_3 => ?_)
  · have h := ifp c_3 h
    refine lv_iconst (v := 0) hx hb dX5_load_20 (by decide) ?_
    refine lv_istore_n (lv' := [(2, .int 0), (0, .ref a0), (1, .int v1)]) hx hb dX5_load_21 rfl hl (by decide) rfl (fun ls hl => ?_)
    exact lX5_load_22 (l := l) (e := e) (below := below) C0 F kp ad fd tp kn it wd sz nm mv ik td bg en so va iw im st ht v1 z0 z1 z2 hD F 0 nw _ _ hP hS _ (lv_sub hl [1, 2, 0] rfl) h
  · have h := ifn c_3 h
    refine lv_aload_n hx hb dX5_load_9 rfl (lv_at hl 0 rfl) ?_
    refine lv_aload_n hx hb dX5_load_10 rfl (lv_at hl 0 rfl) ?_
    refine lv_iload_n hx hb dX5_load_11 rfl (lv_at hl 1 rfl) ?_
    refine lv_iconst (v := 1) hx hb dX5_load_12 (by decide) ?_
    obtain ⟨z_11, e_12, h⟩ := bds h
    have hPc := hP.sub (ws' := (wX5 cI cS a0 a1 a2 a3 a4 a5 a6 a7 a8 a9 a10 a11 nw kp ad fd tp kn it wd sz nm mv ik td bg en so va iw im st ht)) [0, 1, 2, 3, 4, 5, 6, 7, 8, 9, 10, 11] rfl
    refine kRi (rV C0 (tX5_lacks l D cI cS a0 a1 a2 a3 a4 a5 a6 a7 a8 a9 a10 a11 nw kp ad fd tp kn it wd sz nm mv ik td bg en so va iw im st ht v1 1 z_11 e_12) RX5 gX5_load_X5_lacks rfl ⟨rfl, rfl⟩ pdX5_lacks rfl ⟨Nat.le_of_ble_eq_true rfl, Nat.le_of_ble_eq_true rfl⟩ (fun _ _ _ _ q => q) (va_recv hE.1 hPc (ci := 4) (q0 := 0) rfl rfl) (fun U hU _ _ => by rw [hU]; exact hPc) hl.1 rfl (Nat.le_of_ble_eq_true rfl) dX5_load_13 ⟨Nat.zero_le _, Nat.zero_le _⟩) ?_
    obtain ⟨z_13, e_14, h⟩ := bds h
    have hPc := hP.sub (ws' := (wX5 cI cS a0 a1 a2 a3 a4 a5 a6 a7 a8 a9 a10 a11 nw kp ad fd tp kn it wd sz nm mv ik td bg en so va iw im st ht)) [0, 1, 2, 3, 4, 5, 6, 7, 8, 9, 10, 11] rfl
    refine kMi (wf' := (wX5 cI cS a0 a1 a2 a3 a4 a5 a6 a7 a8 a9 a10 a11 nw kp ad z_13.2 tp kn it wd sz nm mv ik td bg en so va iw im st ht)) [0, 1, 2, 3, 4, 5, 6, 7, 8, 9, 10, 11] [some 0, some 1, some 2, some 3, some 4, some 5, some 6, some 7, some 8, some 9, some 10, some 11] (rV C0 (tX5_finding l D cI cS a0 a1 a2 a3 a4 a5 a6 a7 a8 a9 a10 a11 nw kp ad fd tp kn it wd sz nm mv ik td bg en so va iw im st ht z_11 z_13.1 z_13.2 e_14 (((hD (wX5 cI cS a0 a1 a2 a3 a4 a5 a6 a7 a8 a9 a10 a11 nw kp ad fd tp kn it wd sz nm mv ik td bg en so va iw im st ht) rfl).sub [0, 1, 2, 3, 4, 5, 6, 7, 8, 9, 10, 11] (by decide) rfl).weaken (fun _ _ _ _ => trivial))) RX5 gX5_load_X5_finding rfl ⟨rfl, rfl⟩ pdX5_finding rfl ⟨Nat.le_of_ble_eq_true rfl, Nat.le_of_ble_eq_true rfl⟩ (fun _ _ _ _ q => q) (va_recv hE.1 hPc (ci := 4) (q0 := 0) rfl rfl) (fun U hU _ _ => by rw [hU]; exact hPc) hl.1 rfl (Nat.le_of_ble_eq_true rfl) dX5_load_16 ⟨Nat.zero_le _, Nat.zero_le _⟩) hP (hD _ rfl) hS rfl rfl rfl (fun H locs hP hS => ?_)
    obtain ⟨q0, g0⟩ := Prod.mk.inj (Option.some.inj h)
    obtain ⟨q1, q2⟩ := Prod.mk.inj g0
    subst q0 q1 q2
    exact eMi C0 hP hS rfl rfl dX5_load_19
def fX5_judge_22 (nw : Nat → Int32) (fd : Nat → Int32) (sz : Nat → Int32) (nm : Nat → Int32) (v1 : Int32) : Nat → Int32 → Option (Int32 × (Nat → Int32))
  | 0, _ => none
  | n + 1, v2 => if ¬ (v1 < 0 ∨ 4 ≤ v1.toNatClampNeg) then (if (sz v1.toNatClampNeg) ≤ v2 then if ¬ (v1 < 0 ∨ 4 ≤ v1.toNatClampNeg) then (if v2 = (sz v1.toNatClampNeg) then some (0, fd) else some (1 + v2, fd)) else none else (if (fX5_isShip nw v2) = 0 then if ¬ (v1 < 0 ∨ 4 ≤ v1.toNatClampNeg) then (if v2 = (sz v1.toNatClampNeg) then some (0, fd) else some (1 + v2, fd)) else none else if ¬ (((40 * v1) + v2) < 0 ∨ 160 ≤ ((40 * v1) + v2).toNatClampNeg) then Option.bind (fX5_shipIs nw v2 0) (fun z_12 => (if (nm ((40 * v1) + v2).toNatClampNeg) = z_12 then fX5_judge_22 nw fd sz nm v1 n (v2 + 1) else if ¬ (v1 < 0 ∨ 4 ≤ v1.toNatClampNeg) then (if v2 = (sz v1.toNatClampNeg) then some (0, fd) else some (1 + v2, fd)) else none)) else none)) else none
def fX5_judge (F : Nat) (nw : Nat → Int32) (fd : Nat → Int32) (wd : Nat → Int32) (sz : Nat → Int32) (nm : Nat → Int32) (v1 : Int32) : Option (Int32 × (Nat → Int32)) := Option.bind (fX5_lacks wd v1 1) (fun z_1 => (if z_1 = 0 then fX5_judge_22 nw fd sz nm v1 F 0 else Option.bind (fX5_lacks wd v1 1) (fun z_17 => Option.bind (fX5_finding fd z_17) (fun z_19 => some (z_19.1, z_19.2)))))
abbrev rmX5_judge : Room := { frames := 3, cells := 0, slots := 0, locals := 64 }
theorem pdX5_judge : (yX5_judge.cls = RX5 ∧ yX5_judge.cls ≠ "java/lang/invoke/MethodHandle" ∧ yX5_judge.cls ≠ "java/lang/invoke/VarHandle" ∧ (parseMethodDescriptor yX5_judge.desc).map (fun d => d.parameters.length) = some 1) := by decide +kernel
set_option maxHeartbeats 4000000 in
set_option maxRecDepth 100000 in
theorem lX5_judge_22 {p : Program} {l : Launch} {e : Env} {s : State} {m : MethodId} {av : Array Value} {below : List Frame} {meth : Method} {c : Code} {D : va_G} {cI cS : ClassId} {a0 a1 a2 a3 a4 a5 a6 a7 a8 a9 a10 a11 : Nat} {W0 : va_W} (C0 : CX p s m av meth c RX5 cX5_judge 3 (some .int) wsX5_judge D cI cS) (F : Nat) (nw : Nat → Int32) (kp : Nat → Int32) (ad : Nat → Int32) (fd : Nat → Int32) (tp : Nat → Int32) (kn : Nat → Option Nat) (it : Nat → Int32) (wd : Nat → Int32) (sz : Nat → Int32) (nm : Nat → Int32) (mv : Nat → Int32) (ik : Int32) (td : Int32) (bg : Int32) (en : Int32) (so : Int32) (va : Int32) (iw : Int32) (im : Int32) (st : Int32) (ht : Int32) (v1 : Int32) (z0 : Int32) (z1 : Nat → Int32) (hD : ∀ W : va_W, W.map Prod.fst = [a0, a1, a2, a3, a4, a5, a6, a7, a8, a9, a10, a11] → va_D (wA W0) W) : ∀ (n : Nat) (v2 : Int32) (H : Heap) (locs : List Loc), va_P D vwCl (wX5 cI cS a0 a1 a2 a3 a4 a5 a6 a7 a8 a9 a10 a11 nw kp ad fd tp kn it wd sz nm mv ik td bg en so va iw im st ht) H → va_S (wA W0) s.heap H locs → ∀ (ls : Array Slot), lv_has ls 3 [(0, .ref a0), (1, .int v1), (2, .int v2)] → fX5_judge_22 nw fd sz nm v1 n v2 = some (z0, z1) → W p l e rmX5_judge s m av below meth c H locs 0 0 (MQ below (qI D W0 (wX5 cI cS a0 a1 a2 a3 a4 a5 a6 a7 a8 a9 a10 a11 nw kp ad z1 tp kn it wd sz nm mv ik td bg en so va iw im st ht) z0) av s 0 0 (wA W0)) (F0 m 22 ls []) := by
  obtain ⟨hx, hb, hr, hml, hown, hts, hlk, hE⟩ := id C0
  have hinX5 : ∀ w ∈ u_ws RX5 TX5 21, w ∈ wsX5_judge := by decide +kernel
  intro n
  induction n with
  | zero =>
    intro v2 H locs hP hS ls hl h
    cases (show none = some (z0, z1) from h)
  | succ n ih =>
    intro v2 H locs hP hS ls hl h
    rw [fX5_judge_22] at h
    refine lv_iload_n hx hb dX5_judge_22 rfl (lv_at hl 2 rfl) ?_
    refine lv_aload_n hx hb dX5_judge_23 rfl (lv_at hl 0 rfl) ?_
    refine va_get (D := D) (ci := 4) (v := .ref a9) (C := RX5) (T := TX5) (N := 21) hx hb hts hinX5 hown hE.1 hP 0 rfl rfl 18 (by decide) (hts _ (List.mem_of_getElem? (i := 1) rfl)) (fun _ h9 => h9) rfl dX5_judge_24 ?_
    refine lv_iload_n hx hb dX5_judge_27 rfl (lv_at hl 1 rfl) ?_
    obtain ⟨hi_4, h⟩ := ifs h
    refine va_iald hx hb hE.1 hP 9 0 rfl rfl hi_4 dX5_judge_28 ?_
    refine lv_icmp_ge (tgt := 66) hx hb dX5_judge_29 (by decide) (fun c_5 => ?_) (fun c_5 => ?_)
    · have h := ifp c_5 h
      refine lv_iload_n hx hb dX5_judge_66 rfl (lv_at hl 2 rfl) ?_
      refine lv_aload_n hx hb dX5_judge_67 rfl (lv_at hl 0 rfl) ?_
      refine va_get (D := D) (ci := 4) (v := .ref a9) (C := RX5) (T := TX5) (N := 21) hx hb hts hinX5 hown hE.1 hP 0 rfl rfl 18 (by decide) (hts _ (List.mem_of_getElem? (i := 1) rfl)) (fun _ h9 => h9) rfl dX5_judge_68 ?_
      refine lv_iload_n hx hb dX5_judge_71 rfl (lv_at hl 1 rfl) ?_
      obtain ⟨hi_6, h⟩ := ifs h
      refine va_iald hx hb hE.1 hP 9 0 rfl rfl hi_6 dX5_judge_72 ?_
      refine lv_icmp_ne (tgt := 80) hx hb dX5_judge_73 (by decide) (fun c_7 => ?_) (fun c_7 => ?_)
      · have h := ifn c_7 h
        refine lv_iconst (v := 1) hx hb dX5_judge_80 (by decide) ?_
        refine lv_iload_n hx hb dX5_judge_81 rfl (lv_at hl 2 rfl) ?_
        refine lv_iadd hx hb dX5_judge_82 ?_
        obtain ⟨q0, q1⟩ := Prod.mk.inj (Option.some.inj h)
        subst q0 q1
        exact eMi C0 hP hS rfl rfl dX5_judge_83
      · have h := ifp c_7 h
        refine lv_iconst (v := 0) hx hb dX5_judge_76 (by decide) ?_
        refine lv_goto (tgt := 83) hx hb dX5_judge_77 (by decide) ?_
        obtain ⟨q0, q1⟩ := Prod.mk.inj (Option.some.inj h)
        subst q0 q1
        exact eMi C0 hP hS rfl rfl dX5_judge_83
    · have h := ifn c_5 h
      refine lv_aload_n hx hb dX5_judge_32 rfl (lv_at hl 0 rfl) ?_
      refine lv_iload_n hx hb dX5_judge_33 rfl (lv_at hl 2 rfl) ?_
      have hPc := hP.sub (ws' := (wX5 cI cS a0 a1 a2 a3 a4 a5 a6 a7 a8 a9 a10 a11 nw kp ad fd tp kn it wd sz nm mv ik td bg en so va iw im st ht)) [0, 1, 2, 3, 4, 5, 6, 7, 8, 9, 10, 11] rfl
      refine kRi (rV C0 (tX5_isShip l D cI cS a0 a1 a2 a3 a4 a5 a6 a7 a8 a9 a10 a11 nw kp ad fd tp kn it wd sz nm mv ik td bg en so va iw im st ht v2 (fX5_isShip nw v2) rfl) RX5 gX5_judge_X5_isShip rfl ⟨rfl, rfl⟩ pdX5_isShip rfl ⟨Nat.le_of_ble_eq_true rfl, Nat.le_of_ble_eq_true rfl⟩ (fun _ _ _ _ q => q) (va_recv hE.1 hPc (ci := 4) (q0 := 0) rfl rfl) (fun U hU _ _ => by rw [hU]; exact hPc) hl.1 rfl (Nat.le_of_ble_eq_true rfl) dX5_judge_34 ⟨Nat.zero_le _, Nat.zero_le _⟩) ?_
      refine lv_if_eq (tgt := 66) hx hb dX5_judge_37 (by decide) (fun c_8 => ?_) (fun c_8 => ?_)
      · have h := ifp c_8 h
        refine lv_iload_n hx hb dX5_judge_66 rfl (lv_at hl 2 rfl) ?_
        refine lv_aload_n hx hb dX5_judge_67 rfl (lv_at hl 0 rfl) ?_
        refine va_get (D := D) (ci := 4) (v := .ref a9) (C := RX5) (T := TX5) (N := 21) hx hb hts hinX5 hown hE.1 hP 0 rfl rfl 18 (by decide) (hts _ (List.mem_of_getElem? (i := 1) rfl)) (fun _ h9 => h9) rfl dX5_judge_68 ?_
        refine lv_iload_n hx hb dX5_judge_71 rfl (lv_at hl 1 rfl) ?_
        obtain ⟨hi_9, h⟩ := ifs h
        refine va_iald hx hb hE.1 hP 9 0 rfl rfl hi_9 dX5_judge_72 ?_
        refine lv_icmp_ne (tgt := 80) hx hb dX5_judge_73 (by decide) (fun c_10 => ?_) (fun c_10 => ?_)
        · have h := ifn c_10 h
          refine lv_iconst (v := 1) hx hb dX5_judge_80 (by decide) ?_
          refine lv_iload_n hx hb dX5_judge_81 rfl (lv_at hl 2 rfl) ?_
          refine lv_iadd hx hb dX5_judge_82 ?_
          obtain ⟨q0, q1⟩ := Prod.mk.inj (Option.some.inj h)
          subst q0 q1
          exact eMi C0 hP hS rfl rfl dX5_judge_83
        · have h := ifp c_10 h
          refine lv_iconst (v := 0) hx hb dX5_judge_76 (by decide) ?_
          refine lv_goto (tgt := 83) hx hb dX5_judge_77 (by decide) ?_
          obtain ⟨q0, q1⟩ := Prod.mk.inj (Option.some.inj h)
          subst q0 q1
          exact eMi C0 hP hS rfl rfl dX5_judge_83
      · have h := ifn c_8 h
        refine lv_aload_n hx hb dX5_judge_40 rfl (lv_at hl 0 rfl) ?_
        refine va_get (D := D) (ci := 4) (v := .ref a10) (C := RX5) (T := TX5) (N := 21) hx hb hts hinX5 hown hE.1 hP 0 rfl rfl 19 (by decide) (hts _ (List.mem_of_getElem? (i := 2) rfl)) (fun _ h9 => h9) rfl dX5_judge_41 ?_
        refine lv_bipush (v := 40) hx hb dX5_judge_44 (by decide) ?_
        refine lv_iload_n hx hb dX5_judge_46 rfl (lv_at hl 1 rfl) ?_
        refine lv_imul hx hb dX5_judge_47 ?_
        refine lv_iload_n hx hb dX5_judge_48 rfl (lv_at hl 2 rfl) ?_
        refine lv_iadd hx hb dX5_judge_49 ?_
        obtain ⟨hi_11, h⟩ := ifs h
        refine va_iald hx hb hE.1 hP 10 0 rfl rfl hi_11 dX5_judge_50 ?_
        refine lv_aload_n hx hb dX5_judge_51 rfl (lv_at hl 0 rfl) ?_
        refine lv_iload_n hx hb dX5_judge_52 rfl (lv_at hl 2 rfl) ?_
        refine lv_iconst (v := 0) hx hb dX5_judge_53 (by decide) ?_
        obtain ⟨z_12, e_13, h⟩ := bds h
        have hPc := hP.sub (ws' := (wX5 cI cS a0 a1 a2 a3 a4 a5 a6 a7 a8 a9 a10 a11 nw kp ad fd tp kn it wd sz nm mv ik td bg en so va iw im st ht)) [0, 1, 2, 3, 4, 5, 6, 7, 8, 9, 10, 11] rfl
        refine kRi (rV C0 (tX5_shipIs l D cI cS a0 a1 a2 a3 a4 a5 a6 a7 a8 a9 a10 a11 nw kp ad fd tp kn it wd sz nm mv ik td bg en so va iw im st ht v2 0 z_12 e_13) RX5 gX5_judge_X5_shipIs rfl ⟨rfl, rfl⟩ pdX5_shipIs rfl ⟨Nat.le_of_ble_eq_true rfl, Nat.le_of_ble_eq_true rfl⟩ (fun _ _ _ _ q => q) (va_recv hE.1 hPc (ci := 4) (q0 := 0) rfl rfl) (fun U hU _ _ => by rw [hU]; exact hPc) hl.1 rfl (Nat.le_of_ble_eq_true rfl) dX5_judge_54 ⟨Nat.zero_le _, Nat.zero_le _⟩) ?_
        refine lv_icmp_ne (tgt := 66) hx hb dX5_judge_57 (by decide) (fun c_14 => ?_) (fun c_14 => ?_)
        · have h := ifn c_14 h
          refine lv_iload_n hx hb dX5_judge_66 rfl (lv_at hl 2 rfl) ?_
          refine lv_aload_n hx hb dX5_judge_67 rfl (lv_at hl 0 rfl) ?_
          refine va_get (D := D) (ci := 4) (v := .ref a9) (C := RX5) (T := TX5) (N := 21) hx hb hts hinX5 hown hE.1 hP 0 rfl rfl 18 (by decide) (hts _ (List.mem_of_getElem? (i := 1) rfl)) (fun _ h9 => h9) rfl dX5_judge_68 ?_
          refine lv_iload_n hx hb dX5_judge_71 rfl (lv_at hl 1 rfl) ?_
          obtain ⟨hi_15, h⟩ := ifs h
          refine va_iald hx hb hE.1 hP 9 0 rfl rfl hi_15 dX5_judge_72 ?_
          refine lv_icmp_ne (tgt := 80) hx hb dX5_judge_73 (by decide) (fun c_16 => ?_) (fun c_16 => ?_)
          · have h := ifn c_16 h
            refine lv_iconst (v := 1) hx hb dX5_judge_80 (by decide) ?_
            refine lv_iload_n hx hb dX5_judge_81 rfl (lv_at hl 2 rfl) ?_
            refine lv_iadd hx hb dX5_judge_82 ?_
            obtain ⟨q0, q1⟩ := Prod.mk.inj (Option.some.inj h)
            subst q0 q1
            exact eMi C0 hP hS rfl rfl dX5_judge_83
          · have h := ifp c_16 h
            refine lv_iconst (v := 0) hx hb dX5_judge_76 (by decide) ?_
            refine lv_goto (tgt := 83) hx hb dX5_judge_77 (by decide) ?_
            obtain ⟨q0, q1⟩ := Prod.mk.inj (Option.some.inj h)
            subst q0 q1
            exact eMi C0 hP hS rfl rfl dX5_judge_83
        · have h := ifp c_14 h
          refine lv_iinc (v := v2 + 1) (lv' := [(2, .int (v2 + 1)), (0, .ref a0), (1, .int v1)]) hx hb dX5_judge_60 hl (k := 2) rfl rfl (by decide) rfl (fun ls hl => ?_)
          refine lv_goto (tgt := 22) hx hb dX5_judge_63 (by decide) ?_
          exact ih (v2 + 1) _ _ hP hS _ (lv_sub hl [1, 2, 0] rfl) h
set_option maxHeartbeats 4000000 in
set_option maxRecDepth 100000 in
theorem tX5_judge (l : Launch) (D : va_G) (cI cS : ClassId) (F : Nat) (a0 a1 a2 a3 a4 a5 a6 a7 a8 a9 a10 a11 : Nat) (nw : Nat → Int32) (kp : Nat → Int32) (ad : Nat → Int32) (fd : Nat → Int32) (tp : Nat → Int32) (kn : Nat → Option Nat) (it : Nat → Int32) (wd : Nat → Int32) (sz : Nat → Int32) (nm : Nat → Int32) (mv : Nat → Int32) (ik : Int32) (td : Int32) (bg : Int32) (en : Int32) (so : Int32) (va : Int32) (iw : Int32) (im : Int32) (st : Int32) (ht : Int32) (v1 : Int32) (z0 : Int32) (z1 : Nat → Int32) (h : fX5_judge F nw fd wd sz nm v1 = some (z0, z1)) (hD0 : va_D (fun _ => True) (wX5 cI cS a0 a1 a2 a3 a4 a5 a6 a7 a8 a9 a10 a11 nw kp ad fd tp kn it wd sz nm mv ik td bg en so va iw im st ht)) : Met l yX5_judge wsX5_judge rmX5_judge (PZ D cI cS [.ref a0, .int v1] (fun U => va_P D vwCl (wX5 cI cS a0 a1 a2 a3 a4 a5 a6 a7 a8 a9 a10 a11 nw kp ad fd tp kn it wd sz nm mv ik td bg en so va iw im st ht) U.heap)) (qI D (wX5 cI cS a0 a1 a2 a3 a4 a5 a6 a7 a8 a9 a10 a11 nw kp ad fd tp kn it wd sz nm mv ik td bg en so va iw im st ht) (wX5 cI cS a0 a1 a2 a3 a4 a5 a6 a7 a8 a9 a10 a11 nw kp ad z1 tp kn it wd sz nm mv ik td bg en so va iw im st ht) z0) 0 0 (wA (wX5 cI cS a0 a1 a2 a3 a4 a5 a6 a7 a8 a9 a10 a11 nw kp ad fd tp kn it wd sz nm mv ik td bg en so va iw im st ht)) := by
  refine Met.mk RX5 (by decide) rfl rfl (Nat.le_of_ble_eq_true rfl) ?_
  intro p e s m below meth c ls C0 hP hl
  have hl : lv_has ls 3 [(0, .ref a0), (1, .int v1)] := hl
  obtain ⟨hx, hb, hr, hml, hown, hts, hlk, hE⟩ := id C0
  have hinX5 : ∀ w ∈ u_ws RX5 TX5 21, w ∈ wsX5_judge := by decide +kernel
  have hD : ∀ W : va_W, W.map Prod.fst = [a0, a1, a2, a3, a4, a5, a6, a7, a8, a9, a10, a11] → va_D (wA (wX5 cI cS a0 a1 a2 a3 a4 a5 a6 a7 a8 a9 a10 a11 nw kp ad fd tp kn it wd sz nm mv ik td bg en so va iw im st ht)) W := fun W hW => hD0.own.re hW
  have hS : va_S (wA (wX5 cI cS a0 a1 a2 a3 a4 a5 a6 a7 a8 a9 a10 a11 nw kp ad fd tp kn it wd sz nm mv ik td bg en so va iw im st ht)) s.heap s.heap [] := va_S.rf
  have hP : va_P D vwCl (wX5 cI cS a0 a1 a2 a3 a4 a5 a6 a7 a8 a9 a10 a11 nw kp ad fd tp kn it wd sz nm mv ik td bg en so va iw im st ht) s.heap := hP
  rw [fX5_judge] at h
  refine lv_aload_n hx hb dX5_judge_0 rfl (lv_at hl 0 rfl) ?_
  refine lv_iload_n hx hb dX5_judge_1 rfl (lv_at hl 1 rfl) ?_
  refine lv_iconst (v := 1) hx hb dX5_judge_2 (by decide) ?_
  obtain ⟨z_1, e_2, h⟩ := bds h
  have hPc := hP.sub (ws' := (wX5 cI cS a0 a1 a2 a3 a4 a5 a6 a7 a8 a9 a10 a11 nw kp ad fd tp kn it wd sz nm mv ik td bg en so va iw im st ht)) [0, 1, 2, 3, 4, 5, 6, 7, 8, 9, 10, 11] rfl
  refine kRi (rV C0 (tX5_lacks l D cI cS a0 a1 a2 a3 a4 a5 a6 a7 a8 a9 a10 a11 nw kp ad fd tp kn it wd sz nm mv ik td bg en so va iw im st ht v1 1 z_1 e_2) RX5 gX5_judge_X5_lacks rfl ⟨rfl, rfl⟩ pdX5_lacks rfl ⟨Nat.le_of_ble_eq_true rfl, Nat.le_of_ble_eq_true rfl⟩ (fun _ _ _ _ q => q) (va_recv hE.1 hPc (ci := 4) (q0 := 0) rfl rfl) (fun U hU _ _ => by rw [hU]; exact hPc) hl.1 rfl (Nat.le_of_ble_eq_true rfl) dX5_judge_3 ⟨Nat.zero_le _, Nat.zero_le _⟩) ?_
  refine lv_if_eq (tgt := 20) hx hb dX5_judge_6 (by decide) (fun c_3 => ?_) (fun c_3 => ?_)
  · have h := ifp c_3 h
    refine lv_iconst (v := 0) hx hb dX5_judge_20 (by decide) ?_
    refine lv_istore_n (lv' := [(2, .int 0), (0, .ref a0), (1, .int v1)]) hx hb dX5_judge_21 rfl hl (by decide) rfl (fun ls hl => ?_)
    exact lX5_judge_22 (l := l) (e := e) (below := below) C0 F nw kp ad fd tp kn it wd sz nm mv ik td bg en so va iw im st ht v1 z0 z1 hD F 0 _ _ hP hS _ (lv_sub hl [1, 2, 0] rfl) h
  · have h := ifn c_3 h
    refine lv_aload_n hx hb dX5_judge_9 rfl (lv_at hl 0 rfl) ?_
    refine lv_aload_n hx hb dX5_judge_10 rfl (lv_at hl 0 rfl) ?_
    refine lv_iload_n hx hb dX5_judge_11 rfl (lv_at hl 1 rfl) ?_
    refine lv_iconst (v := 1) hx hb dX5_judge_12 (by decide) ?_
    obtain ⟨z_17, e_18, h⟩ := bds h
    have hPc := hP.sub (ws' := (wX5 cI cS a0 a1 a2 a3 a4 a5 a6 a7 a8 a9 a10 a11 nw kp ad fd tp kn it wd sz nm mv ik td bg en so va iw im st ht)) [0, 1, 2, 3, 4, 5, 6, 7, 8, 9, 10, 11] rfl
    refine kRi (rV C0 (tX5_lacks l D cI cS a0 a1 a2 a3 a4 a5 a6 a7 a8 a9 a10 a11 nw kp ad fd tp kn it wd sz nm mv ik td bg en so va iw im st ht v1 1 z_17 e_18) RX5 gX5_judge_X5_lacks rfl ⟨rfl, rfl⟩ pdX5_lacks rfl ⟨Nat.le_of_ble_eq_true rfl, Nat.le_of_ble_eq_true rfl⟩ (fun _ _ _ _ q => q) (va_recv hE.1 hPc (ci := 4) (q0 := 0) rfl rfl) (fun U hU _ _ => by rw [hU]; exact hPc) hl.1 rfl (Nat.le_of_ble_eq_true rfl) dX5_judge_13 ⟨Nat.zero_le _, Nat.zero_le _⟩) ?_
    obtain ⟨z_19, e_20, h⟩ := bds h
    have hPc := hP.sub (ws' := (wX5 cI cS a0 a1 a2 a3 a4 a5 a6 a7 a8 a9 a10 a11 nw kp ad fd tp kn it wd sz nm mv ik td bg en so va iw im st ht)) [0, 1, 2, 3, 4, 5, 6, 7, 8, 9, 10, 11] rfl
    refine kMi (wf' := (wX5 cI cS a0 a1 a2 a3 a4 a5 a6 a7 a8 a9 a10 a11 nw kp ad z_19.2 tp kn it wd sz nm mv ik td bg en so va iw im st ht)) [0, 1, 2, 3, 4, 5, 6, 7, 8, 9, 10, 11] [some 0, some 1, some 2, some 3, some 4, some 5, some 6, some 7, some 8, some 9, some 10, some 11] (rV C0 (tX5_finding l D cI cS a0 a1 a2 a3 a4 a5 a6 a7 a8 a9 a10 a11 nw kp ad fd tp kn it wd sz nm mv ik td bg en so va iw im st ht z_17 z_19.1 z_19.2 e_20 (((hD (wX5 cI cS a0 a1 a2 a3 a4 a5 a6 a7 a8 a9 a10 a11 nw kp ad fd tp kn it wd sz nm mv ik td bg en so va iw im st ht) rfl).sub [0, 1, 2, 3, 4, 5, 6, 7, 8, 9, 10, 11] (by decide) rfl).weaken (fun _ _ _ _ => trivial))) RX5 gX5_judge_X5_finding rfl ⟨rfl, rfl⟩ pdX5_finding rfl ⟨Nat.le_of_ble_eq_true rfl, Nat.le_of_ble_eq_true rfl⟩ (fun _ _ _ _ q => q) (va_recv hE.1 hPc (ci := 4) (q0 := 0) rfl rfl) (fun U hU _ _ => by rw [hU]; exact hPc) hl.1 rfl (Nat.le_of_ble_eq_true rfl) dX5_judge_16 ⟨Nat.zero_le _, Nat.zero_le _⟩) hP (hD _ rfl) hS rfl rfl rfl (fun H locs hP hS => ?_)
    obtain ⟨q0, q1⟩ := Prod.mk.inj (Option.some.inj h)
    subst q0 q1
    exact eMi C0 hP hS rfl rfl dX5_judge_19
def fX5_image (F : Nat) (nw : Nat → Int32) (kp : Nat → Int32) (ik : Int32) : Option (Int32 × (Nat → Int32) × Int32) := Option.bind (fX5_copyRow F nw kp) (fun z_1 => some (1, z_1, 1))
abbrev rmX5_image : Room := { frames := 1, cells := 0, slots := 0, locals := 22 }
theorem pdX5_image : (yX5_image.cls = RX5 ∧ yX5_image.cls ≠ "java/lang/invoke/MethodHandle" ∧ yX5_image.cls ≠ "java/lang/invoke/VarHandle" ∧ (parseMethodDescriptor yX5_image.desc).map (fun d => d.parameters.length) = some 0) := by decide +kernel
set_option maxHeartbeats 4000000 in
set_option maxRecDepth 100000 in
theorem tX5_image (l : Launch) (D : va_G) (cI cS : ClassId) (F : Nat) (a0 a1 a2 a3 a4 a5 a6 a7 a8 a9 a10 a11 : Nat) (nw : Nat → Int32) (kp : Nat → Int32) (ad : Nat → Int32) (fd : Nat → Int32) (tp : Nat → Int32) (kn : Nat → Option Nat) (it : Nat → Int32) (wd : Nat → Int32) (sz : Nat → Int32) (nm : Nat → Int32) (mv : Nat → Int32) (ik : Int32) (td : Int32) (bg : Int32) (en : Int32) (so : Int32) (va : Int32) (iw : Int32) (im : Int32) (st : Int32) (ht : Int32) (z0 : Int32) (z1 : Nat → Int32) (z2 : Int32) (h : fX5_image F nw kp ik = some (z0, z1, z2)) (hD0 : va_D (fun _ => True) (wX5 cI cS a0 a1 a2 a3 a4 a5 a6 a7 a8 a9 a10 a11 nw kp ad fd tp kn it wd sz nm mv ik td bg en so va iw im st ht)) : Met l yX5_image wsX5_image rmX5_image (PZ D cI cS [.ref a0] (fun U => va_P D vwCl (wX5 cI cS a0 a1 a2 a3 a4 a5 a6 a7 a8 a9 a10 a11 nw kp ad fd tp kn it wd sz nm mv ik td bg en so va iw im st ht) U.heap)) (qI D (wX5 cI cS a0 a1 a2 a3 a4 a5 a6 a7 a8 a9 a10 a11 nw kp ad fd tp kn it wd sz nm mv ik td bg en so va iw im st ht) (wX5 cI cS a0 a1 a2 a3 a4 a5 a6 a7 a8 a9 a10 a11 nw z1 ad fd tp kn it wd sz nm mv z2 td bg en so va iw im st ht) z0) 0 0 (wA (wX5 cI cS a0 a1 a2 a3 a4 a5 a6 a7 a8 a9 a10 a11 nw kp ad fd tp kn it wd sz nm mv ik td bg en so va iw im st ht)) := by
  refine Met.mk RX5 (by decide) rfl rfl (Nat.le_of_ble_eq_true rfl) ?_
  intro p e s m below meth c ls C0 hP hl
  have hl : lv_has ls 1 [(0, .ref a0)] := hl
  obtain ⟨hx, hb, hr, hml, hown, hts, hlk, hE⟩ := id C0
  have hinX5 : ∀ w ∈ u_ws RX5 TX5 21, w ∈ wsX5_image := by decide +kernel
  have hD : ∀ W : va_W, W.map Prod.fst = [a0, a1, a2, a3, a4, a5, a6, a7, a8, a9, a10, a11] → va_D (wA (wX5 cI cS a0 a1 a2 a3 a4 a5 a6 a7 a8 a9 a10 a11 nw kp ad fd tp kn it wd sz nm mv ik td bg en so va iw im st ht)) W := fun W hW => hD0.own.re hW
  have hS : va_S (wA (wX5 cI cS a0 a1 a2 a3 a4 a5 a6 a7 a8 a9 a10 a11 nw kp ad fd tp kn it wd sz nm mv ik td bg en so va iw im st ht)) s.heap s.heap [] := va_S.rf
  have hP : va_P D vwCl (wX5 cI cS a0 a1 a2 a3 a4 a5 a6 a7 a8 a9 a10 a11 nw kp ad fd tp kn it wd sz nm mv ik td bg en so va iw im st ht) s.heap := hP
  rw [fX5_image] at h
  refine lv_aload_n hx hb dX5_image_0 rfl (lv_at hl 0 rfl) ?_
  refine va_get (D := D) (ci := 4) (v := .ref a1) (C := RX5) (T := TX5) (N := 21) hx hb hts hinX5 hown hE.1 hP 0 rfl rfl 0 (by decide) (hts _ (List.mem_of_getElem? (i := 1) rfl)) (fun _ h9 => h9) rfl dX5_image_1 ?_
  refine lv_aload_n hx hb dX5_image_4 rfl (lv_at hl 0 rfl) ?_
  refine va_get (D := D) (ci := 4) (v := .ref a2) (C := RX5) (T := TX5) (N := 21) hx hb hts hinX5 hown hE.1 hP 0 rfl rfl 1 (by decide) (hts _ (List.mem_of_getElem? (i := 2) rfl)) (fun _ h9 => h9) rfl dX5_image_5 ?_
  obtain ⟨z_1, e_2, h⟩ := bds h
  have hPc := hP.sub (ws' := (wR2 cI cS a1 a2 nw kp)) [1, 2] rfl
  refine kMv (wf' := (wX5 cI cS a0 a1 a2 a3 a4 a5 a6 a7 a8 a9 a10 a11 nw z_1 ad fd tp kn it wd sz nm mv ik td bg en so va iw im st ht)) [1, 2] [none, some 0, some 1, none, none, none, none, none, none, none, none, none] (rS C0 (tX5_copyRow l D cI cS F a1 a2 nw kp  z_1 e_2 (((hD (wX5 cI cS a0 a1 a2 a3 a4 a5 a6 a7 a8 a9 a10 a11 nw kp ad fd tp kn it wd sz nm mv ik td bg en so va iw im st ht) rfl).sub [1, 2] (by decide) rfl).weaken (fun _ _ _ _ => trivial))) gX5_image_X5_copyRow rfl ⟨rfl, rfl⟩ pdX5_copyRow rfl ⟨Nat.le_of_ble_eq_true rfl, Nat.le_of_ble_eq_true rfl⟩ (fun _ _ _ _ q => q) (fun U hU _ _ => by rw [hU]; exact hPc) hl.1 rfl (Nat.le_of_ble_eq_true rfl) dX5_image_8 ⟨Nat.zero_le _, Nat.zero_le _⟩) hP (hD _ rfl) hS rfl rfl rfl (fun H locs hP hS => ?_)
  refine lv_aload_n hx hb dX5_image_11 rfl (lv_at hl 0 rfl) ?_
  refine lv_iconst (v := 1) hx hb dX5_image_12 (by decide) ?_
  refine va_put (D := D) (ci := 4) (v := .int 1) (ty := .boolean) (C := RX5) (T := TX5) (N := 21) hx hb hts hinX5 tyX5 tyX5_ok nmX5 hown hE.1 hP (hD _ rfl) hS 0 rfl rfl 3 (by decide) (hts _ (List.mem_of_getElem? (i := 3) rfl)) (fun _ h9 => h9) rfl (by decide +kernel) rfl rfl (Nat.le_of_ble_eq_true rfl) dX5_image_13 (fun H locs hP _ hS => ?_)
  have hP : va_P D vwCl (wX5 cI cS a0 a1 a2 a3 a4 a5 a6 a7 a8 a9 a10 a11 nw z_1 ad fd tp kn it wd sz nm mv 1 td bg en so va iw im st ht) H := hP
  refine lv_iconst (v := 1) hx hb dX5_image_16 (by decide) ?_
  obtain ⟨q0, g0⟩ := Prod.mk.inj (Option.some.inj h)
  obtain ⟨q1, q2⟩ := Prod.mk.inj g0
  subst q0 q1 q2
  exact eMi C0 hP hS rfl rfl dX5_image_17
def fX5_undo (F : Nat) (nw : Nat → Int32) (kp : Nat → Int32) (fd : Nat → Int32) (ik : Int32) : Option (Int32 × (Nat → Int32) × (Nat → Int32)) := (if ik = 0 then Option.bind (fX5_finding fd (-1000004)) (fun z_4 => some (z_4.1, nw, z_4.2)) else Option.bind (fX5_copyRow F kp nw) (fun z_2 => some (z_2 0, z_2, fd)))
abbrev rmX5_undo : Room := { frames := 1, cells := 0, slots := 0, locals := 22 }
theorem pdX5_undo : (yX5_undo.cls = RX5 ∧ yX5_undo.cls ≠ "java/lang/invoke/MethodHandle" ∧ yX5_undo.cls ≠ "java/lang/invoke/VarHandle" ∧ (parseMethodDescriptor yX5_undo.desc).map (fun d => d.parameters.length) = some 0) := by decide +kernel
set_option maxHeartbeats 4000000 in
set_option maxRecDepth 100000 in
theorem tX5_undo (l : Launch) (D : va_G) (cI cS : ClassId) (F : Nat) (a0 a1 a2 a3 a4 a5 a6 a7 a8 a9 a10 a11 : Nat) (nw : Nat → Int32) (kp : Nat → Int32) (ad : Nat → Int32) (fd : Nat → Int32) (tp : Nat → Int32) (kn : Nat → Option Nat) (it : Nat → Int32) (wd : Nat → Int32) (sz : Nat → Int32) (nm : Nat → Int32) (mv : Nat → Int32) (ik : Int32) (td : Int32) (bg : Int32) (en : Int32) (so : Int32) (va : Int32) (iw : Int32) (im : Int32) (st : Int32) (ht : Int32) (z0 : Int32) (z1 : Nat → Int32) (z2 : Nat → Int32) (h : fX5_undo F nw kp fd ik = some (z0, z1, z2)) (hD0 : va_D (fun _ => True) (wX5 cI cS a0 a1 a2 a3 a4 a5 a6 a7 a8 a9 a10 a11 nw kp ad fd tp kn it wd sz nm mv ik td bg en so va iw im st ht)) : Met l yX5_undo wsX5_undo rmX5_undo (PZ D cI cS [.ref a0] (fun U => va_P D vwCl (wX5 cI cS a0 a1 a2 a3 a4 a5 a6 a7 a8 a9 a10 a11 nw kp ad fd tp kn it wd sz nm mv ik td bg en so va iw im st ht) U.heap)) (qI D (wX5 cI cS a0 a1 a2 a3 a4 a5 a6 a7 a8 a9 a10 a11 nw kp ad fd tp kn it wd sz nm mv ik td bg en so va iw im st ht) (wX5 cI cS a0 a1 a2 a3 a4 a5 a6 a7 a8 a9 a10 a11 z1 kp ad z2 tp kn it wd sz nm mv ik td bg en so va iw im st ht) z0) 0 0 (wA (wX5 cI cS a0 a1 a2 a3 a4 a5 a6 a7 a8 a9 a10 a11 nw kp ad fd tp kn it wd sz nm mv ik td bg en so va iw im st ht)) := by
  refine Met.mk RX5 (by decide) rfl rfl (Nat.le_of_ble_eq_true rfl) ?_
  intro p e s m below meth c ls C0 hP hl
  have hl : lv_has ls 1 [(0, .ref a0)] := hl
  obtain ⟨hx, hb, hr, hml, hown, hts, hlk, hE⟩ := id C0
  have hinX5 : ∀ w ∈ u_ws RX5 TX5 21, w ∈ wsX5_undo := by decide +kernel
  have hD : ∀ W : va_W, W.map Prod.fst = [a0, a1, a2, a3, a4, a5, a6, a7, a8, a9, a10, a11] → va_D (wA (wX5 cI cS a0 a1 a2 a3 a4 a5 a6 a7 a8 a9 a10 a11 nw kp ad fd tp kn it wd sz nm mv ik td bg en so va iw im st ht)) W := fun W hW => hD0.own.re hW
  have hS : va_S (wA (wX5 cI cS a0 a1 a2 a3 a4 a5 a6 a7 a8 a9 a10 a11 nw kp ad fd tp kn it wd sz nm mv ik td bg en so va iw im st ht)) s.heap s.heap [] := va_S.rf
  have hP : va_P D vwCl (wX5 cI cS a0 a1 a2 a3 a4 a5 a6 a7 a8 a9 a10 a11 nw kp ad fd tp kn it wd sz nm mv ik td bg en so va iw im st ht) s.heap := hP
  rw [fX5_undo] at h
  refine lv_aload_n hx hb dX5_undo_0 rfl (lv_at hl 0 rfl) ?_
  refine va_get (D := D) (ci := 4) (v := .int ik) (C := RX5) (T := TX5) (N := 21) hx hb hts hinX5 hown hE.1 hP 0 rfl rfl 3 (by decide) (hts _ (List.mem_of_getElem? (i := 1) rfl)) (fun _ h9 => h9) rfl dX5_undo_1 ?_
  refine lv_if_ne (tgt := 14) hx hb dX5_undo_4 (by decide) (fun c_1 => ?_) (fun c_1 => ?_)
  · have h := ifn c_1 h
    refine lv_aload_n hx hb dX5_undo_14 rfl (lv_at hl 0 rfl) ?_
    refine va_get (D := D) (ci := 4) (v := .ref a2) (C := RX5) (T := TX5) (N := 21) hx hb hts hinX5 hown hE.1 hP 0 rfl rfl 1 (by decide) (hts _ (List.mem_of_getElem? (i := 3) rfl)) (fun _ h9 => h9) rfl dX5_undo_15 ?_
    refine lv_aload_n hx hb dX5_undo_18 rfl (lv_at hl 0 rfl) ?_
    refine va_get (D := D) (ci := 4) (v := .ref a1) (C := RX5) (T := TX5) (N := 21) hx hb hts hinX5 hown hE.1 hP 0 rfl rfl 0 (by decide) (hts _ (List.mem_of_getElem? (i := 4) rfl)) (fun _ h9 => h9) rfl dX5_undo_19 ?_
    obtain ⟨z_2, e_3, h⟩ := bds h
    have hPc := hP.sub (ws' := (wR2 cI cS a2 a1 kp nw)) [2, 1] rfl
    refine kMv (wf' := (wX5 cI cS a0 a1 a2 a3 a4 a5 a6 a7 a8 a9 a10 a11 z_2 kp ad fd tp kn it wd sz nm mv ik td bg en so va iw im st ht)) [2, 1] [none, some 1, some 0, none, none, none, none, none, none, none, none, none] (rS C0 (tX5_copyRow l D cI cS F a2 a1 kp nw  z_2 e_3 (((hD (wX5 cI cS a0 a1 a2 a3 a4 a5 a6 a7 a8 a9 a10 a11 nw kp ad fd tp kn it wd sz nm mv ik td bg en so va iw im st ht) rfl).sub [2, 1] (by decide) rfl).weaken (fun _ _ _ _ => trivial))) gX5_undo_X5_copyRow rfl ⟨rfl, rfl⟩ pdX5_copyRow rfl ⟨Nat.le_of_ble_eq_true rfl, Nat.le_of_ble_eq_true rfl⟩ (fun _ _ _ _ q => q) (fun U hU _ _ => by rw [hU]; exact hPc) hl.1 rfl (Nat.le_of_ble_eq_true rfl) dX5_undo_22 ⟨Nat.zero_le _, Nat.zero_le _⟩) hP (hD _ rfl) hS rfl rfl rfl (fun H locs hP hS => ?_)
    refine lv_aload_n hx hb dX5_undo_25 rfl (lv_at hl 0 rfl) ?_
    refine va_get (D := D) (ci := 4) (v := .ref a1) (C := RX5) (T := TX5) (N := 21) hx hb hts hinX5 hown hE.1 hP 0 rfl rfl 0 (by decide) (hts _ (List.mem_of_getElem? (i := 4) rfl)) (fun _ h9 => h9) rfl dX5_undo_26 ?_
    refine lv_iconst (v := 0) hx hb dX5_undo_29 (by decide) ?_
    refine va_iald hx hb hE.1 hP 1 0 rfl rfl (by unfold vp_in; decide : vp_in 0 84) dX5_undo_30 ?_
    refine lv_eqi (y := z_2 0) rfl ?_
    obtain ⟨q0, g0⟩ := Prod.mk.inj (Option.some.inj h)
    obtain ⟨q1, q2⟩ := Prod.mk.inj g0
    subst q0 q1 q2
    exact eMi C0 hP hS rfl rfl dX5_undo_31
  · have h := ifp c_1 h
    refine lv_aload_n hx hb dX5_undo_7 rfl (lv_at hl 0 rfl) ?_
    refine lv_ldc (v := (-1000004)) hx hb hown (hts _ (List.mem_of_getElem? (i := 2) rfl)) dX5_undo_8 ?_
    obtain ⟨z_4, e_5, h⟩ := bds h
    have hPc := hP.sub (ws' := (wX5 cI cS a0 a1 a2 a3 a4 a5 a6 a7 a8 a9 a10 a11 nw kp ad fd tp kn it wd sz nm mv ik td bg en so va iw im st ht)) [0, 1, 2, 3, 4, 5, 6, 7, 8, 9, 10, 11] rfl
    refine kMi (wf' := (wX5 cI cS a0 a1 a2 a3 a4 a5 a6 a7 a8 a9 a10 a11 nw kp ad z_4.2 tp kn it wd sz nm mv ik td bg en so va iw im st ht)) [0, 1, 2, 3, 4, 5, 6, 7, 8, 9, 10, 11] [some 0, some 1, some 2, some 3, some 4, some 5, some 6, some 7, some 8, some 9, some 10, some 11] (rV C0 (tX5_finding l D cI cS a0 a1 a2 a3 a4 a5 a6 a7 a8 a9 a10 a11 nw kp ad fd tp kn it wd sz nm mv ik td bg en so va iw im st ht (-1000004) z_4.1 z_4.2 e_5 (((hD (wX5 cI cS a0 a1 a2 a3 a4 a5 a6 a7 a8 a9 a10 a11 nw kp ad fd tp kn it wd sz nm mv ik td bg en so va iw im st ht) rfl).sub [0, 1, 2, 3, 4, 5, 6, 7, 8, 9, 10, 11] (by decide) rfl).weaken (fun _ _ _ _ => trivial))) RX5 gX5_undo_X5_finding rfl ⟨rfl, rfl⟩ pdX5_finding rfl ⟨Nat.le_of_ble_eq_true rfl, Nat.le_of_ble_eq_true rfl⟩ (fun _ _ _ _ q => q) (va_recv hE.1 hPc (ci := 4) (q0 := 0) rfl rfl) (fun U hU _ _ => by rw [hU]; exact hPc) hl.1 rfl (Nat.le_of_ble_eq_true rfl) dX5_undo_10 ⟨Nat.zero_le _, Nat.zero_le _⟩) hP (hD _ rfl) hS rfl rfl rfl (fun H locs hP hS => ?_)
    obtain ⟨q0, g0⟩ := Prod.mk.inj (Option.some.inj h)
    obtain ⟨q1, q2⟩ := Prod.mk.inj g0
    subst q0 q1 q2
    exact eMi C0 hP hS rfl rfl dX5_undo_13
def fX5_tear (ik : Int32) : Int32 × Int32 := (if ik = 0 then (0, 0) else (1, 0))
def fX5_tear_o0 (ik : Int32) : Int32 := (fX5_tear ik).1
def fX5_tear_o1 (ik : Int32) : Int32 := (fX5_tear ik).2
theorem eeX5_tear (ik : Int32) : fX5_tear ik = (fX5_tear_o0 ik, fX5_tear_o1 ik) := rfl
abbrev rmX5_tear : Room := { frames := 0, cells := 0, slots := 0, locals := 0 }
theorem pdX5_tear : (yX5_tear.cls = RX5 ∧ yX5_tear.cls ≠ "java/lang/invoke/MethodHandle" ∧ yX5_tear.cls ≠ "java/lang/invoke/VarHandle" ∧ (parseMethodDescriptor yX5_tear.desc).map (fun d => d.parameters.length) = some 0) := by decide +kernel
set_option maxHeartbeats 4000000 in
set_option maxRecDepth 100000 in
theorem tX5_tear (l : Launch) (D : va_G) (cI cS : ClassId) (a0 a1 a2 a3 a4 a5 a6 a7 a8 a9 a10 a11 : Nat) (nw : Nat → Int32) (kp : Nat → Int32) (ad : Nat → Int32) (fd : Nat → Int32) (tp : Nat → Int32) (kn : Nat → Option Nat) (it : Nat → Int32) (wd : Nat → Int32) (sz : Nat → Int32) (nm : Nat → Int32) (mv : Nat → Int32) (ik : Int32) (td : Int32) (bg : Int32) (en : Int32) (so : Int32) (va : Int32) (iw : Int32) (im : Int32) (st : Int32) (ht : Int32) (z0 : Int32) (z1 : Int32) (h : fX5_tear ik = (z0, z1)) (hD0 : va_D (fun _ => True) (wX5 cI cS a0 a1 a2 a3 a4 a5 a6 a7 a8 a9 a10 a11 nw kp ad fd tp kn it wd sz nm mv ik td bg en so va iw im st ht)) : Met l yX5_tear wsX5_tear rmX5_tear (PZ D cI cS [.ref a0] (fun U => va_P D vwCl (wX5 cI cS a0 a1 a2 a3 a4 a5 a6 a7 a8 a9 a10 a11 nw kp ad fd tp kn it wd sz nm mv ik td bg en so va iw im st ht) U.heap)) (qI D (wX5 cI cS a0 a1 a2 a3 a4 a5 a6 a7 a8 a9 a10 a11 nw kp ad fd tp kn it wd sz nm mv ik td bg en so va iw im st ht) (wX5 cI cS a0 a1 a2 a3 a4 a5 a6 a7 a8 a9 a10 a11 nw kp ad fd tp kn it wd sz nm mv z1 td bg en so va iw im st ht) z0) 0 0 (wA (wX5 cI cS a0 a1 a2 a3 a4 a5 a6 a7 a8 a9 a10 a11 nw kp ad fd tp kn it wd sz nm mv ik td bg en so va iw im st ht)) := by
  refine Met.mk RX5 (by decide) rfl rfl (Nat.le_of_ble_eq_true rfl) ?_
  intro p e s m below meth c ls C0 hP hl
  have hl : lv_has ls 2 [(0, .ref a0)] := hl
  obtain ⟨hx, hb, hr, hml, hown, hts, hlk, hE⟩ := id C0
  have hinX5 : ∀ w ∈ u_ws RX5 TX5 21, w ∈ wsX5_tear := by decide +kernel
  have hD : ∀ W : va_W, W.map Prod.fst = [a0, a1, a2, a3, a4, a5, a6, a7, a8, a9, a10, a11] → va_D (wA (wX5 cI cS a0 a1 a2 a3 a4 a5 a6 a7 a8 a9 a10 a11 nw kp ad fd tp kn it wd sz nm mv ik td bg en so va iw im st ht)) W := fun W hW => hD0.own.re hW
  have hS : va_S (wA (wX5 cI cS a0 a1 a2 a3 a4 a5 a6 a7 a8 a9 a10 a11 nw kp ad fd tp kn it wd sz nm mv ik td bg en so va iw im st ht)) s.heap s.heap [] := va_S.rf
  have hP : va_P D vwCl (wX5 cI cS a0 a1 a2 a3 a4 a5 a6 a7 a8 a9 a10 a11 nw kp ad fd tp kn it wd sz nm mv ik td bg en so va iw im st ht) s.heap := hP
  rw [fX5_tear] at h
  refine lv_aload_n hx hb dX5_tear_0 rfl (lv_at hl 0 rfl) ?_
  refine va_get (D := D) (ci := 4) (v := .int ik) (C := RX5) (T := TX5) (N := 21) hx hb hts hinX5 hown hE.1 hP 0 rfl rfl 3 (by decide) (hts _ (List.mem_of_getElem? (i := 1) rfl)) (fun _ h9 => h9) rfl dX5_tear_1 ?_
  refine lv_if_eq (tgt := 11) hx hb dX5_tear_4 (by decide) (fun c_1 => ?_) (fun c_1 => ?_)
  · have h := ifp c_1 h
    refine lv_iconst (v := 0) hx hb dX5_tear_11 (by decide) ?_
    refine lv_istore_n (lv' := [(1, .int 0), (0, .ref a0)]) hx hb dX5_tear_12 rfl hl (by decide) rfl (fun ls hl => ?_)
    refine lv_aload_n hx hb dX5_tear_13 rfl (lv_at hl 1 rfl) ?_
    refine lv_iconst (v := 0) hx hb dX5_tear_14 (by decide) ?_
    refine va_put (D := D) (ci := 4) (v := .int 0) (ty := .boolean) (C := RX5) (T := TX5) (N := 21) hx hb hts hinX5 tyX5 tyX5_ok nmX5 hown hE.1 hP (hD _ rfl) hS 0 rfl rfl 3 (by decide) (hts _ (List.mem_of_getElem? (i := 1) rfl)) (fun _ h9 => h9) rfl (by decide +kernel) rfl rfl (Nat.le_of_ble_eq_true rfl) dX5_tear_15 (fun H locs hP _ hS => ?_)
    have hP : va_P D vwCl (wX5 cI cS a0 a1 a2 a3 a4 a5 a6 a7 a8 a9 a10 a11 nw kp ad fd tp kn it wd sz nm mv 0 td bg en so va iw im st ht) H := hP
    refine lv_iload_n hx hb dX5_tear_18 rfl (lv_at hl 0 rfl) ?_
    obtain ⟨q0, q1⟩ := Prod.mk.inj (h)
    subst q0 q1
    exact eMi C0 hP hS rfl rfl dX5_tear_19
  · have h := ifn c_1 h
    refine lv_iconst (v := 1) hx hb dX5_tear_7 (by decide) ?_
    refine lv_goto (tgt := 12) hx hb dX5_tear_8 (by decide) ?_
    refine lv_istore_n (lv' := [(1, .int 1), (0, .ref a0)]) hx hb dX5_tear_12 rfl hl (by decide) rfl (fun ls hl => ?_)
    refine lv_aload_n hx hb dX5_tear_13 rfl (lv_at hl 1 rfl) ?_
    refine lv_iconst (v := 0) hx hb dX5_tear_14 (by decide) ?_
    refine va_put (D := D) (ci := 4) (v := .int 0) (ty := .boolean) (C := RX5) (T := TX5) (N := 21) hx hb hts hinX5 tyX5 tyX5_ok nmX5 hown hE.1 hP (hD _ rfl) hS 0 rfl rfl 3 (by decide) (hts _ (List.mem_of_getElem? (i := 1) rfl)) (fun _ h9 => h9) rfl (by decide +kernel) rfl rfl (Nat.le_of_ble_eq_true rfl) dX5_tear_15 (fun H locs hP _ hS => ?_)
    have hP : va_P D vwCl (wX5 cI cS a0 a1 a2 a3 a4 a5 a6 a7 a8 a9 a10 a11 nw kp ad fd tp kn it wd sz nm mv 0 td bg en so va iw im st ht) H := hP
    refine lv_iload_n hx hb dX5_tear_18 rfl (lv_at hl 0 rfl) ?_
    obtain ⟨q0, q1⟩ := Prod.mk.inj (h)
    subst q0 q1
    exact eMi C0 hP hS rfl rfl dX5_tear_19
def fX5_count_96 (nw : Nat → Int32) (fd : Nat → Int32) : Nat → Int32 → Int32 → Option (Int32 × (Nat → Int32))
  | 0, _, _ => none
  | n + 1, v2, v3 => (if 10 ≤ v3 then some (v2, fd) else if ¬ ((10 + v3) < 0 ∨ 84 ≤ (10 + v3).toNatClampNeg) then (if 0 ≤ (nw (10 + v3).toNatClampNeg) then fX5_count_96 nw fd n (v2 + 1) (v3 + 1) else fX5_count_96 nw fd n (v2 + 0) (v3 + 1)) else none)
def fX5_count (F : Nat) (nw : Nat → Int32) (fd : Nat → Int32) (td : Int32) (v1 : Int32) : Option (Int32 × (Nat → Int32)) := (if v1 = 0 then some (nw 0, fd) else if v1 = 1 then some (nw 1, fd) else if v1 = 2 then some (nw 3, fd) else if v1 = 3 then Option.bind (fX5_waitedInAll F nw) (fun z_5 => some (z_5, fd)) else if v1 = 4 then Option.bind (fX5_finishedOnes F nw) (fun z_8 => Option.bind (fX5_bits F z_8) (fun z_10 => some (z_10, fd))) else if v1 = 5 then some (td, fd) else if v1 = 6 then some (nw 2, fd) else if v1 = 7 then fX5_count_96 nw fd F 0 0 else Option.bind (fX5_finding fd (-1000001)) (fun z_18 => some (z_18.1, z_18.2)))
abbrev rmX5_count : Room := { frames := 3, cells := 0, slots := 0, locals := 65 }
theorem pdX5_count : (yX5_count.cls = RX5 ∧ yX5_count.cls ≠ "java/lang/invoke/MethodHandle" ∧ yX5_count.cls ≠ "java/lang/invoke/VarHandle" ∧ (parseMethodDescriptor yX5_count.desc).map (fun d => d.parameters.length) = some 1) := by decide +kernel
set_option maxHeartbeats 4000000 in
set_option maxRecDepth 100000 in
theorem lX5_count_96 {p : Program} {l : Launch} {e : Env} {s : State} {m : MethodId} {av : Array Value} {below : List Frame} {meth : Method} {c : Code} {D : va_G} {cI cS : ClassId} {a0 a1 a2 a3 a4 a5 a6 a7 a8 a9 a10 a11 : Nat} {W0 : va_W} (C0 : CX p s m av meth c RX5 cX5_count 4 (some .int) wsX5_count D cI cS) (F : Nat) (nw : Nat → Int32) (kp : Nat → Int32) (ad : Nat → Int32) (fd : Nat → Int32) (tp : Nat → Int32) (kn : Nat → Option Nat) (it : Nat → Int32) (wd : Nat → Int32) (sz : Nat → Int32) (nm : Nat → Int32) (mv : Nat → Int32) (ik : Int32) (td : Int32) (bg : Int32) (en : Int32) (so : Int32) (va : Int32) (iw : Int32) (im : Int32) (st : Int32) (ht : Int32) (z0 : Int32) (z1 : Nat → Int32) (hD : ∀ W : va_W, W.map Prod.fst = [a0, a1, a2, a3, a4, a5, a6, a7, a8, a9, a10, a11] → va_D (wA W0) W) : ∀ (n : Nat) (v2 : Int32) (v3 : Int32) (H : Heap) (locs : List Loc), va_P D vwCl (wX5 cI cS a0 a1 a2 a3 a4 a5 a6 a7 a8 a9 a10 a11 nw kp ad fd tp kn it wd sz nm mv ik td bg en so va iw im st ht) H → va_S (wA W0) s.heap H locs → ∀ (ls : Array Slot), lv_has ls 4 [(0, .ref a0), (2, .int v2), (3, .int v3)] → fX5_count_96 nw fd n v2 v3 = some (z0, z1) → W p l e rmX5_count s m av below meth c H locs 0 0 (MQ below (qI D W0 (wX5 cI cS a0 a1 a2 a3 a4 a5 a6 a7 a8 a9 a10 a11 nw kp ad z1 tp kn it wd sz nm mv ik td bg en so va iw im st ht) z0) av s 0 0 (wA W0)) (F0 m 96 ls []) := by
  obtain ⟨hx, hb, hr, hml, hown, hts, hlk, hE⟩ := id C0
  have hinX5 : ∀ w ∈ u_ws RX5 TX5 21, w ∈ wsX5_count := by decide +kernel
  intro n
  induction n with
  | zero =>
    intro v2 v3 H locs hP hS ls hl h
    cases (show none = some (z0, z1) from h)
  | succ n ih =>
    intro v2 v3 H locs hP hS ls hl h
    rw [fX5_count_96] at h
    refine lv_iload_n hx hb dX5_count_96 rfl (lv_at hl 2 rfl) ?_
    refine lv_bipush (v := 10) hx hb dX5_count_97 (by decide) ?_
    refine lv_icmp_ge (tgt := 128) hx hb dX5_count_99 (by decide) (fun c_15 => ?_) (fun c_15 => ?_)
    · have h := ifp c_15 h
      refine lv_iload_n hx hb dX5_count_128 rfl (lv_at hl 1 rfl) ?_
      obtain ⟨q0, q1⟩ := Prod.mk.inj (Option.some.inj h)
      subst q0 q1
      exact eMi C0 hP hS rfl rfl dX5_count_129
    · have h := ifn c_15 h
      refine lv_iload_n hx hb dX5_count_102 rfl (lv_at hl 1 rfl) ?_
      refine lv_aload_n hx hb dX5_count_103 rfl (lv_at hl 0 rfl) ?_
      refine va_get (D := D) (ci := 4) (v := .ref a1) (C := RX5) (T := TX5) (N := 21) hx hb hts hinX5 hown hE.1 hP 0 rfl rfl 0 (by decide) (hts _ (List.mem_of_getElem? (i := 1) rfl)) (fun _ h9 => h9) rfl dX5_count_104 ?_
      refine lv_bipush (v := 10) hx hb dX5_count_107 (by decide) ?_
      refine lv_iload_n hx hb dX5_count_109 rfl (lv_at hl 2 rfl) ?_
      refine lv_iadd hx hb dX5_count_110 ?_
      obtain ⟨hi_16, h⟩ := ifs h
      refine va_iald hx hb hE.1 hP 1 0 rfl rfl hi_16 dX5_count_111 ?_
      refine lv_if_ge (tgt := 119) hx hb dX5_count_112 (by decide) (fun c_17 => ?_) (fun c_17 => ?_)
      · have h := ifp c_17 h
        refine lv_iconst (v := 1) hx hb dX5_count_119 (by decide) ?_
        refine lv_iadd hx hb dX5_count_120 ?_
        refine lv_istore_n (lv' := [(2, .int (v2 + 1)), (0, .ref a0), (3, .int v3)]) hx hb dX5_count_121 rfl hl (by decide) rfl (fun ls hl => ?_)
        refine lv_iinc (v := v3 + 1) (lv' := [(3, .int (v3 + 1)), (2, .int (v2 + 1)), (0, .ref a0)]) hx hb dX5_count_122 hl (k := 2) rfl rfl (by decide) rfl (fun ls hl => ?_)
        refine lv_goto (tgt := 96) hx hb dX5_count_125 (by decide) ?_
        exact ih (v2 + 1) (v3 + 1) _ _ hP hS _ (lv_sub hl [2, 1, 0] rfl) h
      · have h := ifn c_17 h
        refine lv_iconst (v := 0) hx hb dX5_count_115 (by decide) ?_
        refine lv_goto (tgt := 120) hx hb dX5_count_116 (by decide) ?_
        refine lv_iadd hx hb dX5_count_120 ?_
        refine lv_istore_n (lv' := [(2, .int (v2 + 0)), (0, .ref a0), (3, .int v3)]) hx hb dX5_count_121 rfl hl (by decide) rfl (fun ls hl => ?_)
        refine lv_iinc (v := v3 + 1) (lv' := [(3, .int (v3 + 1)), (2, .int (v2 + 0)), (0, .ref a0)]) hx hb dX5_count_122 hl (k := 2) rfl rfl (by decide) rfl (fun ls hl => ?_)
        refine lv_goto (tgt := 96) hx hb dX5_count_125 (by decide) ?_
        exact ih (v2 + 0) (v3 + 1) _ _ hP hS _ (lv_sub hl [2, 1, 0] rfl) h
set_option maxHeartbeats 4000000 in
set_option maxRecDepth 100000 in
theorem tX5_count (l : Launch) (D : va_G) (cI cS : ClassId) (F : Nat) (a0 a1 a2 a3 a4 a5 a6 a7 a8 a9 a10 a11 : Nat) (nw : Nat → Int32) (kp : Nat → Int32) (ad : Nat → Int32) (fd : Nat → Int32) (tp : Nat → Int32) (kn : Nat → Option Nat) (it : Nat → Int32) (wd : Nat → Int32) (sz : Nat → Int32) (nm : Nat → Int32) (mv : Nat → Int32) (ik : Int32) (td : Int32) (bg : Int32) (en : Int32) (so : Int32) (va : Int32) (iw : Int32) (im : Int32) (st : Int32) (ht : Int32) (v1 : Int32) (z0 : Int32) (z1 : Nat → Int32) (h : fX5_count F nw fd td v1 = some (z0, z1)) (hD0 : va_D (fun _ => True) (wX5 cI cS a0 a1 a2 a3 a4 a5 a6 a7 a8 a9 a10 a11 nw kp ad fd tp kn it wd sz nm mv ik td bg en so va iw im st ht)) : Met l yX5_count wsX5_count rmX5_count (PZ D cI cS [.ref a0, .int v1] (fun U => va_P D vwCl (wX5 cI cS a0 a1 a2 a3 a4 a5 a6 a7 a8 a9 a10 a11 nw kp ad fd tp kn it wd sz nm mv ik td bg en so va iw im st ht) U.heap)) (qI D (wX5 cI cS a0 a1 a2 a3 a4 a5 a6 a7 a8 a9 a10 a11 nw kp ad fd tp kn it wd sz nm mv ik td bg en so va iw im st ht) (wX5 cI cS a0 a1 a2 a3 a4 a5 a6 a7 a8 a9 a10 a11 nw kp ad z1 tp kn it wd sz nm mv ik td bg en so va iw im st ht) z0) 0 0 (wA (wX5 cI cS a0 a1 a2 a3 a4 a5 a6 a7 a8 a9 a10 a11 nw kp ad fd tp kn it wd sz nm mv ik td bg en so va iw im st ht)) := by
  refine Met.mk RX5 (by decide) rfl rfl (Nat.le_of_ble_eq_true rfl) ?_
  intro p e s m below meth c ls C0 hP hl
  have hl : lv_has ls 4 [(0, .ref a0), (1, .int v1)] := hl
  obtain ⟨hx, hb, hr, hml, hown, hts, hlk, hE⟩ := id C0
  have hinX5 : ∀ w ∈ u_ws RX5 TX5 21, w ∈ wsX5_count := by decide +kernel
  have hD : ∀ W : va_W, W.map Prod.fst = [a0, a1, a2, a3, a4, a5, a6, a7, a8, a9, a10, a11] → va_D (wA (wX5 cI cS a0 a1 a2 a3 a4 a5 a6 a7 a8 a9 a10 a11 nw kp ad fd tp kn it wd sz nm mv ik td bg en so va iw im st ht)) W := fun W hW => hD0.own.re hW
  have hS : va_S (wA (wX5 cI cS a0 a1 a2 a3 a4 a5 a6 a7 a8 a9 a10 a11 nw kp ad fd tp kn it wd sz nm mv ik td bg en so va iw im st ht)) s.heap s.heap [] := va_S.rf
  have hP : va_P D vwCl (wX5 cI cS a0 a1 a2 a3 a4 a5 a6 a7 a8 a9 a10 a11 nw kp ad fd tp kn it wd sz nm mv ik td bg en so va iw im st ht) s.heap := hP
  rw [fX5_count] at h
  refine lv_iconst (v := 0) hx hb dX5_count_0 (by decide) ?_
  refine lv_istore_n (lv' := [(2, .int 0), (0, .ref a0), (1, .int v1)]) hx hb dX5_count_1 rfl hl (by decide) rfl (fun ls hl => ?_)
  refine lv_iload_n hx hb dX5_count_2 rfl (lv_at hl 2 rfl) ?_
  by_cases c_1 : v1 = 0
  · have h := ifp c_1 h
    refine lv_tableIn (tgt := 48) hx hb dX5_count_3 (by rw [c_1]; decide) (by rw [c_1]; decide) (by rw [c_1]; rfl) (by decide) ?_
    refine lv_aload_n hx hb dX5_count_48 rfl (lv_at hl 1 rfl) ?_
    refine va_get (D := D) (ci := 4) (v := .ref a1) (C := RX5) (T := TX5) (N := 21) hx hb hts hinX5 hown hE.1 hP 0 rfl rfl 0 (by decide) (hts _ (List.mem_of_getElem? (i := 1) rfl)) (fun _ h9 => h9) rfl dX5_count_49 ?_
    refine lv_iconst (v := 0) hx hb dX5_count_52 (by decide) ?_
    refine va_iald hx hb hE.1 hP 1 0 rfl rfl (by unfold vp_in; decide : vp_in 0 84) dX5_count_53 ?_
    refine lv_eqi (y := nw 0) rfl ?_
    obtain ⟨q0, q1⟩ := Prod.mk.inj (Option.some.inj h)
    subst q0 q1
    exact eMi C0 hP hS rfl rfl dX5_count_54
  have h := ifn c_1 h
  by_cases c_2 : v1 = 1
  · have h := ifp c_2 h
    refine lv_tableIn (tgt := 55) hx hb dX5_count_3 (by rw [c_2]; decide) (by rw [c_2]; decide) (by rw [c_2]; rfl) (by decide) ?_
    refine lv_aload_n hx hb dX5_count_55 rfl (lv_at hl 1 rfl) ?_
    refine va_get (D := D) (ci := 4) (v := .ref a1) (C := RX5) (T := TX5) (N := 21) hx hb hts hinX5 hown hE.1 hP 0 rfl rfl 0 (by decide) (hts _ (List.mem_of_getElem? (i := 1) rfl)) (fun _ h9 => h9) rfl dX5_count_56 ?_
    refine lv_iconst (v := 1) hx hb dX5_count_59 (by decide) ?_
    refine va_iald hx hb hE.1 hP 1 0 rfl rfl (by unfold vp_in; decide : vp_in 1 84) dX5_count_60 ?_
    refine lv_eqi (y := nw 1) rfl ?_
    obtain ⟨q0, q1⟩ := Prod.mk.inj (Option.some.inj h)
    subst q0 q1
    exact eMi C0 hP hS rfl rfl dX5_count_61
  have h := ifn c_2 h
  by_cases c_3 : v1 = 2
  · have h := ifp c_3 h
    refine lv_tableIn (tgt := 62) hx hb dX5_count_3 (by rw [c_3]; decide) (by rw [c_3]; decide) (by rw [c_3]; rfl) (by decide) ?_
    refine lv_aload_n hx hb dX5_count_62 rfl (lv_at hl 1 rfl) ?_
    refine va_get (D := D) (ci := 4) (v := .ref a1) (C := RX5) (T := TX5) (N := 21) hx hb hts hinX5 hown hE.1 hP 0 rfl rfl 0 (by decide) (hts _ (List.mem_of_getElem? (i := 1) rfl)) (fun _ h9 => h9) rfl dX5_count_63 ?_
    refine lv_iconst (v := 3) hx hb dX5_count_66 (by decide) ?_
    refine va_iald hx hb hE.1 hP 1 0 rfl rfl (by unfold vp_in; decide : vp_in 3 84) dX5_count_67 ?_
    refine lv_eqi (y := nw 3) rfl ?_
    obtain ⟨q0, q1⟩ := Prod.mk.inj (Option.some.inj h)
    subst q0 q1
    exact eMi C0 hP hS rfl rfl dX5_count_68
  have h := ifn c_3 h
  by_cases c_4 : v1 = 3
  · have h := ifp c_4 h
    refine lv_tableIn (tgt := 69) hx hb dX5_count_3 (by rw [c_4]; decide) (by rw [c_4]; decide) (by rw [c_4]; rfl) (by decide) ?_
    refine lv_aload_n hx hb dX5_count_69 rfl (lv_at hl 1 rfl) ?_
    obtain ⟨z_5, e_6, h⟩ := bds h
    have hPc := hP.sub (ws' := (wX5 cI cS a0 a1 a2 a3 a4 a5 a6 a7 a8 a9 a10 a11 nw kp ad fd tp kn it wd sz nm mv ik td bg en so va iw im st ht)) [0, 1, 2, 3, 4, 5, 6, 7, 8, 9, 10, 11] rfl
    refine kRi (rV C0 (tX5_waitedInAll l D cI cS F a0 a1 a2 a3 a4 a5 a6 a7 a8 a9 a10 a11 nw kp ad fd tp kn it wd sz nm mv ik td bg en so va iw im st ht  z_5 e_6) RX5 gX5_count_X5_waitedInAll rfl ⟨rfl, rfl⟩ pdX5_waitedInAll rfl ⟨Nat.le_of_ble_eq_true rfl, Nat.le_of_ble_eq_true rfl⟩ (fun _ _ _ _ q => q) (va_recv hE.1 hPc (ci := 4) (q0 := 0) rfl rfl) (fun U hU _ _ => by rw [hU]; exact hPc) hl.1 rfl (Nat.le_of_ble_eq_true rfl) dX5_count_70 ⟨Nat.zero_le _, Nat.zero_le _⟩) ?_
    obtain ⟨q0, q1⟩ := Prod.mk.inj (Option.some.inj h)
    subst q0 q1
    exact eMi C0 hP hS rfl rfl dX5_count_73
  have h := ifn c_4 h
  by_cases c_7 : v1 = 4
  · have h := ifp c_7 h
    refine lv_tableIn (tgt := 74) hx hb dX5_count_3 (by rw [c_7]; decide) (by rw [c_7]; decide) (by rw [c_7]; rfl) (by decide) ?_
    refine lv_aload_n hx hb dX5_count_74 rfl (lv_at hl 1 rfl) ?_
    obtain ⟨z_8, e_9, h⟩ := bds h
    have hPc := hP.sub (ws' := (wX5 cI cS a0 a1 a2 a3 a4 a5 a6 a7 a8 a9 a10 a11 nw kp ad fd tp kn it wd sz nm mv ik td bg en so va iw im st ht)) [0, 1, 2, 3, 4, 5, 6, 7, 8, 9, 10, 11] rfl
    refine kRi (rV C0 (tX5_finishedOnes l D cI cS F a0 a1 a2 a3 a4 a5 a6 a7 a8 a9 a10 a11 nw kp ad fd tp kn it wd sz nm mv ik td bg en so va iw im st ht  z_8 e_9) RX5 gX5_count_X5_finishedOnes rfl ⟨rfl, rfl⟩ pdX5_finishedOnes rfl ⟨Nat.le_of_ble_eq_true rfl, Nat.le_of_ble_eq_true rfl⟩ (fun _ _ _ _ q => q) (va_recv hE.1 hPc (ci := 4) (q0 := 0) rfl rfl) (fun U hU _ _ => by rw [hU]; exact hPc) hl.1 rfl (Nat.le_of_ble_eq_true rfl) dX5_count_75 ⟨Nat.zero_le _, Nat.zero_le _⟩) ?_
    obtain ⟨z_10, e_11, h⟩ := bds h
    refine kRi (rS C0 (tX5_bits l D cI cS F z_8 z_10 e_11) gX5_count_X5_bits rfl ⟨rfl, rfl⟩ pdX5_bits rfl ⟨Nat.le_of_ble_eq_true rfl, Nat.le_of_ble_eq_true rfl⟩ (fun _ _ _ _ q => q) (fun _ _ _ _ => vp0) hl.1 rfl (Nat.le_of_ble_eq_true rfl) dX5_count_78 ⟨Nat.zero_le _, Nat.zero_le _⟩) ?_
    obtain ⟨q0, q1⟩ := Prod.mk.inj (Option.some.inj h)
    subst q0 q1
    exact eMi C0 hP hS rfl rfl dX5_count_81
  have h := ifn c_7 h
  by_cases c_12 : v1 = 5
  · have h := ifp c_12 h
    refine lv_tableIn (tgt := 82) hx hb dX5_count_3 (by rw [c_12]; decide) (by rw [c_12]; decide) (by rw [c_12]; rfl) (by decide) ?_
    refine lv_aload_n hx hb dX5_count_82 rfl (lv_at hl 1 rfl) ?_
    refine va_get (D := D) (ci := 4) (v := .int td) (C := RX5) (T := TX5) (N := 21) hx hb hts hinX5 hown hE.1 hP 0 rfl rfl 6 (by decide) (hts _ (List.mem_of_getElem? (i := 2) rfl)) (fun _ h9 => h9) rfl dX5_count_83 ?_
    obtain ⟨q0, q1⟩ := Prod.mk.inj (Option.some.inj h)
    subst q0 q1
    exact eMi C0 hP hS rfl rfl dX5_count_86
  have h := ifn c_12 h
  by_cases c_13 : v1 = 6
  · have h := ifp c_13 h
    refine lv_tableIn (tgt := 87) hx hb dX5_count_3 (by rw [c_13]; decide) (by rw [c_13]; decide) (by rw [c_13]; rfl) (by decide) ?_
    refine lv_aload_n hx hb dX5_count_87 rfl (lv_at hl 1 rfl) ?_
    refine va_get (D := D) (ci := 4) (v := .ref a1) (C := RX5) (T := TX5) (N := 21) hx hb hts hinX5 hown hE.1 hP 0 rfl rfl 0 (by decide) (hts _ (List.mem_of_getElem? (i := 1) rfl)) (fun _ h9 => h9) rfl dX5_count_88 ?_
    refine lv_iconst (v := 2) hx hb dX5_count_91 (by decide) ?_
    refine va_iald hx hb hE.1 hP 1 0 rfl rfl (by unfold vp_in; decide : vp_in 2 84) dX5_count_92 ?_
    refine lv_eqi (y := nw 2) rfl ?_
    obtain ⟨q0, q1⟩ := Prod.mk.inj (Option.some.inj h)
    subst q0 q1
    exact eMi C0 hP hS rfl rfl dX5_count_93
  have h := ifn c_13 h
  by_cases c_14 : v1 = 7
  · have h := ifp c_14 h
    refine lv_tableIn (tgt := 94) hx hb dX5_count_3 (by rw [c_14]; decide) (by rw [c_14]; decide) (by rw [c_14]; rfl) (by decide) ?_
    refine lv_iconst (v := 0) hx hb dX5_count_94 (by decide) ?_
    refine lv_istore_n (lv' := [(3, .int 0), (2, .int 0), (0, .ref a0), (1, .int v1)]) hx hb dX5_count_95 rfl hl (by decide) rfl (fun ls hl => ?_)
    exact lX5_count_96 (l := l) (e := e) (below := below) C0 F nw kp ad fd tp kn it wd sz nm mv ik td bg en so va iw im st ht z0 z1 hD F 0 0 _ _ hP hS _ (lv_sub hl [2, 1, 0] rfl) h
  have h := ifn c_14 h
  refine lv_tableOut (tgt := 130) hx hb dX5_count_3 (tb0 (tbS (k := 0) (by decide) c_1 (tbS (k := 1) (by decide) c_2 (tbS (k := 2) (by decide) c_3 (tbS (k := 3) (by decide) c_4 (tbS (k := 4) (by decide) c_7 (tbS (k := 5) (by decide) c_12 (tbS (k := 6) (by decide) c_13 (tbS (k := 7) (by decide) c_14 (tbE (by decide))))))))))) (by decide) ?_
  refine lv_aload_n hx hb dX5_count_130 rfl (lv_at hl 1 rfl) ?_
  refine lv_ldc (v := (-1000001)) hx hb hown (hts _ (List.mem_of_getElem? (i := 3) rfl)) dX5_count_131 ?_
  obtain ⟨z_18, e_19, h⟩ := bds h
  have hPc := hP.sub (ws' := (wX5 cI cS a0 a1 a2 a3 a4 a5 a6 a7 a8 a9 a10 a11 nw kp ad fd tp kn it wd sz nm mv ik td bg en so va iw im st ht)) [0, 1, 2, 3, 4, 5, 6, 7, 8, 9, 10, 11] rfl
  refine kMi (wf' := (wX5 cI cS a0 a1 a2 a3 a4 a5 a6 a7 a8 a9 a10 a11 nw kp ad z_18.2 tp kn it wd sz nm mv ik td bg en so va iw im st ht)) [0, 1, 2, 3, 4, 5, 6, 7, 8, 9, 10, 11] [some 0, some 1, some 2, some 3, some 4, some 5, some 6, some 7, some 8, some 9, some 10, some 11] (rV C0 (tX5_finding l D cI cS a0 a1 a2 a3 a4 a5 a6 a7 a8 a9 a10 a11 nw kp ad fd tp kn it wd sz nm mv ik td bg en so va iw im st ht (-1000001) z_18.1 z_18.2 e_19 (((hD (wX5 cI cS a0 a1 a2 a3 a4 a5 a6 a7 a8 a9 a10 a11 nw kp ad fd tp kn it wd sz nm mv ik td bg en so va iw im st ht) rfl).sub [0, 1, 2, 3, 4, 5, 6, 7, 8, 9, 10, 11] (by decide) rfl).weaken (fun _ _ _ _ => trivial))) RX5 gX5_count_X5_finding rfl ⟨rfl, rfl⟩ pdX5_finding rfl ⟨Nat.le_of_ble_eq_true rfl, Nat.le_of_ble_eq_true rfl⟩ (fun _ _ _ _ q => q) (va_recv hE.1 hPc (ci := 4) (q0 := 0) rfl rfl) (fun U hU _ _ => by rw [hU]; exact hPc) hl.1 rfl (Nat.le_of_ble_eq_true rfl) dX5_count_133 ⟨Nat.zero_le _, Nat.zero_le _⟩) hP (hD _ rfl) hS rfl rfl rfl (fun H locs hP hS => ?_)
  obtain ⟨q0, q1⟩ := Prod.mk.inj (Option.some.inj h)
  subst q0 q1
  exact eMi C0 hP hS rfl rfl dX5_count_136
def fX5_status (fd : Nat → Int32) (v1 : Int32) : Option (Int32 × (Nat → Int32)) := (if (fX5_within v1 (-1) 6) = 0 then Option.bind (fX5_finding fd (-1000001)) (fun z_2 => some (z_2.1, z_2.2)) else if ¬ ((v1 + 1) < 0 ∨ 8 ≤ (v1 + 1).toNatClampNeg) then some (fd (v1 + 1).toNatClampNeg, fd) else none)
abbrev rmX5_status : Room := { frames := 1, cells := 0, slots := 0, locals := 22 }
theorem pdX5_status : (yX5_status.cls = RX5 ∧ yX5_status.cls ≠ "java/lang/invoke/MethodHandle" ∧ yX5_status.cls ≠ "java/lang/invoke/VarHandle" ∧ (parseMethodDescriptor yX5_status.desc).map (fun d => d.parameters.length) = some 1) := by decide +kernel
set_option maxHeartbeats 4000000 in
set_option maxRecDepth 100000 in
theorem tX5_status (l : Launch) (D : va_G) (cI cS : ClassId) (a0 a1 a2 a3 a4 a5 a6 a7 a8 a9 a10 a11 : Nat) (nw : Nat → Int32) (kp : Nat → Int32) (ad : Nat → Int32) (fd : Nat → Int32) (tp : Nat → Int32) (kn : Nat → Option Nat) (it : Nat → Int32) (wd : Nat → Int32) (sz : Nat → Int32) (nm : Nat → Int32) (mv : Nat → Int32) (ik : Int32) (td : Int32) (bg : Int32) (en : Int32) (so : Int32) (va : Int32) (iw : Int32) (im : Int32) (st : Int32) (ht : Int32) (v1 : Int32) (z0 : Int32) (z1 : Nat → Int32) (h : fX5_status fd v1 = some (z0, z1)) (hD0 : va_D (fun _ => True) (wX5 cI cS a0 a1 a2 a3 a4 a5 a6 a7 a8 a9 a10 a11 nw kp ad fd tp kn it wd sz nm mv ik td bg en so va iw im st ht)) : Met l yX5_status wsX5_status rmX5_status (PZ D cI cS [.ref a0, .int v1] (fun U => va_P D vwCl (wX5 cI cS a0 a1 a2 a3 a4 a5 a6 a7 a8 a9 a10 a11 nw kp ad fd tp kn it wd sz nm mv ik td bg en so va iw im st ht) U.heap)) (qI D (wX5 cI cS a0 a1 a2 a3 a4 a5 a6 a7 a8 a9 a10 a11 nw kp ad fd tp kn it wd sz nm mv ik td bg en so va iw im st ht) (wX5 cI cS a0 a1 a2 a3 a4 a5 a6 a7 a8 a9 a10 a11 nw kp ad z1 tp kn it wd sz nm mv ik td bg en so va iw im st ht) z0) 0 0 (wA (wX5 cI cS a0 a1 a2 a3 a4 a5 a6 a7 a8 a9 a10 a11 nw kp ad fd tp kn it wd sz nm mv ik td bg en so va iw im st ht)) := by
  refine Met.mk RX5 (by decide) rfl rfl (Nat.le_of_ble_eq_true rfl) ?_
  intro p e s m below meth c ls C0 hP hl
  have hl : lv_has ls 2 [(0, .ref a0), (1, .int v1)] := hl
  obtain ⟨hx, hb, hr, hml, hown, hts, hlk, hE⟩ := id C0
  have hinX5 : ∀ w ∈ u_ws RX5 TX5 21, w ∈ wsX5_status := by decide +kernel
  have hD : ∀ W : va_W, W.map Prod.fst = [a0, a1, a2, a3, a4, a5, a6, a7, a8, a9, a10, a11] → va_D (wA (wX5 cI cS a0 a1 a2 a3 a4 a5 a6 a7 a8 a9 a10 a11 nw kp ad fd tp kn it wd sz nm mv ik td bg en so va iw im st ht)) W := fun W hW => hD0.own.re hW
  have hS : va_S (wA (wX5 cI cS a0 a1 a2 a3 a4 a5 a6 a7 a8 a9 a10 a11 nw kp ad fd tp kn it wd sz nm mv ik td bg en so va iw im st ht)) s.heap s.heap [] := va_S.rf
  have hP : va_P D vwCl (wX5 cI cS a0 a1 a2 a3 a4 a5 a6 a7 a8 a9 a10 a11 nw kp ad fd tp kn it wd sz nm mv ik td bg en so va iw im st ht) s.heap := hP
  rw [fX5_status] at h
  refine lv_iload_n hx hb dX5_status_0 rfl (lv_at hl 1 rfl) ?_
  refine lv_iconst (v := (-1)) hx hb dX5_status_1 (by decide) ?_
  refine lv_bipush (v := 6) hx hb dX5_status_2 (by decide) ?_
  refine kRi (rS C0 (tX5_within l D cI cS v1 (-1) 6 (fX5_within v1 (-1) 6) rfl) gX5_status_X5_within rfl ⟨rfl, rfl⟩ pdX5_within rfl ⟨Nat.le_of_ble_eq_true rfl, Nat.le_of_ble_eq_true rfl⟩ (fun _ _ _ _ q => q) (fun _ _ _ _ => vp0) hl.1 rfl (Nat.le_of_ble_eq_true rfl) dX5_status_4 ⟨Nat.zero_le _, Nat.zero_le _⟩) ?_
  refine lv_if_eq (tgt := 21) hx hb dX5_status_7 (by decide) (fun c_1 => ?_) (fun c_1 => ?_)
  · have h := ifp c_1 h
    refine lv_aload_n hx hb dX5_status_21 rfl (lv_at hl 0 rfl) ?_
    refine lv_ldc (v := (-1000001)) hx hb hown (hts _ (List.mem_of_getElem? (i := 2) rfl)) dX5_status_22 ?_
    obtain ⟨z_2, e_3, h⟩ := bds h
    have hPc := hP.sub (ws' := (wX5 cI cS a0 a1 a2 a3 a4 a5 a6 a7 a8 a9 a10 a11 nw kp ad fd tp kn it wd sz nm mv ik td bg en so va iw im st ht)) [0, 1, 2, 3, 4, 5, 6, 7, 8, 9, 10, 11] rfl
    refine kMi (wf' := (wX5 cI cS a0 a1 a2 a3 a4 a5 a6 a7 a8 a9 a10 a11 nw kp ad z_2.2 tp kn it wd sz nm mv ik td bg en so va iw im st ht)) [0, 1, 2, 3, 4, 5, 6, 7, 8, 9, 10, 11] [some 0, some 1, some 2, some 3, some 4, some 5, some 6, some 7, some 8, some 9, some 10, some 11] (rV C0 (tX5_finding l D cI cS a0 a1 a2 a3 a4 a5 a6 a7 a8 a9 a10 a11 nw kp ad fd tp kn it wd sz nm mv ik td bg en so va iw im st ht (-1000001) z_2.1 z_2.2 e_3 (((hD (wX5 cI cS a0 a1 a2 a3 a4 a5 a6 a7 a8 a9 a10 a11 nw kp ad fd tp kn it wd sz nm mv ik td bg en so va iw im st ht) rfl).sub [0, 1, 2, 3, 4, 5, 6, 7, 8, 9, 10, 11] (by decide) rfl).weaken (fun _ _ _ _ => trivial))) RX5 gX5_status_X5_finding rfl ⟨rfl, rfl⟩ pdX5_finding rfl ⟨Nat.le_of_ble_eq_true rfl, Nat.le_of_ble_eq_true rfl⟩ (fun _ _ _ _ q => q) (va_recv hE.1 hPc (ci := 4) (q0 := 0) rfl rfl) (fun U hU _ _ => by rw [hU]; exact hPc) hl.1 rfl (Nat.le_of_ble_eq_true rfl) dX5_status_24 ⟨Nat.zero_le _, Nat.zero_le _⟩) hP (hD _ rfl) hS rfl rfl rfl (fun H locs hP hS => ?_)
    obtain ⟨q0, q1⟩ := Prod.mk.inj (Option.some.inj h)
    subst q0 q1
    exact eMi C0 hP hS rfl rfl dX5_status_27
  · have h := ifn c_1 h
    refine lv_aload_n hx hb dX5_status_10 rfl (lv_at hl 0 rfl) ?_
    refine va_get (D := D) (ci := 4) (v := .ref a4) (C := RX5) (T := TX5) (N := 21) hx hb hts hinX5 hown hE.1 hP 0 rfl rfl 4 (by decide) (hts _ (List.mem_of_getElem? (i := 1) rfl)) (fun _ h9 => h9) rfl dX5_status_11 ?_
    refine lv_iload_n hx hb dX5_status_14 rfl (lv_at hl 1 rfl) ?_
    refine lv_iconst (v := 1) hx hb dX5_status_15 (by decide) ?_
    refine lv_iadd hx hb dX5_status_16 ?_
    obtain ⟨hi_4, h⟩ := ifs h
    refine va_iald hx hb hE.1 hP 4 0 rfl rfl hi_4 dX5_status_17 ?_
    refine lv_goto (tgt := 27) hx hb dX5_status_18 (by decide) ?_
    obtain ⟨q0, q1⟩ := Prod.mk.inj (Option.some.inj h)
    subst q0 q1
    exact eMi C0 hP hS rfl rfl dX5_status_27
