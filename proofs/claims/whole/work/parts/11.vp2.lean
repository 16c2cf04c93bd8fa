def fX4_ahead (F : Nat) (ppl : Nat → Int32) (psp : Nat → Int32) (psy : Nat → Int32) (psh : Nat → Int32) (tpl : Nat → Int32) (tsp : Nat → Int32) (tsy : Nat → Int32) (tsh : Nat → Int32) (fd : Nat → Int32) (psc : Int32) (pnc : Int32) (pdy : Int32) (pzz : Int32) (tsc : Int32) (tnc : Int32) (tdy : Int32) (tzz : Int32) (v1 : Int32) (v2 : Int32) (v3 : Int32) : Option (Int32 × (Nat → Int32) × (Nat → Int32) × (Nat → Int32) × (Nat → Int32) × (Nat → Int32) × Int32 × Int32 × Int32 × Int32) := (if (fX0_hasSaying psc v1) = 0 then some ((-1000001), tpl, tsp, tsy, tsh, fX4_finding_o1 fd (-1000001), tsc, tnc, tdy, tzz) else (if (fX4_within v2 2 5) = 0 then some ((-1000001), tpl, tsp, tsy, tsh, fX4_finding_o1 fd (-1000001), tsc, tnc, tdy, tzz) else (if (fX4_within v3 0 100) = 0 then some ((-1000001), tpl, tsp, tsy, tsh, fX4_finding_o1 fd (-1000001), tsc, tnc, tdy, tzz) else Option.bind (fX4_behindDays F ppl psp psy psh tpl tsp tsy tsh psc pnc pdy pzz tsc tnc tdy tzz v3 0) (fun z_4 => some ((fX0_tellOfSaying z_4.2.2.1 z_4.2.2.2.2.2.2.1 v1 v2), z_4.1, z_4.2.1, z_4.2.2.1, z_4.2.2.2.1, fd, z_4.2.2.2.2.1, z_4.2.2.2.2.2.1, z_4.2.2.2.2.2.2.1, z_4.2.2.2.2.2.2.2)))))
abbrev rmX4_ahead : Room := { frames := 6, cells := 0, slots := 0, locals := 142 }
theorem pdX4_ahead : (yX4_ahead.cls = RX4 ∧ yX4_ahead.cls ≠ "java/lang/invoke/MethodHandle" ∧ yX4_ahead.cls ≠ "java/lang/invoke/VarHandle" ∧ (parseMethodDescriptor yX4_ahead.desc).map (fun d => d.parameters.length) = some 3) := by decide +kernel
set_option maxHeartbeats 4000000 in
set_option maxRecDepth 100000 in
theorem tX4_ahead (l : Launch) (D : va_G) (cI cS : ClassId) (F : Nat) (a0 a1 a2 a3 a4 a5 a6 a7 a8 a9 a10 a11 a12 a13 a14 a15 a16 a17 a18 a19 a20 a21 a22 : Nat) (ppl : Nat → Int32) (psp : Nat → Int32) (psy : Nat → Int32) (psh : Nat → Int32) (tpl : Nat → Int32) (tsp : Nat → Int32) (tsy : Nat → Int32) (tsh : Nat → Int32) (kpl : Nat → Int32) (ksp : Nat → Int32) (ksy : Nat → Int32) (ksh : Nat → Int32) (bs : Nat → Int32) (bt : Nat → Int32) (sz : Nat → Int32) (nm : Nat → Int32) (fd : Nat → Int32) (ik : Int32) (psc : Int32) (pnc : Int32) (pdy : Int32) (pzz : Int32) (tsc : Int32) (tnc : Int32) (tdy : Int32) (tzz : Int32) (ksc : Int32) (knc : Int32) (kdy : Int32) (kzz : Int32) (ln : Int32) (so : Int32) (be : Int32) (en : Int32) (va : Int32) (v1 : Int32) (v2 : Int32) (v3 : Int32) (z0 : Int32) (z1 : Nat → Int32) (z2 : Nat → Int32) (z3 : Nat → Int32) (z4 : Nat → Int32) (z5 : Nat → Int32) (z6 : Int32) (z7 : Int32) (z8 : Int32) (z9 : Int32) (h : fX4_ahead F ppl psp psy psh tpl tsp tsy tsh fd psc pnc pdy pzz tsc tnc tdy tzz v1 v2 v3 = some (z0, z1, z2, z3, z4, z5, z6, z7, z8, z9)) (hD0 : va_D (fun _ => True) (wX4 cI cS a0 a1 a2 a3 a4 a5 a6 a7 a8 a9 a10 a11 a12 a13 a14 a15 a16 a17 a18 a19 a20 a21 a22 ppl psp psy psh tpl tsp tsy tsh kpl ksp ksy ksh bs bt sz nm fd ik psc pnc pdy pzz tsc tnc tdy tzz ksc knc kdy kzz ln so be en va)) : Met l yX4_ahead wsX4_ahead rmX4_ahead (PZ D cI cS [.ref a0, .int v1, .int v2, .int v3] (fun U => va_P D vwCl (wX4 cI cS a0 a1 a2 a3 a4 a5 a6 a7 a8 a9 a10 a11 a12 a13 a14 a15 a16 a17 a18 a19 a20 a21 a22 ppl psp psy psh tpl tsp tsy tsh kpl ksp ksy ksh bs bt sz nm fd ik psc pnc pdy pzz tsc tnc tdy tzz ksc knc kdy kzz ln so be en va) U.heap)) (qI D (wX4 cI cS a0 a1 a2 a3 a4 a5 a6 a7 a8 a9 a10 a11 a12 a13 a14 a15 a16 a17 a18 a19 a20 a21 a22 ppl psp psy psh tpl tsp tsy tsh kpl ksp ksy ksh bs bt sz nm fd ik psc pnc pdy pzz tsc tnc tdy tzz ksc knc kdy kzz ln so be en va) (wX4 cI cS a0 a1 a2 a3 a4 a5 a6 a7 a8 a9 a10 a11 a12 a13 a14 a15 a16 a17 a18 a19 a20 a21 a22 ppl psp psy psh z1 z2 z3 z4 kpl ksp ksy ksh bs bt sz nm z5 ik psc pnc pdy pzz z6 z7 z8 z9 ksc knc kdy kzz ln so be en va) z0) 0 0 (wA (wX4 cI cS a0 a1 a2 a3 a4 a5 a6 a7 a8 a9 a10 a11 a12 a13 a14 a15 a16 a17 a18 a19 a20 a21 a22 ppl psp psy psh tpl tsp tsy tsh kpl ksp ksy ksh bs bt sz nm fd ik psc pnc pdy pzz tsc tnc tdy tzz ksc knc kdy kzz ln so be en va)) := by
  refine Met.mk RX4 (by decide) rfl rfl (Nat.le_of_ble_eq_true rfl) ?_
  intro p e s m below meth c ls C0 hP hl
  have hl : lv_has ls 4 [(0, .ref a0), (1, .int v1), (2, .int v2), (3, .int v3)] := hl
  obtain ⟨hx, hb, hr, hml, hown, hts, hlk, hE⟩ := id C0
  have hinX4 : ∀ w ∈ u_ws RX4 TX4 7, w ∈ wsX4_ahead := by decide +kernel
  have hD : ∀ W : va_W, W.map Prod.fst = [a0, a1, a2, a3, a4, a5, a6, a7, a8, a9, a10, a11, a12, a13, a14, a15, a16, a17, a18, a19, a20, a21, a22] → va_D (wA (wX4 cI cS a0 a1 a2 a3 a4 a5 a6 a7 a8 a9 a10 a11 a12 a13 a14 a15 a16 a17 a18 a19 a20 a21 a22 ppl psp psy psh tpl tsp tsy tsh kpl ksp ksy ksh bs bt sz nm fd ik psc pnc pdy pzz tsc tnc tdy tzz ksc knc kdy kzz ln so be en va)) W := fun W hW => hD0.own.re hW
  have hS : va_S (wA (wX4 cI cS a0 a1 a2 a3 a4 a5 a6 a7 a8 a9 a10 a11 a12 a13 a14 a15 a16 a17 a18 a19 a20 a21 a22 ppl psp psy psh tpl tsp tsy tsh kpl ksp ksy ksh bs bt sz nm fd ik psc pnc pdy pzz tsc tnc tdy tzz ksc knc kdy kzz ln so be en va)) s.heap s.heap [] := va_S.rf
  have hP : va_P D vwCl (wX4 cI cS a0 a1 a2 a3 a4 a5 a6 a7 a8 a9 a10 a11 a12 a13 a14 a15 a16 a17 a18 a19 a20 a21 a22 ppl psp psy psh tpl tsp tsy tsh kpl ksp ksy ksh bs bt sz nm fd ik psc pnc pdy pzz tsc tnc tdy tzz ksc knc kdy kzz ln so be en va) s.heap := hP
  rw [fX4_ahead] at h
  refine lv_aload_n hx hb dX4_ahead_0 rfl (lv_at hl 0 rfl) ?_
  refine va_get (D := D) (ci := 3) (v := .ref a1) (C := RX4) (T := TX4) (N := 7) hx hb hts hinX4 hown hE.1 hP 0 rfl rfl 0 (by decide) (hts _ (List.mem_of_getElem? (i := 1) rfl)) (fun _ h9 => h9) rfl dX4_ahead_1 ?_
  refine lv_iload_n hx hb dX4_ahead_4 rfl (lv_at hl 1 rfl) ?_
  have hPc := hP.sub (ws' := (wX0 cI cS a1 a2 a3 a4 a5 ppl psp psy psh psc pnc pdy pzz)) [1, 2, 3, 4, 5] rfl
  refine kRi (rV C0 (tX0_hasSaying l D cI cS a1 a2 a3 a4 a5 ppl psp psy psh psc pnc pdy pzz v1 (fX0_hasSaying psc v1) rfl) RX0 gX4_ahead_X0_hasSaying rfl ⟨rfl, rfl⟩ pdX0_hasSaying rfl ⟨Nat.le_of_ble_eq_true rfl, Nat.le_of_ble_eq_true rfl⟩ (fun _ _ _ _ q => q) (va_recv hE.1 hPc (ci := 0) (q0 := 0) rfl rfl) (fun U hU _ _ => by rw [hU]; exact hPc) hl.1 rfl (Nat.le_of_ble_eq_true rfl) dX4_ahead_5 ⟨Nat.zero_le _, Nat.zero_le _⟩) ?_
  refine lv_if_eq (tgt := 30) hx hb dX4_ahead_8 (by decide) (fun c_1 => ?_) (fun c_1 => ?_)
  · have h := ifp c_1 h
    refine lv_aload_n hx hb dX4_ahead_30 rfl (lv_at hl 0 rfl) ?_
    refine lv_ldc (v := (-1000001)) hx hb hown (hts _ (List.mem_of_getElem? (i := 2) rfl)) dX4_ahead_31 ?_
    have hPc := hP.sub (ws' := (wX4 cI cS a0 a1 a2 a3 a4 a5 a6 a7 a8 a9 a10 a11 a12 a13 a14 a15 a16 a17 a18 a19 a20 a21 a22 ppl psp psy psh tpl tsp tsy tsh kpl ksp ksy ksh bs bt sz nm fd ik psc pnc pdy pzz tsc tnc tdy tzz ksc knc kdy kzz ln so be en va)) [0, 1, 2, 3, 4, 5, 6, 7, 8, 9, 10, 11, 12, 13, 14, 15, 16, 17, 18, 19, 20, 21, 22] rfl
    refine kMi (wf' := (wX4 cI cS a0 a1 a2 a3 a4 a5 a6 a7 a8 a9 a10 a11 a12 a13 a14 a15 a16 a17 a18 a19 a20 a21 a22 ppl psp psy psh tpl tsp tsy tsh kpl ksp ksy ksh bs bt sz nm (fX4_finding_o1 fd (-1000001)) ik psc pnc pdy pzz tsc tnc tdy tzz ksc knc kdy kzz ln so be en va)) [0, 1, 2, 3, 4, 5, 6, 7, 8, 9, 10, 11, 12, 13, 14, 15, 16, 17, 18, 19, 20, 21, 22] [some 0, some 1, some 2, some 3, some 4, some 5, some 6, some 7, some 8, some 9, some 10, some 11, some 12, some 13, some 14, some 15, some 16, some 17, some 18, some 19, some 20, some 21, some 22] (rV C0 (tX4_finding l D cI cS a0 a1 a2 a3 a4 a5 a6 a7 a8 a9 a10 a11 a12 a13 a14 a15 a16 a17 a18 a19 a20 a21 a22 ppl psp psy psh tpl tsp tsy tsh kpl ksp ksy ksh bs bt sz nm fd ik psc pnc pdy pzz tsc tnc tdy tzz ksc knc kdy kzz ln so be en va (-1000001) (-1000001) (fX4_finding_o1 fd (-1000001)) (eeX4_finding ..) (((hD (wX4 cI cS a0 a1 a2 a3 a4 a5 a6 a7 a8 a9 a10 a11 a12 a13 a14 a15 a16 a17 a18 a19 a20 a21 a22 ppl psp psy psh tpl tsp tsy tsh kpl ksp ksy ksh bs bt sz nm fd ik psc pnc pdy pzz tsc tnc tdy tzz ksc knc kdy kzz ln so be en va) rfl).sub [0, 1, 2, 3, 4, 5, 6, 7, 8, 9, 10, 11, 12, 13, 14, 15, 16, 17, 18, 19, 20, 21, 22] (by decide) rfl).weaken (fun _ _ _ _ => trivial))) RX4 gX4_ahead_X4_finding rfl ⟨rfl, rfl⟩ pdX4_finding rfl ⟨Nat.le_of_ble_eq_true rfl, Nat.le_of_ble_eq_true rfl⟩ (fun _ _ _ _ q => q) (va_recv hE.1 hPc (ci := 3) (q0 := 0) rfl rfl) (fun U hU _ _ => by rw [hU]; exact hPc) hl.1 rfl (Nat.le_of_ble_eq_true rfl) dX4_ahead_33 ⟨Nat.zero_le _, Nat.zero_le _⟩) hP (hD _ rfl) hS rfl rfl rfl (fun H locs hP hS => ?_)
    obtain ⟨q0, g0⟩ := Prod.mk.inj (Option.some.inj h)
    obtain ⟨q1, g1⟩ := Prod.mk.inj g0
    obtain ⟨q2, g2⟩ := Prod.mk.inj g1
    obtain ⟨q3, g3⟩ := Prod.mk.inj g2
    obtain ⟨q4, g4⟩ := Prod.mk.inj g3
    obtain ⟨q5, g5⟩ := Prod.mk.inj g4
    obtain ⟨q6, g6⟩ := Prod.mk.inj g5
    obtain ⟨q7, g7⟩ := Prod.mk.inj g6
    obtain ⟨q8, q9⟩ := Prod.mk.inj g7
    subst q0 q1 q2 q3 q4 q5 q6 q7 q8 q9
    exact eMi C0 hP hS rfl rfl dX4_ahead_36
  · have h := ifn c_1 h
    refine lv_iload_n hx hb dX4_ahead_11 rfl (lv_at hl 2 rfl) ?_
    refine lv_iconst (v := 2) hx hb dX4_ahead_12 (by decide) ?_
    refine lv_iconst (v := 5) hx hb dX4_ahead_13 (by decide) ?_
    refine kRi (rS C0 (tX4_within l D cI cS v2 2 5 (fX4_within v2 2 5) rfl) gX4_ahead_X4_within rfl ⟨rfl, rfl⟩ pdX4_within rfl ⟨Nat.le_of_ble_eq_true rfl, Nat.le_of_ble_eq_true rfl⟩ (fun _ _ _ _ q => q) (fun _ _ _ _ => vp0) hl.1 rfl (Nat.le_of_ble_eq_true rfl) dX4_ahead_14 ⟨Nat.zero_le _, Nat.zero_le _⟩) ?_
    refine lv_if_eq (tgt := 30) hx hb dX4_ahead_17 (by decide) (fun c_2 => ?_) (fun c_2 => ?_)
    · have h := ifp c_2 h
      refine lv_aload_n hx hb dX4_ahead_30 rfl (lv_at hl 0 rfl) ?_
      refine lv_ldc (v := (-1000001)) hx hb hown (hts _ (List.mem_of_getElem? (i := 2) rfl)) dX4_ahead_31 ?_
      have hPc := hP.sub (ws' := (wX4 cI cS a0 a1 a2 a3 a4 a5 a6 a7 a8 a9 a10 a11 a12 a13 a14 a15 a16 a17 a18 a19 a20 a21 a22 ppl psp psy psh tpl tsp tsy tsh kpl ksp ksy ksh bs bt sz nm fd ik psc pnc pdy pzz tsc tnc tdy tzz ksc knc kdy kzz ln so be en va)) [0, 1, 2, 3, 4, 5, 6, 7, 8, 9, 10, 11, 12, 13, 14, 15, 16, 17, 18, 19, 20, 21, 22] rfl
      refine kMi (wf' := (wX4 cI cS a0 a1 a2 a3 a4 a5 a6 a7 a8 a9 a10 a11 a12 a13 a14 a15 a16 a17 a18 a19 a20 a21 a22 ppl psp psy psh tpl tsp tsy tsh kpl ksp ksy ksh bs bt sz nm (fX4_finding_o1 fd (-1000001)) ik psc pnc pdy pzz tsc tnc tdy tzz ksc knc kdy kzz ln so be en va)) [0, 1, 2, 3, 4, 5, 6, 7, 8, 9, 10, 11, 12, 13, 14, 15, 16, 17, 18, 19, 20, 21, 22] [some 0, some 1, some 2, some 3, some 4, some 5, some 6, some 7, some 8, some 9, some 10, some 11, some 12, some 13, some 14, some 15, some 16, some 17, some 18, some 19, some 20, some 21, some 22] (rV C0 (tX4_finding l D cI cS a0 a1 a2 a3 a4 a5 a6 a7 a8 a9 a10 a11 a12 a13 a14 a15 a16 a17 a18 a19 a20 a21 a22 ppl psp psy psh tpl tsp tsy tsh kpl ksp ksy ksh bs bt sz nm fd ik psc pnc pdy pzz tsc tnc tdy tzz ksc knc kdy kzz ln so be en va (-1000001) (-1000001) (fX4_finding_o1 fd (-1000001)) (eeX4_finding ..) (((hD (wX4 cI cS a0 a1 a2 a3 a4 a5 a6 a7 a8 a9 a10 a11 a12 a13 a14 a15 a16 a17 a18 a19 a20 a21 a22 ppl psp psy psh tpl tsp tsy tsh kpl ksp ksy ksh bs bt sz nm fd ik psc pnc pdy pzz tsc tnc tdy tzz ksc knc kdy kzz ln so be en va) rfl).sub [0, 1, 2, 3, 4, 5, 6, 7, 8, 9, 10, 11, 12, 13, 14, 15, 16, 17, 18, 19, 20, 21, 22] (by decide) rfl).weaken (fun _ _ _ _ => trivial))) RX4 gX4_ahead_X4_finding rfl ⟨rfl, rfl⟩ pdX4_finding rfl ⟨Nat.le_of_ble_eq_true rfl, Nat.le_of_ble_eq_true rfl⟩ (fun _ _ _ _ q => q) (va_recv hE.1 hPc (ci := 3) (q0 := 0) rfl rfl) (fun U hU _ _ => by rw [hU]; exact hPc) hl.1 rfl (Nat.le_of_ble_eq_true rfl) dX4_ahead_33 ⟨Nat.zero_le _, Nat.zero_le _⟩) hP (hD _ rfl) hS rfl rfl rfl (fun H locs hP hS => ?_)
      obtain ⟨q0, g0⟩ := Prod.mk.inj (Option.some.inj h)
      obtain ⟨q1, g1⟩ := Prod.mk.inj g0
      obtain ⟨q2, g2⟩ := Prod.mk.inj g1
      obtain ⟨q3, g3⟩ := Prod.mk.inj g2
      obtain ⟨q4, g4⟩ := Prod.mk.inj g3
      obtain ⟨q5, g5⟩ := Prod.mk.inj g4
      obtain ⟨q6, g6⟩ := Prod.mk.inj g5
      obtain ⟨q7, g7⟩ := Prod.mk.inj g6
      obtain ⟨q8, q9⟩ := Prod.mk.inj g7
      subst q0 q1 q2 q3 q4 q5 q6 q7 q8 q9
      exact eMi C0 hP hS rfl rfl dX4_ahead_36
    · have h := ifn c_2 h
      refine lv_iload_n hx hb dX4_ahead_20 rfl (lv_at hl 3 rfl) ?_
      refine lv_iconst (v := 0) hx hb dX4_ahead_21 (by decide) ?_
      refine lv_bipush (v := 100) hx hb dX4_ahead_22 (by decide) ?_
      refine kRi (rS C0 (tX4_within l D cI cS v3 0 100 (fX4_within v3 0 100) rfl) gX4_ahead_X4_within rfl ⟨rfl, rfl⟩ pdX4_within rfl ⟨Nat.le_of_ble_eq_true rfl, Nat.le_of_ble_eq_true rfl⟩ (fun _ _ _ _ q => q) (fun _ _ _ _ => vp0) hl.1 rfl (Nat.le_of_ble_eq_true rfl) dX4_ahead_24 ⟨Nat.zero_le _, Nat.zero_le _⟩) ?_
      refine lv_if_ne (tgt := 37) hx hb dX4_ahead_27 (by decide) (fun c_3 => ?_) (fun c_3 => ?_)
      · have h := ifn c_3 h
        refine lv_aload_n hx hb dX4_ahead_37 rfl (lv_at hl 0 rfl) ?_
        refine lv_iload_n hx hb dX4_ahead_38 rfl (lv_at hl 3 rfl) ?_
        refine lv_iconst (v := 0) hx hb dX4_ahead_39 (by decide) ?_
        obtain ⟨z_4, e_5, h⟩ := bds h
        have hPc := hP.sub (ws' := (wX4 cI cS a0 a1 a2 a3 a4 a5 a6 a7 a8 a9 a10 a11 a12 a13 a14 a15 a16 a17 a18 a19 a20 a21 a22 ppl psp psy psh tpl tsp tsy tsh kpl ksp ksy ksh bs bt sz nm fd ik psc pnc pdy pzz tsc tnc tdy tzz ksc knc kdy kzz ln so be en va)) [0, 1, 2, 3, 4, 5, 6, 7, 8, 9, 10, 11, 12, 13, 14, 15, 16, 17, 18, 19, 20, 21, 22] rfl
        refine kMa (wf' := (wX4 cI cS a0 a1 a2 a3 a4 a5 a6 a7 a8 a9 a10 a11 a12 a13 a14 a15 a16 a17 a18 a19 a20 a21 a22 ppl psp psy psh z_4.1 z_4.2.1 z_4.2.2.1 z_4.2.2.2.1 kpl ksp ksy ksh bs bt sz nm fd ik psc pnc pdy pzz z_4.2.2.2.2.1 z_4.2.2.2.2.2.1 z_4.2.2.2.2.2.2.1 z_4.2.2.2.2.2.2.2 ksc knc kdy kzz ln so be en va)) [0, 1, 2, 3, 4, 5, 6, 7, 8, 9, 10, 11, 12, 13, 14, 15, 16, 17, 18, 19, 20, 21, 22] [some 0, some 1, some 2, some 3, some 4, some 5, some 6, some 7, some 8, some 9, some 10, some 11, some 12, some 13, some 14, some 15, some 16, some 17, some 18, some 19, some 20, some 21, some 22] (rV C0 (tX4_behindDays l D cI cS F a0 a1 a2 a3 a4 a5 a6 a7 a8 a9 a10 a11 a12 a13 a14 a15 a16 a17 a18 a19 a20 a21 a22 ppl psp psy psh tpl tsp tsy tsh kpl ksp ksy ksh bs bt sz nm fd ik psc pnc pdy pzz tsc tnc tdy tzz ksc knc kdy kzz ln so be en va v3 0 z_4.1 z_4.2.1 z_4.2.2.1 z_4.2.2.2.1 z_4.2.2.2.2.1 z_4.2.2.2.2.2.1 z_4.2.2.2.2.2.2.1 z_4.2.2.2.2.2.2.2 e_5 (((hD (wX4 cI cS a0 a1 a2 a3 a4 a5 a6 a7 a8 a9 a10 a11 a12 a13 a14 a15 a16 a17 a18 a19 a20 a21 a22 ppl psp psy psh tpl tsp tsy tsh kpl ksp ksy ksh bs bt sz nm fd ik psc pnc pdy pzz tsc tnc tdy tzz ksc knc kdy kzz ln so be en va) rfl).sub [0, 1, 2, 3, 4, 5, 6, 7, 8, 9, 10, 11, 12, 13, 14, 15, 16, 17, 18, 19, 20, 21, 22] (by decide) rfl).weaken (fun _ _ _ _ => trivial))) RX4 gX4_ahead_X4_behindDays rfl ⟨rfl, rfl⟩ pdX4_behindDays rfl ⟨Nat.le_of_ble_eq_true rfl, Nat.le_of_ble_eq_true rfl⟩ (fun _ _ _ _ q => q) (va_recv hE.1 hPc (ci := 3) (q0 := 0) rfl rfl) (fun U hU _ _ => by rw [hU]; exact hPc) hl.1 rfl (Nat.le_of_ble_eq_true rfl) dX4_ahead_40 ⟨Nat.zero_le _, Nat.zero_le _⟩) hP (hD _ rfl) hS rfl rfl rfl (fun H locs hP hS => ?_)
        refine lv_iload_n hx hb dX4_ahead_43 rfl (lv_at hl 1 rfl) ?_
        refine lv_iload_n hx hb dX4_ahead_44 rfl (lv_at hl 2 rfl) ?_
        have hPc := hP.sub (ws' := (wX0 cI cS a6 a7 a8 a9 a10 z_4.1 z_4.2.1 z_4.2.2.1 z_4.2.2.2.1 z_4.2.2.2.2.1 z_4.2.2.2.2.2.1 z_4.2.2.2.2.2.2.1 z_4.2.2.2.2.2.2.2)) [6, 7, 8, 9, 10] rfl
        refine kRi (rV C0 (tX0_tellOfSaying l D cI cS a6 a7 a8 a9 a10 z_4.1 z_4.2.1 z_4.2.2.1 z_4.2.2.2.1 z_4.2.2.2.2.1 z_4.2.2.2.2.2.1 z_4.2.2.2.2.2.2.1 z_4.2.2.2.2.2.2.2 v1 v2 (fX0_tellOfSaying z_4.2.2.1 z_4.2.2.2.2.2.2.1 v1 v2) rfl) RX0 gX4_ahead_X0_tellOfSaying rfl ⟨rfl, rfl⟩ pdX0_tellOfSaying rfl ⟨Nat.le_of_ble_eq_true rfl, Nat.le_of_ble_eq_true rfl⟩ (fun _ _ _ _ q => q) (va_recv hE.1 hPc (ci := 0) (q0 := 0) rfl rfl) (fun U hU _ _ => by rw [hU]; exact hPc) hl.1 rfl (Nat.le_of_ble_eq_true rfl) dX4_ahead_45 ⟨Nat.zero_le _, Nat.zero_le _⟩) ?_
        obtain ⟨q0, g0⟩ := Prod.mk.inj (Option.some.inj h)
        obtain ⟨q1, g1⟩ := Prod.mk.inj g0
        obtain ⟨q2, g2⟩ := Prod.mk.inj g1
        obtain ⟨q3, g3⟩ := Prod.mk.inj g2
        obtain ⟨q4, g4⟩ := Prod.mk.inj g3
        obtain ⟨q5, g5⟩ := Prod.mk.inj g4
        obtain ⟨q6, g6⟩ := Prod.mk.inj g5
        obtain ⟨q7, g7⟩ := Prod.mk.inj g6
        obtain ⟨q8, q9⟩ := Prod.mk.inj g7
        subst q0 q1 q2 q3 q4 q5 q6 q7 q8 q9
        exact eMi C0 hP hS rfl rfl dX4_ahead_48
      · have h := ifp c_3 h
        refine lv_aload_n hx hb dX4_ahead_30 rfl (lv_at hl 0 rfl) ?_
        refine lv_ldc (v := (-1000001)) hx hb hown (hts _ (List.mem_of_getElem? (i := 2) rfl)) dX4_ahead_31 ?_
        have hPc := hP.sub (ws' := (wX4 cI cS a0 a1 a2 a3 a4 a5 a6 a7 a8 a9 a10 a11 a12 a13 a14 a15 a16 a17 a18 a19 a20 a21 a22 ppl psp psy psh tpl tsp tsy tsh kpl ksp ksy ksh bs bt sz nm fd ik psc pnc pdy pzz tsc tnc tdy tzz ksc knc kdy kzz ln so be en va)) [0, 1, 2, 3, 4, 5, 6, 7, 8, 9, 10, 11, 12, 13, 14, 15, 16, 17, 18, 19, 20, 21, 22] rfl
        refine kMi (wf' := (wX4 cI cS a0 a1 a2 a3 a4 a5 a6 a7 a8 a9 a10 a11 a12 a13 a14 a15 a16 a17 a18 a19 a20 a21 a22 ppl psp psy psh tpl tsp tsy tsh kpl ksp ksy ksh bs bt sz nm (fX4_finding_o1 fd (-1000001)) ik psc pnc pdy pzz tsc tnc tdy tzz ksc knc kdy kzz ln so be en va)) [0, 1, 2, 3, 4, 5, 6, 7, 8, 9, 10, 11, 12, 13, 14, 15, 16, 17, 18, 19, 20, 21, 22] [some 0, some 1, some 2, some 3, some 4, some 5, some 6, some 7, some 8, some 9, some 10, some 11, some 12, some 13, some 14, some 15, some 16, some 17, some 18, some 19, some 20, some 21, some 22] (rV C0 (tX4_finding l D cI cS a0 a1 a2 a3 a4 a5 a6 a7 a8 a9 a10 a11 a12 a13 a14 a15 a16 a17 a18 a19 a20 a21 a22 ppl psp psy psh tpl tsp tsy tsh kpl ksp ksy ksh bs bt sz nm fd ik psc pnc pdy pzz tsc tnc tdy tzz ksc knc kdy kzz ln so be en va (-1000001) (-1000001) (fX4_finding_o1 fd (-1000001)) (eeX4_finding ..) (((hD (wX4 cI cS a0 a1 a2 a3 a4 a5 a6 a7 a8 a9 a10 a11 a12 a13 a14 a15 a16 a17 a18 a19 a20 a21 a22 ppl psp psy psh tpl tsp tsy tsh kpl ksp ksy ksh bs bt sz nm fd ik psc pnc pdy pzz tsc tnc tdy tzz ksc knc kdy kzz ln so be en va) rfl).sub [0, 1, 2, 3, 4, 5, 6, 7, 8, 9, 10, 11, 12, 13, 14, 15, 16, 17, 18, 19, 20, 21, 22] (by decide) rfl).weaken (fun _ _ _ _ => trivial))) RX4 gX4_ahead_X4_finding rfl ⟨rfl, rfl⟩ pdX4_finding rfl ⟨Nat.le_of_ble_eq_true rfl, Nat.le_of_ble_eq_true rfl⟩ (fun _ _ _ _ q => q) (va_recv hE.1 hPc (ci := 3) (q0 := 0) rfl rfl) (fun U hU _ _ => by rw [hU]; exact hPc) hl.1 rfl (Nat.le_of_ble_eq_true rfl) dX4_ahead_33 ⟨Nat.zero_le _, Nat.zero_le _⟩) hP (hD _ rfl) hS rfl rfl rfl (fun H locs hP hS => ?_)
        obtain ⟨q0, g0⟩ := Prod.mk.inj (Option.some.inj h)
        obtain ⟨q1, g1⟩ := Prod.mk.inj g0
        obtain ⟨q2, g2⟩ := Prod.mk.inj g1
        obtain ⟨q3, g3⟩ := Prod.mk.inj g2
        obtain ⟨q4, g4⟩ := Prod.mk.inj g3
        obtain ⟨q5, g5⟩ := Prod.mk.inj g4
        obtain ⟨q6, g6⟩ := Prod.mk.inj g5
        obtain ⟨q7, g7⟩ := Prod.mk.inj g6
        obtain ⟨q8, q9⟩ := Prod.mk.inj g7
        subst q0 q1 q2 q3 q4 q5 q6 q7 q8 q9
        exact eMi C0 hP hS rfl rfl dX4_ahead_36
def fX4_later (F : Nat) (ppl : Nat → Int32) (psp : Nat → Int32) (psy : Nat → Int32) (psh : Nat → Int32) (tpl : Nat → Int32) (tsp : Nat → Int32) (tsy : Nat → Int32) (tsh : Nat → Int32) (fd : Nat → Int32) (psc : Int32) (pnc : Int32) (pdy : Int32) (pzz : Int32) (tsc : Int32) (tnc : Int32) (tdy : Int32) (tzz : Int32) (v1 : Int32) (v2 : Int32) (v3 : Int32) : Option (Int32 × (Nat → Int32) × (Nat → Int32) × (Nat → Int32) × (Nat → Int32) × (Nat → Int32) × Int32 × Int32 × Int32 × Int32) := (if (fX0_hasShip pnc v1) = 0 then some ((-1000001), tpl, tsp, tsy, tsh, fX4_finding_o1 fd (-1000001), tsc, tnc, tdy, tzz) else (if v2 = 0 then (if (fX4_within v3 0 100) = 0 then some ((-1000001), tpl, tsp, tsy, tsh, fX4_finding_o1 fd (-1000001), tsc, tnc, tdy, tzz) else Option.bind (fX4_behindDays F ppl psp psy psh tpl tsp tsy tsh psc pnc pdy pzz tsc tnc tdy tzz v3 63) (fun z_4 => some ((fX0_shipHas z_4.2.2.2.1 v1 v2), z_4.1, z_4.2.1, z_4.2.2.1, z_4.2.2.2.1, fd, z_4.2.2.2.2.1, z_4.2.2.2.2.2.1, z_4.2.2.2.2.2.2.1, z_4.2.2.2.2.2.2.2))) else (if v2 = 3 then (if (fX4_within v3 0 100) = 0 then some ((-1000001), tpl, tsp, tsy, tsh, fX4_finding_o1 fd (-1000001), tsc, tnc, tdy, tzz) else Option.bind (fX4_behindDays F ppl psp psy psh tpl tsp tsy tsh psc pnc pdy pzz tsc tnc tdy tzz v3 63) (fun z_8 => some ((fX0_shipHas z_8.2.2.2.1 v1 v2), z_8.1, z_8.2.1, z_8.2.2.1, z_8.2.2.2.1, fd, z_8.2.2.2.2.1, z_8.2.2.2.2.2.1, z_8.2.2.2.2.2.2.1, z_8.2.2.2.2.2.2.2))) else some ((-1000001), tpl, tsp, tsy, tsh, fX4_finding_o1 fd (-1000001), tsc, tnc, tdy, tzz))))
abbrev rmX4_later : Room := { frames := 6, cells := 0, slots := 0, locals := 142 }
theorem pdX4_later : (yX4_later.cls = RX4 ∧ yX4_later.cls ≠ "java/lang/invoke/MethodHandle" ∧ yX4_later.cls ≠ "java/lang/invoke/VarHandle" ∧ (parseMethodDescriptor yX4_later.desc).map (fun d => d.parameters.length) = some 3) := by decide +kernel
set_option maxHeartbeats 4000000 in
set_option maxRecDepth 100000 in
theorem tX4_later (l : Launch) (D : va_G) (cI cS : ClassId) (F : Nat) (a0 a1 a2 a3 a4 a5 a6 a7 a8 a9 a10 a11 a12 a13 a14 a15 a16 a17 a18 a19 a20 a21 a22 : Nat) (ppl : Nat → Int32) (psp : Nat → Int32) (psy : Nat → Int32) (psh : Nat → Int32) (tpl : Nat → Int32) (tsp : Nat → Int32) (tsy : Nat → Int32) (tsh : Nat → Int32) (kpl : Nat → Int32) (ksp : Nat → Int32) (ksy : Nat → Int32) (ksh : Nat → Int32) (bs : Nat → Int32) (bt : Nat → Int32) (sz : Nat → Int32) (nm : Nat → Int32) (fd : Nat → Int32) (ik : Int32) (psc : Int32) (pnc : Int32) (pdy : Int32) (pzz : Int32) (tsc : Int32) (tnc : Int32) (tdy : Int32) (tzz : Int32) (ksc : Int32) (knc : Int32) (kdy : Int32) (kzz : Int32) (ln : Int32) (so : Int32) (be : Int32) (en : Int32) (va : Int32) (v1 : Int32) (v2 : Int32) (v3 : Int32) (z0 : Int32) (z1 : Nat → Int32) (z2 : Nat → Int32) (z3 : Nat → Int32) (z4 : Nat → Int32) (z5 : Nat → Int32) (z6 : Int32) (z7 : Int32) (z8 : Int32) (z9 : Int32) (h : fX4_later F ppl psp psy psh tpl tsp tsy tsh fd psc pnc pdy pzz tsc tnc tdy tzz v1 v2 v3 = some (z0, z1, z2, z3, z4, z5, z6, z7, z8, z9)) (hD0 : va_D (fun _ => True) (wX4 cI cS a0 a1 a2 a3 a4 a5 a6 a7 a8 a9 a10 a11 a12 a13 a14 a15 a16 a17 a18 a19 a20 a21 a22 ppl psp psy psh tpl tsp tsy tsh kpl ksp ksy ksh bs bt sz nm fd ik psc pnc pdy pzz tsc tnc tdy tzz ksc knc kdy kzz ln so be en va)) : Met l yX4_later wsX4_later rmX4_later (PZ D cI cS [.ref a0, .int v1, .int v2, .int v3] (fun U => va_P D vwCl (wX4 cI cS a0 a1 a2 a3 a4 a5 a6 a7 a8 a9 a10 a11 a12 a13 a14 a15 a16 a17 a18 a19 a20 a21 a22 ppl psp psy psh tpl tsp tsy tsh kpl ksp ksy ksh bs bt sz nm fd ik psc pnc pdy pzz tsc tnc tdy tzz ksc knc kdy kzz ln so be en va) U.heap)) (qI D (wX4 cI cS a0 a1 a2 a3 a4 a5 a6 a7 a8 a9 a10 a11 a12 a13 a14 a15 a16 a17 a18 a19 a20 a21 a22 ppl psp psy psh tpl tsp tsy tsh kpl ksp ksy ksh bs bt sz nm fd ik psc pnc pdy pzz tsc tnc tdy tzz ksc knc kdy kzz ln so be en va) (wX4 cI cS a0 a1 a2 a3 a4 a5 a6 a7 a8 a9 a10 a11 a12 a13 a14 a15 a16 a17 a18 a19 a20 a21 a22 ppl psp psy psh z1 z2 z3 z4 kpl ksp ksy ksh bs bt sz nm z5 ik psc pnc pdy pzz z6 z7 z8 z9 ksc knc kdy kzz ln so be en va) z0) 0 0 (wA (wX4 cI cS a0 a1 a2 a3 a4 a5 a6 a7 a8 a9 a10 a11 a12 a13 a14 a15 a16 a17 a18 a19 a20 a21 a22 ppl psp psy psh tpl tsp tsy tsh kpl ksp ksy ksh bs bt sz nm fd ik psc pnc pdy pzz tsc tnc tdy tzz ksc knc kdy kzz ln so be en va)) := by
  refine Met.mk RX4 (by decide) rfl rfl (Nat.le_of_ble_eq_true rfl) ?_
  intro p e s m below meth c ls C0 hP hl
  have hl : lv_has ls 4 [(0, .ref a0), (1, .int v1), (2, .int v2), (3, .int v3)] := hl
  obtain ⟨hx, hb, hr, hml, hown, hts, hlk, hE⟩ := id C0
  have hinX4 : ∀ w ∈ u_ws RX4 TX4 7, w ∈ wsX4_later := by decide +kernel
  have hD : ∀ W : va_W, W.map Prod.fst = [a0, a1, a2, a3, a4, a5, a6, a7, a8, a9, a10, a11, a12, a13, a14, a15, a16, a17, a18, a19, a20, a21, a22] → va_D (wA (wX4 cI cS a0 a1 a2 a3 a4 a5 a6 a7 a8 a9 a10 a11 a12 a13 a14 a15 a16 a17 a18 a19 a20 a21 a22 ppl psp psy psh tpl tsp tsy tsh kpl ksp ksy ksh bs bt sz nm fd ik psc pnc pdy pzz tsc tnc tdy tzz ksc knc kdy kzz ln so be en va)) W := fun W hW => hD0.own.re hW
  have hS : va_S (wA (wX4 cI cS a0 a1 a2 a3 a4 a5 a6 a7 a8 a9 a10 a11 a12 a13 a14 a15 a16 a17 a18 a19 a20 a21 a22 ppl psp psy psh tpl tsp tsy tsh kpl ksp ksy ksh bs bt sz nm fd ik psc pnc pdy pzz tsc tnc tdy tzz ksc knc kdy kzz ln so be en va)) s.heap s.heap [] := va_S.rf
  have hP : va_P D vwCl (wX4 cI cS a0 a1 a2 a3 a4 a5 a6 a7 a8 a9 a10 a11 a12 a13 a14 a15 a16 a17 a18 a19 a20 a21 a22 ppl psp psy psh tpl tsp tsy tsh kpl ksp ksy ksh bs bt sz nm fd ik psc pnc pdy pzz tsc tnc tdy tzz ksc knc kdy kzz ln so be en va) s.heap := hP
  rw [fX4_later] at h
  refine lv_aload_n hx hb dX4_later_0 rfl (lv_at hl 0 rfl) ?_
  refine va_get (D := D) (ci := 3) (v := .ref a1) (C := RX4) (T := TX4) (N := 7) hx hb hts hinX4 hown hE.1 hP 0 rfl rfl 0 (by decide) (hts _ (List.mem_of_getElem? (i := 1) rfl)) (fun _ h9 => h9) rfl dX4_later_1 ?_
  refine lv_iload_n hx hb dX4_later_4 rfl (lv_at hl 1 rfl) ?_
  have hPc := hP.sub (ws' := (wX0 cI cS a1 a2 a3 a4 a5 ppl psp psy psh psc pnc pdy pzz)) [1, 2, 3, 4, 5] rfl
  refine kRi (rV C0 (tX0_hasShip l D cI cS a1 a2 a3 a4 a5 ppl psp psy psh psc pnc pdy pzz v1 (fX0_hasShip pnc v1) rfl) RX0 gX4_later_X0_hasShip rfl ⟨rfl, rfl⟩ pdX0_hasShip rfl ⟨Nat.le_of_ble_eq_true rfl, Nat.le_of_ble_eq_true rfl⟩ (fun _ _ _ _ q => q) (va_recv hE.1 hPc (ci := 0) (q0 := 0) rfl rfl) (fun U hU _ _ => by rw [hU]; exact hPc) hl.1 rfl (Nat.le_of_ble_eq_true rfl) dX4_later_5 ⟨Nat.zero_le _, Nat.zero_le _⟩) ?_
  refine lv_if_eq (tgt := 30) hx hb dX4_later_8 (by decide) (fun c_1 => ?_) (fun c_1 => ?_)
  · have h := ifp c_1 h
    refine lv_aload_n hx hb dX4_later_30 rfl (lv_at hl 0 rfl) ?_
    refine lv_ldc (v := (-1000001)) hx hb hown (hts _ (List.mem_of_getElem? (i := 2) rfl)) dX4_later_31 ?_
    have hPc := hP.sub (ws' := (wX4 cI cS a0 a1 a2 a3 a4 a5 a6 a7 a8 a9 a10 a11 a12 a13 a14 a15 a16 a17 a18 a19 a20 a21 a22 ppl psp psy psh tpl tsp tsy tsh kpl ksp ksy ksh bs bt sz nm fd ik psc pnc pdy pzz tsc tnc tdy tzz ksc knc kdy kzz ln so be en va)) [0, 1, 2, 3, 4, 5, 6, 7, 8, 9, 10, 11, 12, 13, 14, 15, 16, 17, 18, 19, 20, 21, 22] rfl
    refine kMi (wf' := (wX4 cI cS a0 a1 a2 a3 a4 a5 a6 a7 a8 a9 a10 a11 a12 a13 a14 a15 a16 a17 a18 a19 a20 a21 a22 ppl psp psy psh tpl tsp tsy tsh kpl ksp ksy ksh bs bt sz nm (fX4_finding_o1 fd (-1000001)) ik psc pnc pdy pzz tsc tnc tdy tzz ksc knc kdy kzz ln so be en va)) [0, 1, 2, 3, 4, 5, 6, 7, 8, 9, 10, 11, 12, 13, 14, 15, 16, 17, 18, 19, 20, 21, 22] [some 0, some 1, some 2, some 3, some 4, some 5, some 6, some 7, some 8, some 9, some 10, some 11, some 12, some 13, some 14, some 15, some 16, some 17, some 18, some 19, some 20, some 21, some 22] (rV C0 (tX4_finding l D cI cS a0 a1 a2 a3 a4 a5 a6 a7 a8 a9 a10 a11 a12 a13 a14 a15 a16 a17 a18 a19 a20 a21 a22 ppl psp psy psh tpl tsp tsy tsh kpl ksp ksy ksh bs bt sz nm fd ik psc pnc pdy pzz tsc tnc tdy tzz ksc knc kdy kzz ln so be en va (-1000001) (-1000001) (fX4_finding_o1 fd (-1000001)) (eeX4_finding ..) (((hD (wX4 cI cS a0 a1 a2 a3 a4 a5 a6 a7 a8 a9 a10 a11 a12 a13 a14 a15 a16 a17 a18 a19 a20 a21 a22 ppl psp psy psh tpl tsp tsy tsh kpl ksp ksy ksh bs bt sz nm fd ik psc pnc pdy pzz tsc tnc tdy tzz ksc knc kdy kzz ln so be en va) rfl).sub [0, 1, 2, 3, 4, 5, 6, 7, 8, 9, 10, 11, 12, 13, 14, 15, 16, 17, 18, 19, 20, 21, 22] (by decide) rfl).weaken (fun _ _ _ _ => trivial))) RX4 gX4_later_X4_finding rfl ⟨rfl, rfl⟩ pdX4_finding rfl ⟨Nat.le_of_ble_eq_true rfl, Nat.le_of_ble_eq_true rfl⟩ (fun _ _ _ _ q => q) (va_recv hE.1 hPc (ci := 3) (q0 := 0) rfl rfl) (fun U hU _ _ => by rw [hU]; exact hPc) hl.1 rfl (Nat.le_of_ble_eq_true rfl) dX4_later_33 ⟨Nat.zero_le _, Nat.zero_le _⟩) hP (hD _ rfl) hS rfl rfl rfl (fun H locs hP hS => ?_)
    obtain ⟨q0, g0⟩ := Prod.mk.inj (Option.some.inj h)
    obtain ⟨q1, g1⟩ := Prod.mk.inj g0
    obtain ⟨q2, g2⟩ := Prod.mk.inj g1
    obtain ⟨q3, g3⟩ := Prod.mk.inj g2
    obtain ⟨q4, g4⟩ := Prod.mk.inj g3
    obtain ⟨q5, g5⟩ := Prod.mk.inj g4
    obtain ⟨q6, g6⟩ := Prod.mk.inj g5
    obtain ⟨q7, g7⟩ := Prod.mk.inj g6
    obtain ⟨q8, q9⟩ := Prod.mk.inj g7
    subst q0 q1 q2 q3 q4 q5 q6 q7 q8 q9
    exact eMi C0 hP hS rfl rfl dX4_later_36
  · have h := ifn c_1 h
    refine lv_iload_n hx hb dX4_later_11 rfl (lv_at hl 2 rfl) ?_
    refine lv_if_eq (tgt := 20) hx hb dX4_later_12 (by decide) (fun c_2 => ?_) (fun c_2 => ?_)
    · have h := ifp c_2 h
      refine lv_iload_n hx hb dX4_later_20 rfl (lv_at hl 3 rfl) ?_
      refine lv_iconst (v := 0) hx hb dX4_later_21 (by decide) ?_
      refine lv_bipush (v := 100) hx hb dX4_later_22 (by decide) ?_
      refine kRi (rS C0 (tX4_within l D cI cS v3 0 100 (fX4_within v3 0 100) rfl) gX4_later_X4_within rfl ⟨rfl, rfl⟩ pdX4_within rfl ⟨Nat.le_of_ble_eq_true rfl, Nat.le_of_ble_eq_true rfl⟩ (fun _ _ _ _ q => q) (fun _ _ _ _ => vp0) hl.1 rfl (Nat.le_of_ble_eq_true rfl) dX4_later_24 ⟨Nat.zero_le _, Nat.zero_le _⟩) ?_
      refine lv_if_ne (tgt := 37) hx hb dX4_later_27 (by decide) (fun c_3 => ?_) (fun c_3 => ?_)
      · have h := ifn c_3 h
        refine lv_aload_n hx hb dX4_later_37 rfl (lv_at hl 0 rfl) ?_
        refine lv_iload_n hx hb dX4_later_38 rfl (lv_at hl 3 rfl) ?_
        refine lv_bipush (v := 63) hx hb dX4_later_39 (by decide) ?_
        obtain ⟨z_4, e_5, h⟩ := bds h
        have hPc := hP.sub (ws' := (wX4 cI cS a0 a1 a2 a3 a4 a5 a6 a7 a8 a9 a10 a11 a12 a13 a14 a15 a16 a17 a18 a19 a20 a21 a22 ppl psp psy psh tpl tsp tsy tsh kpl ksp ksy ksh bs bt sz nm fd ik psc pnc pdy pzz tsc tnc tdy tzz ksc knc kdy kzz ln so be en va)) [0, 1, 2, 3, 4, 5, 6, 7, 8, 9, 10, 11, 12, 13, 14, 15, 16, 17, 18, 19, 20, 21, 22] rfl
        refine kMa (wf' := (wX4 cI cS a0 a1 a2 a3 a4 a5 a6 a7 a8 a9 a10 a11 a12 a13 a14 a15 a16 a17 a18 a19 a20 a21 a22 ppl psp psy psh z_4.1 z_4.2.1 z_4.2.2.1 z_4.2.2.2.1 kpl ksp ksy ksh bs bt sz nm fd ik psc pnc pdy pzz z_4.2.2.2.2.1 z_4.2.2.2.2.2.1 z_4.2.2.2.2.2.2.1 z_4.2.2.2.2.2.2.2 ksc knc kdy kzz ln so be en va)) [0, 1, 2, 3, 4, 5, 6, 7, 8, 9, 10, 11, 12, 13, 14, 15, 16, 17, 18, 19, 20, 21, 22] [some 0, some 1, some 2, some 3, some 4, some 5, some 6, some 7, some 8, some 9, some 10, some 11, some 12, some 13, some 14, some 15, some 16, some 17, some 18, some 19, some 20, some 21, some 22] (rV C0 (tX4_behindDays l D cI cS F a0 a1 a2 a3 a4 a5 a6 a7 a8 a9 a10 a11 a12 a13 a14 a15 a16 a17 a18 a19 a20 a21 a22 ppl psp psy psh tpl tsp tsy tsh kpl ksp ksy ksh bs bt sz nm fd ik psc pnc pdy pzz tsc tnc tdy tzz ksc knc kdy kzz ln so be en va v3 63 z_4.1 z_4.2.1 z_4.2.2.1 z_4.2.2.2.1 z_4.2.2.2.2.1 z_4.2.2.2.2.2.1 z_4.2.2.2.2.2.2.1 z_4.2.2.2.2.2.2.2 e_5 (((hD (wX4 cI cS a0 a1 a2 a3 a4 a5 a6 a7 a8 a9 a10 a11 a12 a13 a14 a15 a16 a17 a18 a19 a20 a21 a22 ppl psp psy psh tpl tsp tsy tsh kpl ksp ksy ksh bs bt sz nm fd ik psc pnc pdy pzz tsc tnc tdy tzz ksc knc kdy kzz ln so be en va) rfl).sub [0, 1, 2, 3, 4, 5, 6, 7, 8, 9, 10, 11, 12, 13, 14, 15, 16, 17, 18, 19, 20, 21, 22] (by decide) rfl).weaken (fun _ _ _ _ => trivial))) RX4 gX4_later_X4_behindDays rfl ⟨rfl, rfl⟩ pdX4_behindDays rfl ⟨Nat.le_of_ble_eq_true rfl, Nat.le_of_ble_eq_true rfl⟩ (fun _ _ _ _ q => q) (va_recv hE.1 hPc (ci := 3) (q0 := 0) rfl rfl) (fun U hU _ _ => by rw [hU]; exact hPc) hl.1 rfl (Nat.le_of_ble_eq_true rfl) dX4_later_41 ⟨Nat.zero_le _, Nat.zero_le _⟩) hP (hD _ rfl) hS rfl rfl rfl (fun H locs hP hS => ?_)
        refine lv_iload_n hx hb dX4_later_44 rfl (lv_at hl 1 rfl) ?_
        refine lv_iload_n hx hb dX4_later_45 rfl (lv_at hl 2 rfl) ?_
        have hPc := hP.sub (ws' := (wX0 cI cS a6 a7 a8 a9 a10 z_4.1 z_4.2.1 z_4.2.2.1 z_4.2.2.2.1 z_4.2.2.2.2.1 z_4.2.2.2.2.2.1 z_4.2.2.2.2.2.2.1 z_4.2.2.2.2.2.2.2)) [6, 7, 8, 9, 10] rfl
        refine kRi (rV C0 (tX0_shipHas l D cI cS a6 a7 a8 a9 a10 z_4.1 z_4.2.1 z_4.2.2.1 z_4.2.2.2.1 z_4.2.2.2.2.1 z_4.2.2.2.2.2.1 z_4.2.2.2.2.2.2.1 z_4.2.2.2.2.2.2.2 v1 v2 (fX0_shipHas z_4.2.2.2.1 v1 v2) rfl) RX0 gX4_later_X0_shipHas rfl ⟨rfl, rfl⟩ pdX0_shipHas rfl ⟨Nat.le_of_ble_eq_true rfl, Nat.le_of_ble_eq_true rfl⟩ (fun _ _ _ _ q => q) (va_recv hE.1 hPc (ci := 0) (q0 := 0) rfl rfl) (fun U hU _ _ => by rw [hU]; exact hPc) hl.1 rfl (Nat.le_of_ble_eq_true rfl) dX4_later_46 ⟨Nat.zero_le _, Nat.zero_le _⟩) ?_
        obtain ⟨q0, g0⟩ := Prod.mk.inj (Option.some.inj h)
        obtain ⟨q1, g1⟩ := Prod.mk.inj g0
        obtain ⟨q2, g2⟩ := Prod.mk.inj g1
        obtain ⟨q3, g3⟩ := Prod.mk.inj g2
        obtain ⟨q4, g4⟩ := Prod.mk.inj g3
        obtain ⟨q5, g5⟩ := Prod.mk.inj g4
        obtain ⟨q6, g6⟩ := Prod.mk.inj g5
        obtain ⟨q7, g7⟩ := Prod.mk.inj g6
        obtain ⟨q8, q9⟩ := Prod.mk.inj g7
        subst q0 q1 q2 q3 q4 q5 q6 q7 q8 q9
        exact eMi C0 hP hS rfl rfl dX4_later_49
      · have h := ifp c_3 h
        refine lv_aload_n hx hb dX4_later_30 rfl (lv_at hl 0 rfl) ?_
        refine lv_ldc (v := (-1000001)) hx hb hown (hts _ (List.mem_of_getElem? (i := 2) rfl)) dX4_later_31 ?_
        have hPc := hP.sub (ws' := (wX4 cI cS a0 a1 a2 a3 a4 a5 a6 a7 a8 a9 a10 a11 a12 a13 a14 a15 a16 a17 a18 a19 a20 a21 a22 ppl psp psy psh tpl tsp tsy tsh kpl ksp ksy ksh bs bt sz nm fd ik psc pnc pdy pzz tsc tnc tdy tzz ksc knc kdy kzz ln so be en va)) [0, 1, 2, 3, 4, 5, 6, 7, 8, 9, 10, 11, 12, 13, 14, 15, 16, 17, 18, 19, 20, 21, 22] rfl
        refine kMi (wf' := (wX4 cI cS a0 a1 a2 a3 a4 a5 a6 a7 a8 a9 a10 a11 a12 a13 a14 a15 a16 a17 a18 a19 a20 a21 a22 ppl psp psy psh tpl tsp tsy tsh kpl ksp ksy ksh bs bt sz nm (fX4_finding_o1 fd (-1000001)) ik psc pnc pdy pzz tsc tnc tdy tzz ksc knc kdy kzz ln so be en va)) [0, 1, 2, 3, 4, 5, 6, 7, 8, 9, 10, 11, 12, 13, 14, 15, 16, 17, 18, 19, 20, 21, 22] [some 0, some 1, some 2, some 3, some 4, some 5, some 6, some 7, some 8, some 9, some 10, some 11, some 12, some 13, some 14, some 15, some 16, some 17, some 18, some 19, some 20, some 21, some 22] (rV C0 (tX4_finding l D cI cS a0 a1 a2 a3 a4 a5 a6 a7 a8 a9 a10 a11 a12 a13 a14 a15 a16 a17 a18 a19 a20 a21 a22 ppl psp psy psh tpl tsp tsy tsh kpl ksp ksy ksh bs bt sz nm fd ik psc pnc pdy pzz tsc tnc tdy tzz ksc knc kdy kzz ln so be en va (-1000001) (-1000001) (fX4_finding_o1 fd (-1000001)) (eeX4_finding ..) (((hD (wX4 cI cS a0 a1 a2 a3 a4 a5 a6 a7 a8 a9 a10 a11 a12 a13 a14 a15 a16 a17 a18 a19 a20 a21 a22 ppl psp psy psh tpl tsp tsy tsh kpl ksp ksy ksh bs bt sz nm fd ik psc pnc pdy pzz tsc tnc tdy tzz ksc knc kdy kzz ln so be en va) rfl).sub [0, 1, 2, 3, 4, 5, 6, 7, 8, 9, 10, 11, 12, 13, 14, 15, 16, 17, 18, 19, 20, 21, 22] (by decide) rfl).weaken (fun _ _ _ _ => trivial))) RX4 gX4_later_X4_finding rfl ⟨rfl, rfl⟩ pdX4_finding rfl ⟨Nat.le_of_ble_eq_true rfl, Nat.le_of_ble_eq_true rfl⟩ (fun _ _ _ _ q => q) (va_recv hE.1 hPc (ci := 3) (q0 := 0) rfl rfl) (fun U hU _ _ => by rw [hU]; exact hPc) hl.1 rfl (Nat.le_of_ble_eq_true rfl) dX4_later_33 ⟨Nat.zero_le _, Nat.zero_le _⟩) hP (hD _ rfl) hS rfl rfl rfl (fun H locs hP hS => ?_)
        obtain ⟨q0, g0⟩ := Prod.mk.inj (Option.some.inj h)
        obtain ⟨q1, g1⟩ := Prod.mk.inj g0
        obtain ⟨q2, g2⟩ := Prod.mk.inj g1
        obtain ⟨q3, g3⟩ := Prod.mk.inj g2
        obtain ⟨q4, g4⟩ := Prod.mk.inj g3
        obtain ⟨q5, g5⟩ := Prod.mk.inj g4
        obtain ⟨q6, g6⟩ := Prod.mk.inj g5
        obtain ⟨q7, g7⟩ := Prod.mk.inj g6
        obtain ⟨q8, q9⟩ := Prod.mk.inj g7
        subst q0 q1 q2 q3 q4 q5 q6 q7 q8 q9
        exact eMi C0 hP hS rfl rfl dX4_later_36
    · have h := ifn c_2 h
      refine lv_iload_n hx hb dX4_later_15 rfl (lv_at hl 2 rfl) ?_
      refine lv_iconst (v := 3) hx hb dX4_later_16 (by decide) ?_
      refine lv_icmp_ne (tgt := 30) hx hb dX4_later_17 (by decide) (fun c_6 => ?_) (fun c_6 => ?_)
      · have h := ifn c_6 h
        refine lv_aload_n hx hb dX4_later_30 rfl (lv_at hl 0 rfl) ?_
        refine lv_ldc (v := (-1000001)) hx hb hown (hts _ (List.mem_of_getElem? (i := 2) rfl)) dX4_later_31 ?_
        have hPc := hP.sub (ws' := (wX4 cI cS a0 a1 a2 a3 a4 a5 a6 a7 a8 a9 a10 a11 a12 a13 a14 a15 a16 a17 a18 a19 a20 a21 a22 ppl psp psy psh tpl tsp tsy tsh kpl ksp ksy ksh bs bt sz nm fd ik psc pnc pdy pzz tsc tnc tdy tzz ksc knc kdy kzz ln so be en va)) [0, 1, 2, 3, 4, 5, 6, 7, 8, 9, 10, 11, 12, 13, 14, 15, 16, 17, 18, 19, 20, 21, 22] rfl
        refine kMi (wf' := (wX4 cI cS a0 a1 a2 a3 a4 a5 a6 a7 a8 a9 a10 a11 a12 a13 a14 a15 a16 a17 a18 a19 a20 a21 a22 ppl psp psy psh tpl tsp tsy tsh kpl ksp ksy ksh bs bt sz nm (fX4_finding_o1 fd (-1000001)) ik psc pnc pdy pzz tsc tnc tdy tzz ksc knc kdy kzz ln so be en va)) [0, 1, 2, 3, 4, 5, 6, 7, 8, 9, 10, 11, 12, 13, 14, 15, 16, 17, 18, 19, 20, 21, 22] [some 0, some 1, some 2, some 3, some 4, some 5, some 6, some 7, some 8, some 9, some 10, some 11, some 12, some 13, some 14, some 15, some 16, some 17, some 18, some 19, some 20, some 21, some 22] (rV C0 (tX4_finding l D cI cS a0 a1 a2 a3 a4 a5 a6 a7 a8 a9 a10 a11 a12 a13 a14 a15 a16 a17 a18 a19 a20 a21 a22 ppl psp psy psh tpl tsp tsy tsh kpl ksp ksy ksh bs bt sz nm fd ik psc pnc pdy pzz tsc tnc tdy tzz ksc knc kdy kzz ln so be en va (-1000001) (-1000001) (fX4_finding_o1 fd (-1000001)) (eeX4_finding ..) (((hD (wX4 cI cS a0 a1 a2 a3 a4 a5 a6 a7 a8 a9 a10 a11 a12 a13 a14 a15 a16 a17 a18 a19 a20 a21 a22 ppl psp psy psh tpl tsp tsy tsh kpl ksp ksy ksh bs bt sz nm fd ik psc pnc pdy pzz tsc tnc tdy tzz ksc knc kdy kzz ln so be en va) rfl).sub [0, 1, 2, 3, 4, 5, 6, 7, 8, 9, 10, 11, 12, 13, 14, 15, 16, 17, 18, 19, 20, 21, 22] (by decide) rfl).weaken (fun _ _ _ _ => trivial))) RX4 gX4_later_X4_finding rfl ⟨rfl, rfl⟩ pdX4_finding rfl ⟨Nat.le_of_ble_eq_true rfl, Nat.le_of_ble_eq_true rfl⟩ (fun _ _ _ _ q => q) (va_recv hE.1 hPc (ci := 3) (q0 := 0) rfl rfl) (fun U hU _ _ => by rw [hU]; exact hPc) hl.1 rfl (Nat.le_of_ble_eq_true rfl) dX4_later_33 ⟨Nat.zero_le _, Nat.zero_le _⟩) hP (hD _ rfl) hS rfl rfl rfl (fun H locs hP hS => ?_)
        obtain ⟨q0, g0⟩ := Prod.mk.inj (Option.some.inj h)
        obtain ⟨q1, g1⟩ := Prod.mk.inj g0
        obtain ⟨q2, g2⟩ := Prod.mk.inj g1
        obtain ⟨q3, g3⟩ := Prod.mk.inj g2
        obtain ⟨q4, g4⟩ := Prod.mk.inj g3
        obtain ⟨q5, g5⟩ := Prod.mk.inj g4
        obtain ⟨q6, g6⟩ := Prod.mk.inj g5
        obtain ⟨q7, g7⟩ := Prod.mk.inj g6
        obtain ⟨q8, q9⟩ := Prod.mk.inj g7
        subst q0 q1 q2 q3 q4 q5 q6 q7 q8 q9
        exact eMi C0 hP hS rfl rfl dX4_later_36
      · have h := ifp c_6 h
        refine lv_iload_n hx hb dX4_later_20 rfl (lv_at hl 3 rfl) ?_
        refine lv_iconst (v := 0) hx hb dX4_later_21 (by decide) ?_
        refine lv_bipush (v := 100) hx hb dX4_later_22 (by decide) ?_
        refine kRi (rS C0 (tX4_within l D cI cS v3 0 100 (fX4_within v3 0 100) rfl) gX4_later_X4_within rfl ⟨rfl, rfl⟩ pdX4_within rfl ⟨Nat.le_of_ble_eq_true rfl, Nat.le_of_ble_eq_true rfl⟩ (fun _ _ _ _ q => q) (fun _ _ _ _ => vp0) hl.1 rfl (Nat.le_of_ble_eq_true rfl) dX4_later_24 ⟨Nat.zero_le _, Nat.zero_le _⟩) ?_
        refine lv_if_ne (tgt := 37) hx hb dX4_later_27 (by decide) (fun c_7 => ?_) (fun c_7 => ?_)
        · have h := ifn c_7 h
          refine lv_aload_n hx hb dX4_later_37 rfl (lv_at hl 0 rfl) ?_
          refine lv_iload_n hx hb dX4_later_38 rfl (lv_at hl 3 rfl) ?_
          refine lv_bipush (v := 63) hx hb dX4_later_39 (by decide) ?_
          obtain ⟨z_8, e_9, h⟩ := bds h
          have hPc := hP.sub (ws' := (wX4 cI cS a0 a1 a2 a3 a4 a5 a6 a7 a8 a9 a10 a11 a12 a13 a14 a15 a16 a17 a18 a19 a20 a21 a22 ppl psp psy psh tpl tsp tsy tsh kpl ksp ksy ksh bs bt sz nm fd ik psc pnc pdy pzz tsc tnc tdy tzz ksc knc kdy kzz ln so be en va)) [0, 1, 2, 3, 4, 5, 6, 7, 8, 9, 10, 11, 12, 13, 14, 15, 16, 17, 18, 19, 20, 21, 22] rfl
          refine kMa (wf' := (wX4 cI cS a0 a1 a2 a3 a4 a5 a6 a7 a8 a9 a10 a11 a12 a13 a14 a15 a16 a17 a18 a19 a20 a21 a22 ppl psp psy psh z_8.1 z_8.2.1 z_8.2.2.1 z_8.2.2.2.1 kpl ksp ksy ksh bs bt sz nm fd ik psc pnc pdy pzz z_8.2.2.2.2.1 z_8.2.2.2.2.2.1 z_8.2.2.2.2.2.2.1 z_8.2.2.2.2.2.2.2 ksc knc kdy kzz ln so be en va)) [0, 1, 2, 3, 4, 5, 6, 7, 8, 9, 10, 11, 12, 13, 14, 15, 16, 17, 18, 19, 20, 21, 22] [some 0, some 1, some 2, some 3, some 4, some 5, some 6, some 7, some 8, some 9, some 10, some 11, some 12, some 13, some 14, some 15, some 16, some 17, some 18, some 19, some 20, some 21, some 22] (rV C0 (tX4_behindDays l D cI cS F a0 a1 a2 a3 a4 a5 a6 a7 a8 a9 a10 a11 a12 a13 a14 a15 a16 a17 a18 a19 a20 a21 a22 ppl psp psy psh tpl tsp tsy tsh kpl ksp ksy ksh bs bt sz nm fd ik psc pnc pdy pzz tsc tnc tdy tzz ksc knc kdy kzz ln so be en va v3 63 z_8.1 z_8.2.1 z_8.2.2.1 z_8.2.2.2.1 z_8.2.2.2.2.1 z_8.2.2.2.2.2.1 z_8.2.2.2.2.2.2.1 z_8.2.2.2.2.2.2.2 e_9 (((hD (wX4 cI cS a0 a1 a2 a3 a4 a5 a6 a7 a8 a9 a10 a11 a12 a13 a14 a15 a16 a17 a18 a19 a20 a21 a22 ppl psp psy psh tpl tsp tsy tsh kpl ksp ksy ksh bs bt sz nm fd ik psc pnc pdy pzz tsc tnc tdy tzz ksc knc kdy kzz ln so be en va) rfl).sub [0, 1, 2, 3, 4, 5, 6, 7, 8, 9, 10, 11, 12, 13, 14, 15, 16, 17, 18, 19, 20, 21, 22] (by decide) rfl).weaken (fun _ _ _ _ => trivial))) RX4 gX4_later_X4_behindDays rfl ⟨rfl, rfl⟩ pdX4_behindDays rfl ⟨Nat.le_of_ble_eq_true rfl, Nat.le_of_ble_eq_true rfl⟩ (fun _ _ _ _ q => q) (va_recv hE.1 hPc (ci := 3) (q0 := 0) rfl rfl) (fun U hU _ _ => by rw [hU]; exact hPc) hl.1 rfl (Nat.le_of_ble_eq_true rfl) dX4_later_41 ⟨Nat.zero_le _, Nat.zero_le _⟩) hP (hD _ rfl) hS rfl rfl rfl (fun H locs hP hS => ?_)
          refine lv_iload_n hx hb dX4_later_44 rfl (lv_at hl 1 rfl) ?_
          refine lv_iload_n hx hb dX4_later_45 rfl (lv_at hl 2 rfl) ?_
          have hPc := hP.sub (ws' := (wX0 cI cS a6 a7 a8 a9 a10 z_8.1 z_8.2.1 z_8.2.2.1 z_8.2.2.2.1 z_8.2.2.2.2.1 z_8.2.2.2.2.2.1 z_8.2.2.2.2.2.2.1 z_8.2.2.2.2.2.2.2)) [6, 7, 8, 9, 10] rfl
          refine kRi (rV C0 (tX0_shipHas l D cI cS a6 a7 a8 a9 a10 z_8.1 z_8.2.1 z_8.2.2.1 z_8.2.2.2.1 z_8.2.2.2.2.1 z_8.2.2.2.2.2.1 z_8.2.2.2.2.2.2.1 z_8.2.2.2.2.2.2.2 v1 v2 (fX0_shipHas z_8.2.2.2.1 v1 v2) rfl) RX0 gX4_later_X0_shipHas rfl ⟨rfl, rfl⟩ pdX0_shipHas rfl ⟨Nat.le_of_ble_eq_true rfl, Nat.le_of_ble_eq_true rfl⟩ (fun _ _ _ _ q => q) (va_recv hE.1 hPc (ci := 0) (q0 := 0) rfl rfl) (fun U hU _ _ => by rw [hU]; exact hPc) hl.1 rfl (Nat.le_of_ble_eq_true rfl) dX4_later_46 ⟨Nat.zero_le _, Nat.zero_le _⟩) ?_
          obtain ⟨q0, g0⟩ := Prod.mk.inj (Option.some.inj h)
          obtain ⟨q1, g1⟩ := Prod.mk.inj g0
          obtain ⟨q2, g2⟩ := Prod.mk.inj g1
          obtain ⟨q3, g3⟩ := Prod.mk.inj g2
          obtain ⟨q4, g4⟩ := Prod.mk.inj g3
          obtain ⟨q5, g5⟩ := Prod.mk.inj g4
          obtain ⟨q6, g6⟩ := Prod.mk.inj g5
          obtain ⟨q7, g7⟩ := Prod.mk.inj g6
          obtain ⟨q8, q9⟩ := Prod.mk.inj g7
          subst q0 q1 q2 q3 q4 q5 q6 q7 q8 q9
          exact eMi C0 hP hS rfl rfl dX4_later_49
        · have h := ifp c_7 h
          refine lv_aload_n hx hb dX4_later_30 rfl (lv_at hl 0 rfl) ?_
          refine lv_ldc (v := (-1000001)) hx hb hown (hts _ (List.mem_of_getElem? (i := 2) rfl)) dX4_later_31 ?_
          have hPc := hP.sub (ws' := (wX4 cI cS a0 a1 a2 a3 a4 a5 a6 a7 a8 a9 a10 a11 a12 a13 a14 a15 a16 a17 a18 a19 a20 a21 a22 ppl psp psy psh tpl tsp tsy tsh kpl ksp ksy ksh bs bt sz nm fd ik psc pnc pdy pzz tsc tnc tdy tzz ksc knc kdy kzz ln so be en va)) [0, 1, 2, 3, 4, 5, 6, 7, 8, 9, 10, 11, 12, 13, 14, 15, 16, 17, 18, 19, 20, 21, 22] rfl
          refine kMi (wf' := (wX4 cI cS a0 a1 a2 a3 a4 a5 a6 a7 a8 a9 a10 a11 a12 a13 a14 a15 a16 a17 a18 a19 a20 a21 a22 ppl psp psy psh tpl tsp tsy tsh kpl ksp ksy ksh bs bt sz nm (fX4_finding_o1 fd (-1000001)) ik psc pnc pdy pzz tsc tnc tdy tzz ksc knc kdy kzz ln so be en va)) [0, 1, 2, 3, 4, 5, 6, 7, 8, 9, 10, 11, 12, 13, 14, 15, 16, 17, 18, 19, 20, 21, 22] [some 0, some 1, some 2, some 3, some 4, some 5, some 6, some 7, some 8, some 9, some 10, some 11, some 12, some 13, some 14, some 15, some 16, some 17, some 18, some 19, some 20, some 21, some 22] (rV C0 (tX4_finding l D cI cS a0 a1 a2 a3 a4 a5 a6 a7 a8 a9 a10 a11 a12 a13 a14 a15 a16 a17 a18 a19 a20 a21 a22 ppl psp psy psh tpl tsp tsy tsh kpl ksp ksy ksh bs bt sz nm fd ik psc pnc pdy pzz tsc tnc tdy tzz ksc knc kdy kzz ln so be en va (-1000001) (-1000001) (fX4_finding_o1 fd (-1000001)) (eeX4_finding ..) (((hD (wX4 cI cS a0 a1 a2 a3 a4 a5 a6 a7 a8 a9 a10 a11 a12 a13 a14 a15 a16 a17 a18 a19 a20 a21 a22 ppl psp psy psh tpl tsp tsy tsh kpl ksp ksy ksh bs bt sz nm fd ik psc pnc pdy pzz tsc tnc tdy tzz ksc knc kdy kzz ln so be en va) rfl).sub [0, 1, 2, 3, 4, 5, 6, 7, 8, 9, 10, 11, 12, 13, 14, 15, 16, 17, 18, 19, 20, 21, 22] (by decide) rfl).weaken (fun _ _ _ _ => trivial))) RX4 gX4_later_X4_finding rfl ⟨rfl, rfl⟩ pdX4_finding rfl ⟨Nat.le_of_ble_eq_true rfl, Nat.le_of_ble_eq_true rfl⟩ (fun _ _ _ _ q => q) (va_recv hE.1 hPc (ci := 3) (q0 := 0) rfl rfl) (fun U hU _ _ => by rw [hU]; exact hPc) hl.1 rfl (Nat.le_of_ble_eq_true rfl) dX4_later_33 ⟨Nat.zero_le _, Nat.zero_le _⟩) hP (hD _ rfl) hS rfl rfl rfl (fun H locs hP hS => ?_)
          obtain ⟨q0, g0⟩ := Prod.mk.inj (Option.some.inj h)
          obtain ⟨q1, g1⟩ := Prod.mk.inj g0
          obtain ⟨q2, g2⟩ := Prod.mk.inj g1
          obtain ⟨q3, g3⟩ := Prod.mk.inj g2
          obtain ⟨q4, g4⟩ := Prod.mk.inj g3
          obtain ⟨q5, g5⟩ := Prod.mk.inj g4
          obtain ⟨q6, g6⟩ := Prod.mk.inj g5
          obtain ⟨q7, g7⟩ := Prod.mk.inj g6
          obtain ⟨q8, q9⟩ := Prod.mk.inj g7
          subst q0 q1 q2 q3 q4 q5 q6 q7 q8 q9
          exact eMi C0 hP hS rfl rfl dX4_later_36
def fX4_fog (F : Nat) (ppl : Nat → Int32) (psp : Nat → Int32) (psy : Nat → Int32) (psh : Nat → Int32) (tpl : Nat → Int32) (tsp : Nat → Int32) (tsy : Nat → Int32) (tsh : Nat → Int32) (fd : Nat → Int32) (psc : Int32) (pnc : Int32) (pdy : Int32) (pzz : Int32) (tsc : Int32) (tnc : Int32) (tdy : Int32) (tzz : Int32) (v1 : Int32) (v2 : Int32) : Option (Int32 × (Nat → Int32) × (Nat → Int32) × (Nat → Int32) × (Nat → Int32) × (Nat → Int32) × Int32 × Int32 × Int32 × Int32) := (if (fX4_isCell v1) = 0 then some ((-1000001), tpl, tsp, tsy, tsh, fX4_finding_o1 fd (-1000001), tsc, tnc, tdy, tzz) else (if (fX4_within v2 0 100) = 0 then some ((-1000001), tpl, tsp, tsy, tsh, fX4_finding_o1 fd (-1000001), tsc, tnc, tdy, tzz) else Option.bind (fX4_behindDays F ppl psp psy psh tpl tsp tsy tsh psc pnc pdy pzz tsc tnc tdy tzz v2 0) (fun z_3 => Option.bind (fX0_thickAt F z_3.2.2.1 z_3.2.2.2.2.1 v1) (fun z_5 => some (z_5, z_3.1, z_3.2.1, z_3.2.2.1, z_3.2.2.2.1, fd, z_3.2.2.2.2.1, z_3.2.2.2.2.2.1, z_3.2.2.2.2.2.2.1, z_3.2.2.2.2.2.2.2)))))
abbrev rmX4_fog : Room := { frames := 6, cells := 0, slots := 0, locals := 142 }
theorem pdX4_fog : (yX4_fog.cls = RX4 ∧ yX4_fog.cls ≠ "java/lang/invoke/MethodHandle" ∧ yX4_fog.cls ≠ "java/lang/invoke/VarHandle" ∧ (parseMethodDescriptor yX4_fog.desc).map (fun d => d.parameters.length) = some 2) := by decide +kernel
set_option maxHeartbeats 4000000 in
set_option maxRecDepth 100000 in
theorem tX4_fog (l : Launch) (D : va_G) (cI cS : ClassId) (F : Nat) (a0 a1 a2 a3 a4 a5 a6 a7 a8 a9 a10 a11 a12 a13 a14 a15 a16 a17 a18 a19 a20 a21 a22 : Nat) (ppl : Nat → Int32) (psp : Nat → Int32) (psy : Nat → Int32) (psh : Nat → Int32) (tpl : Nat → Int32) (tsp : Nat → Int32) (tsy : Nat → Int32) (tsh : Nat → Int32) (kpl : Nat → Int32) (ksp : Nat → Int32) (ksy : Nat → Int32) (ksh : Nat → Int32) (bs : Nat → Int32) (bt : Nat → Int32) (sz : Nat → Int32) (nm : Nat → Int32) (fd : Nat → Int32) (ik : Int32) (psc : Int32) (pnc : Int32) (pdy : Int32) (pzz : Int32) (tsc : Int32) (tnc : Int32) (tdy : Int32) (tzz : Int32) (ksc : Int32) (knc : Int32) (kdy : Int32) (kzz : Int32) (ln : Int32) (so : Int32) (be : Int32) (en : Int32) (va : Int32) (v1 : Int32) (v2 : Int32) (z0 : Int32) (z1 : Nat → Int32) (z2 : Nat → Int32) (z3 : Nat → Int32) (z4 : Nat → Int32) (z5 : Nat → Int32) (z6 : Int32) (z7 : Int32) (z8 : Int32) (z9 : Int32) (h : fX4_fog F ppl psp psy psh tpl tsp tsy tsh fd psc pnc pdy pzz tsc tnc tdy tzz v1 v2 = some (z0, z1, z2, z3, z4, z5, z6, z7, z8, z9)) (hD0 : va_D (fun _ => True) (wX4 cI cS a0 a1 a2 a3 a4 a5 a6 a7 a8 a9 a10 a11 a12 a13 a14 a15 a16 a17 a18 a19 a20 a21 a22 ppl psp psy psh tpl tsp tsy tsh kpl ksp ksy ksh bs bt sz nm fd ik psc pnc pdy pzz tsc tnc tdy tzz ksc knc kdy kzz ln so be en va)) : Met l yX4_fog wsX4_fog rmX4_fog (PZ D cI cS [.ref a0, .int v1, .int v2] (fun U => va_P D vwCl (wX4 cI cS a0 a1 a2 a3 a4 a5 a6 a7 a8 a9 a10 a11 a12 a13 a14 a15 a16 a17 a18 a19 a20 a21 a22 ppl psp psy psh tpl tsp tsy tsh kpl ksp ksy ksh bs bt sz nm fd ik psc pnc pdy pzz tsc tnc tdy tzz ksc knc kdy kzz ln so be en va) U.heap)) (qI D (wX4 cI cS a0 a1 a2 a3 a4 a5 a6 a7 a8 a9 a10 a11 a12 a13 a14 a15 a16 a17 a18 a19 a20 a21 a22 ppl psp psy psh tpl tsp tsy tsh kpl ksp ksy ksh bs bt sz nm fd ik psc pnc pdy pzz tsc tnc tdy tzz ksc knc kdy kzz ln so be en va) (wX4 cI cS a0 a1 a2 a3 a4 a5 a6 a7 a8 a9 a10 a11 a12 a13 a14 a15 a16 a17 a18 a19 a20 a21 a22 ppl psp psy psh z1 z2 z3 z4 kpl ksp ksy ksh bs bt sz nm z5 ik psc pnc pdy pzz z6 z7 z8 z9 ksc knc kdy kzz ln so be en va) z0) 0 0 (wA (wX4 cI cS a0 a1 a2 a3 a4 a5 a6 a7 a8 a9 a10 a11 a12 a13 a14 a15 a16 a17 a18 a19 a20 a21 a22 ppl psp psy psh tpl tsp tsy tsh kpl ksp ksy ksh bs bt sz nm fd ik psc pnc pdy pzz tsc tnc tdy tzz ksc knc kdy kzz ln so be en va)) := by
  refine Met.mk RX4 (by decide) rfl rfl (Nat.le_of_ble_eq_true rfl) ?_
  intro p e s m below meth c ls C0 hP hl
  have hl : lv_has ls 3 [(0, .ref a0), (1, .int v1), (2, .int v2)] := hl
  obtain ⟨hx, hb, hr, hml, hown, hts, hlk, hE⟩ := id C0
  have hD : ∀ W : va_W, W.map Prod.fst = [a0, a1, a2, a3, a4, a5, a6, a7, a8, a9, a10, a11, a12, a13, a14, a15, a16, a17, a18, a19, a20, a21, a22] → va_D (wA (wX4 cI cS a0 a1 a2 a3 a4 a5 a6 a7 a8 a9 a10 a11 a12 a13 a14 a15 a16 a17 a18 a19 a20 a21 a22 ppl psp psy psh tpl tsp tsy tsh kpl ksp ksy ksh bs bt sz nm fd ik psc pnc pdy pzz tsc tnc tdy tzz ksc knc kdy kzz ln so be en va)) W := fun W hW => hD0.own.re hW
  have hS : va_S (wA (wX4 cI cS a0 a1 a2 a3 a4 a5 a6 a7 a8 a9 a10 a11 a12 a13 a14 a15 a16 a17 a18 a19 a20 a21 a22 ppl psp psy psh tpl tsp tsy tsh kpl ksp ksy ksh bs bt sz nm fd ik psc pnc pdy pzz tsc tnc tdy tzz ksc knc kdy kzz ln so be en va)) s.heap s.heap [] := va_S.rf
  have hP : va_P D vwCl (wX4 cI cS a0 a1 a2 a3 a4 a5 a6 a7 a8 a9 a10 a11 a12 a13 a14 a15 a16 a17 a18 a19 a20 a21 a22 ppl psp psy psh tpl tsp tsy tsh kpl ksp ksy ksh bs bt sz nm fd ik psc pnc pdy pzz tsc tnc tdy tzz ksc knc kdy kzz ln so be en va) s.heap := hP
  rw [fX4_fog] at h
  refine lv_iload_n hx hb dX4_fog_0 rfl (lv_at hl 1 rfl) ?_
  refine kRi (rS C0 (tX4_isCell l D cI cS v1 (fX4_isCell v1) rfl) gX4_fog_X4_isCell rfl ⟨rfl, rfl⟩ pdX4_isCell rfl ⟨Nat.le_of_ble_eq_true rfl, Nat.le_of_ble_eq_true rfl⟩ (fun _ _ _ _ q => q) (fun _ _ _ _ => vp0) hl.1 rfl (Nat.le_of_ble_eq_true rfl) dX4_fog_1 ⟨Nat.zero_le _, Nat.zero_le _⟩) ?_
  refine lv_if_eq (tgt := 17) hx hb dX4_fog_4 (by decide) (fun c_1 => ?_) (fun c_1 => ?_)
  · have h := ifp c_1 h
    refine lv_aload_n hx hb dX4_fog_17 rfl (lv_at hl 0 rfl) ?_
    refine lv_ldc (v := (-1000001)) hx hb hown (hts _ (List.mem_of_getElem? (i := 1) rfl)) dX4_fog_18 ?_
    have hPc := hP.sub (ws' := (wX4 cI cS a0 a1 a2 a3 a4 a5 a6 a7 a8 a9 a10 a11 a12 a13 a14 a15 a16 a17 a18 a19 a20 a21 a22 ppl psp psy psh tpl tsp tsy tsh kpl ksp ksy ksh bs bt sz nm fd ik psc pnc pdy pzz tsc tnc tdy tzz ksc knc kdy kzz ln so be en va)) [0, 1, 2, 3, 4, 5, 6, 7, 8, 9, 10, 11, 12, 13, 14, 15, 16, 17, 18, 19, 20, 21, 22] rfl
    refine kMi (wf' := (wX4 cI cS a0 a1 a2 a3 a4 a5 a6 a7 a8 a9 a10 a11 a12 a13 a14 a15 a16 a17 a18 a19 a20 a21 a22 ppl psp psy psh tpl tsp tsy tsh kpl ksp ksy ksh bs bt sz nm (fX4_finding_o1 fd (-1000001)) ik psc pnc pdy pzz tsc tnc tdy tzz ksc knc kdy kzz ln so be en va)) [0, 1, 2, 3, 4, 5, 6, 7, 8, 9, 10, 11, 12, 13, 14, 15, 16, 17, 18, 19, 20, 21, 22] [some 0, some 1, some 2, some 3, some 4, some 5, some 6, some 7, some 8, some 9, some 10, some 11, some 12, some 13, some 14, some 15, some 16, some 17, some 18, some 19, some 20, some 21, some 22] (rV C0 (tX4_finding l D cI cS a0 a1 a2 a3 a4 a5 a6 a7 a8 a9 a10 a11 a12 a13 a14 a15 a16 a17 a18 a19 a20 a21 a22 ppl psp psy psh tpl tsp tsy tsh kpl ksp ksy ksh bs bt sz nm fd ik psc pnc pdy pzz tsc tnc tdy tzz ksc knc kdy kzz ln so be en va (-1000001) (-1000001) (fX4_finding_o1 fd (-1000001)) (eeX4_finding ..) (((hD (wX4 cI cS a0 a1 a2 a3 a4 a5 a6 a7 a8 a9 a10 a11 a12 a13 a14 a15 a16 a17 a18 a19 a20 a21 a22 ppl psp psy psh tpl tsp tsy tsh kpl ksp ksy ksh bs bt sz nm fd ik psc pnc pdy pzz tsc tnc tdy tzz ksc knc kdy kzz ln so be en va) rfl).sub [0, 1, 2, 3, 4, 5, 6, 7, 8, 9, 10, 11, 12, 13, 14, 15, 16, 17, 18, 19, 20, 21, 22] (by decide) rfl).weaken (fun _ _ _ _ => trivial))) RX4 gX4_fog_X4_finding rfl ⟨rfl, rfl⟩ pdX4_finding rfl ⟨Nat.le_of_ble_eq_true rfl, Nat.le_of_ble_eq_true rfl⟩ (fun _ _ _ _ q => q) (va_recv hE.1 hPc (ci := 3) (q0 := 0) rfl rfl) (fun U hU _ _ => by rw [hU]; exact hPc) hl.1 rfl (Nat.le_of_ble_eq_true rfl) dX4_fog_20 ⟨Nat.zero_le _, Nat.zero_le _⟩) hP (hD _ rfl) hS rfl rfl rfl (fun H locs hP hS => ?_)
    obtain ⟨q0, g0⟩ := Prod.mk.inj (Option.some.inj h)
    obtain ⟨q1, g1⟩ := Prod.mk.inj g0
    obtain ⟨q2, g2⟩ := Prod.mk.inj g1
    obtain ⟨q3, g3⟩ := Prod.mk.inj g2
    obtain ⟨q4, g4⟩ := Prod.mk.inj g3
    obtain ⟨q5, g5⟩ := Prod.mk.inj g4
    obtain ⟨q6, g6⟩ := Prod.mk.inj g5
    obtain ⟨q7, g7⟩ := Prod.mk.inj g6
    obtain ⟨q8, q9⟩ := Prod.mk.inj g7
    subst q0 q1 q2 q3 q4 q5 q6 q7 q8 q9
    exact eMi C0 hP hS rfl rfl dX4_fog_23
  · have h := ifn c_1 h
    refine lv_iload_n hx hb dX4_fog_7 rfl (lv_at hl 2 rfl) ?_
    refine lv_iconst (v := 0) hx hb dX4_fog_8 (by decide) ?_
    refine lv_bipush (v := 100) hx hb dX4_fog_9 (by decide) ?_
    refine kRi (rS C0 (tX4_within l D cI cS v2 0 100 (fX4_within v2 0 100) rfl) gX4_fog_X4_within rfl ⟨rfl, rfl⟩ pdX4_within rfl ⟨Nat.le_of_ble_eq_true rfl, Nat.le_of_ble_eq_true rfl⟩ (fun _ _ _ _ q => q) (fun _ _ _ _ => vp0) hl.1 rfl (Nat.le_of_ble_eq_true rfl) dX4_fog_11 ⟨Nat.zero_le _, Nat.zero_le _⟩) ?_
    refine lv_if_ne (tgt := 24) hx hb dX4_fog_14 (by decide) (fun c_2 => ?_) (fun c_2 => ?_)
    · have h := ifn c_2 h
      refine lv_aload_n hx hb dX4_fog_24 rfl (lv_at hl 0 rfl) ?_
      refine lv_iload_n hx hb dX4_fog_25 rfl (lv_at hl 2 rfl) ?_
      refine lv_iconst (v := 0) hx hb dX4_fog_26 (by decide) ?_
      obtain ⟨z_3, e_4, h⟩ := bds h
      have hPc := hP.sub (ws' := (wX4 cI cS a0 a1 a2 a3 a4 a5 a6 a7 a8 a9 a10 a11 a12 a13 a14 a15 a16 a17 a18 a19 a20 a21 a22 ppl psp psy psh tpl tsp tsy tsh kpl ksp ksy ksh bs bt sz nm fd ik psc pnc pdy pzz tsc tnc tdy tzz ksc knc kdy kzz ln so be en va)) [0, 1, 2, 3, 4, 5, 6, 7, 8, 9, 10, 11, 12, 13, 14, 15, 16, 17, 18, 19, 20, 21, 22] rfl
      refine kMa (wf' := (wX4 cI cS a0 a1 a2 a3 a4 a5 a6 a7 a8 a9 a10 a11 a12 a13 a14 a15 a16 a17 a18 a19 a20 a21 a22 ppl psp psy psh z_3.1 z_3.2.1 z_3.2.2.1 z_3.2.2.2.1 kpl ksp ksy ksh bs bt sz nm fd ik psc pnc pdy pzz z_3.2.2.2.2.1 z_3.2.2.2.2.2.1 z_3.2.2.2.2.2.2.1 z_3.2.2.2.2.2.2.2 ksc knc kdy kzz ln so be en va)) [0, 1, 2, 3, 4, 5, 6, 7, 8, 9, 10, 11, 12, 13, 14, 15, 16, 17, 18, 19, 20, 21, 22] [some 0, some 1, some 2, some 3, some 4, some 5, some 6, some 7, some 8, some 9, some 10, some 11, some 12, some 13, some 14, some 15, some 16, some 17, some 18, some 19, some 20, some 21, some 22] (rV C0 (tX4_behindDays l D cI cS F a0 a1 a2 a3 a4 a5 a6 a7 a8 a9 a10 a11 a12 a13 a14 a15 a16 a17 a18 a19 a20 a21 a22 ppl psp psy psh tpl tsp tsy tsh kpl ksp ksy ksh bs bt sz nm fd ik psc pnc pdy pzz tsc tnc tdy tzz ksc knc kdy kzz ln so be en va v2 0 z_3.1 z_3.2.1 z_3.2.2.1 z_3.2.2.2.1 z_3.2.2.2.2.1 z_3.2.2.2.2.2.1 z_3.2.2.2.2.2.2.1 z_3.2.2.2.2.2.2.2 e_4 (((hD (wX4 cI cS a0 a1 a2 a3 a4 a5 a6 a7 a8 a9 a10 a11 a12 a13 a14 a15 a16 a17 a18 a19 a20 a21 a22 ppl psp psy psh tpl tsp tsy tsh kpl ksp ksy ksh bs bt sz nm fd ik psc pnc pdy pzz tsc tnc tdy tzz ksc knc kdy kzz ln so be en va) rfl).sub [0, 1, 2, 3, 4, 5, 6, 7, 8, 9, 10, 11, 12, 13, 14, 15, 16, 17, 18, 19, 20, 21, 22] (by decide) rfl).weaken (fun _ _ _ _ => trivial))) RX4 gX4_fog_X4_behindDays rfl ⟨rfl, rfl⟩ pdX4_behindDays rfl ⟨Nat.le_of_ble_eq_true rfl, Nat.le_of_ble_eq_true rfl⟩ (fun _ _ _ _ q => q) (va_recv hE.1 hPc (ci := 3) (q0 := 0) rfl rfl) (fun U hU _ _ => by rw [hU]; exact hPc) hl.1 rfl (Nat.le_of_ble_eq_true rfl) dX4_fog_27 ⟨Nat.zero_le _, Nat.zero_le _⟩) hP (hD _ rfl) hS rfl rfl rfl (fun H locs hP hS => ?_)
      refine lv_iload_n hx hb dX4_fog_30 rfl (lv_at hl 1 rfl) ?_
      obtain ⟨z_5, e_6, h⟩ := bds h
      have hPc := hP.sub (ws' := (wX0 cI cS a6 a7 a8 a9 a10 z_3.1 z_3.2.1 z_3.2.2.1 z_3.2.2.2.1 z_3.2.2.2.2.1 z_3.2.2.2.2.2.1 z_3.2.2.2.2.2.2.1 z_3.2.2.2.2.2.2.2)) [6, 7, 8, 9, 10] rfl
      refine kRi (rV C0 (tX0_thickAt l D cI cS F a6 a7 a8 a9 a10 z_3.1 z_3.2.1 z_3.2.2.1 z_3.2.2.2.1 z_3.2.2.2.2.1 z_3.2.2.2.2.2.1 z_3.2.2.2.2.2.2.1 z_3.2.2.2.2.2.2.2 v1 z_5 e_6) RX0 gX4_fog_X0_thickAt rfl ⟨rfl, rfl⟩ pdX0_thickAt rfl ⟨Nat.le_of_ble_eq_true rfl, Nat.le_of_ble_eq_true rfl⟩ (fun _ _ _ _ q => q) (va_recv hE.1 hPc (ci := 0) (q0 := 0) rfl rfl) (fun U hU _ _ => by rw [hU]; exact hPc) hl.1 rfl (Nat.le_of_ble_eq_true rfl) dX4_fog_31 ⟨Nat.zero_le _, Nat.zero_le _⟩) ?_
      obtain ⟨q0, g0⟩ := Prod.mk.inj (Option.some.inj h)
      obtain ⟨q1, g1⟩ := Prod.mk.inj g0
      obtain ⟨q2, g2⟩ := Prod.mk.inj g1
      obtain ⟨q3, g3⟩ := Prod.mk.inj g2
      obtain ⟨q4, g4⟩ := Prod.mk.inj g3
      obtain ⟨q5, g5⟩ := Prod.mk.inj g4
      obtain ⟨q6, g6⟩ := Prod.mk.inj g5
      obtain ⟨q7, g7⟩ := Prod.mk.inj g6
      obtain ⟨q8, q9⟩ := Prod.mk.inj g7
      subst q0 q1 q2 q3 q4 q5 q6 q7 q8 q9
      exact eMi C0 hP hS rfl rfl dX4_fog_34
    · have h := ifp c_2 h
      refine lv_aload_n hx hb dX4_fog_17 rfl (lv_at hl 0 rfl) ?_
      refine lv_ldc (v := (-1000001)) hx hb hown (hts _ (List.mem_of_getElem? (i := 1) rfl)) dX4_fog_18 ?_
      have hPc := hP.sub (ws' := (wX4 cI cS a0 a1 a2 a3 a4 a5 a6 a7 a8 a9 a10 a11 a12 a13 a14 a15 a16 a17 a18 a19 a20 a21 a22 ppl psp psy psh tpl tsp tsy tsh kpl ksp ksy ksh bs bt sz nm fd ik psc pnc pdy pzz tsc tnc tdy tzz ksc knc kdy kzz ln so be en va)) [0, 1, 2, 3, 4, 5, 6, 7, 8, 9, 10, 11, 12, 13, 14, 15, 16, 17, 18, 19, 20, 21, 22] rfl
      refine kMi (wf' := (wX4 cI cS a0 a1 a2 a3 a4 a5 a6 a7 a8 a9 a10 a11 a12 a13 a14 a15 a16 a17 a18 a19 a20 a21 a22 ppl psp psy psh tpl tsp tsy tsh kpl ksp ksy ksh bs bt sz nm (fX4_finding_o1 fd (-1000001)) ik psc pnc pdy pzz tsc tnc tdy tzz ksc knc kdy kzz ln so be en va)) [0, 1, 2, 3, 4, 5, 6, 7, 8, 9, 10, 11, 12, 13, 14, 15, 16, 17, 18, 19, 20, 21, 22] [some 0, some 1, some 2, some 3, some 4, some 5, some 6, some 7, some 8, some 9, some 10, some 11, some 12, some 13, some 14, some 15, some 16, some 17, some 18, some 19, some 20, some 21, some 22] (rV C0 (tX4_finding l D cI cS a0 a1 a2 a3 a4 a5 a6 a7 a8 a9 a10 a11 a12 a13 a14 a15 a16 a17 a18 a19 a20 a21 a22 ppl psp psy psh tpl tsp tsy tsh kpl ksp ksy ksh bs bt sz nm fd ik psc pnc pdy pzz tsc tnc tdy tzz ksc knc kdy kzz ln so be en va (-1000001) (-1000001) (fX4_finding_o1 fd (-1000001)) (eeX4_finding ..) (((hD (wX4 cI cS a0 a1 a2 a3 a4 a5 a6 a7 a8 a9 a10 a11 a12 a13 a14 a15 a16 a17 a18 a19 a20 a21 a22 ppl psp psy psh tpl tsp tsy tsh kpl ksp ksy ksh bs bt sz nm fd ik psc pnc pdy pzz tsc tnc tdy tzz ksc knc kdy kzz ln so be en va) rfl).sub [0, 1, 2, 3, 4, 5, 6, 7, 8, 9, 10, 11, 12, 13, 14, 15, 16, 17, 18, 19, 20, 21, 22] (by decide) rfl).weaken (fun _ _ _ _ => trivial))) RX4 gX4_fog_X4_finding rfl ⟨rfl, rfl⟩ pdX4_finding rfl ⟨Nat.le_of_ble_eq_true rfl, Nat.le_of_ble_eq_true rfl⟩ (fun _ _ _ _ q => q) (va_recv hE.1 hPc (ci := 3) (q0 := 0) rfl rfl) (fun U hU _ _ => by rw [hU]; exact hPc) hl.1 rfl (Nat.le_of_ble_eq_true rfl) dX4_fog_20 ⟨Nat.zero_le _, Nat.zero_le _⟩) hP (hD _ rfl) hS rfl rfl rfl (fun H locs hP hS => ?_)
      obtain ⟨q0, g0⟩ := Prod.mk.inj (Option.some.inj h)
      obtain ⟨q1, g1⟩ := Prod.mk.inj g0
      obtain ⟨q2, g2⟩ := Prod.mk.inj g1
      obtain ⟨q3, g3⟩ := Prod.mk.inj g2
      obtain ⟨q4, g4⟩ := Prod.mk.inj g3
      obtain ⟨q5, g5⟩ := Prod.mk.inj g4
      obtain ⟨q6, g6⟩ := Prod.mk.inj g5
      obtain ⟨q7, g7⟩ := Prod.mk.inj g6
      obtain ⟨q8, q9⟩ := Prod.mk.inj g7
      subst q0 q1 q2 q3 q4 q5 q6 q7 q8 q9
      exact eMi C0 hP hS rfl rfl dX4_fog_23
def fX4_lands_31 (F : Nat) (tpl : Nat → Int32) (tsp : Nat → Int32) (tsc : Int32) (tnc : Int32) (tzz : Int32) (v1 : Int32) : Nat → Int32 → (Nat → Int32) → (Nat → Int32) → (Nat → Int32) → Int32 → Option (Int32 × (Nat → Int32) × (Nat → Int32) × (Nat → Int32) × (Nat → Int32) × (Nat → Int32) × Int32 × Int32 × Int32 × Int32)
  | 0, _, _, _, _, _ => none
  | n + 1, v2, tsy, tsh, fd, tdy => (if 200 < v2 then some ((-1000004), tpl, tsp, tsy, tsh, fX4_finding_o1 fd (-1000004), tsc, tnc, tdy, tzz) else (if (fX0_isInPort tsh v1) = 0 then Option.bind (fX0_passDays F tpl tsy tsh tsc tnc tdy 1 (1 <<< (v1 &&& 31))) (fun z_4 => fX4_lands_31 F tpl tsp tsc tnc tzz v1 n (v2 + 1) z_4.1 z_4.2.1 fd z_4.2.2) else some (v2, tpl, tsp, tsy, tsh, fd, tsc, tnc, tdy, tzz)))
def fX4_lands (F : Nat) (ppl : Nat → Int32) (psp : Nat → Int32) (psy : Nat → Int32) (psh : Nat → Int32) (tpl : Nat → Int32) (tsp : Nat → Int32) (tsy : Nat → Int32) (tsh : Nat → Int32) (fd : Nat → Int32) (psc : Int32) (pnc : Int32) (pdy : Int32) (pzz : Int32) (tsc : Int32) (tnc : Int32) (tdy : Int32) (tzz : Int32) (v1 : Int32) : Option (Int32 × (Nat → Int32) × (Nat → Int32) × (Nat → Int32) × (Nat → Int32) × (Nat → Int32) × Int32 × Int32 × Int32 × Int32) := (if (fX0_hasShip pnc v1) = 0 then some ((-1000001), tpl, tsp, tsy, tsh, fX4_finding_o1 fd (-1000001), tsc, tnc, tdy, tzz) else fX4_lands_31 F (fX0_become_o0 tpl tsp tsy tsh ppl psp psy psh tsc tnc tdy tzz psc pnc pdy pzz) (fX0_become_o1 tpl tsp tsy tsh ppl psp psy psh tsc tnc tdy tzz psc pnc pdy pzz) (fX0_become_o4 tpl tsp tsy tsh ppl psp psy psh tsc tnc tdy tzz psc pnc pdy pzz) (fX0_become_o5 tpl tsp tsy tsh ppl psp psy psh tsc tnc tdy tzz psc pnc pdy pzz) (fX0_become_o7 tpl tsp tsy tsh ppl psp psy psh tsc tnc tdy tzz psc pnc pdy pzz) v1 F 0 (fX0_become_o2 tpl tsp tsy tsh ppl psp psy psh tsc tnc tdy tzz psc pnc pdy pzz) (fX0_become_o3 tpl tsp tsy tsh ppl psp psy psh tsc tnc tdy tzz psc pnc pdy pzz) fd (fX0_become_o6 tpl tsp tsy tsh ppl psp psy psh tsc tnc tdy tzz psc pnc pdy pzz))
abbrev rmX4_lands : Room := { frames := 5, cells := 0, slots := 0, locals := 120 }
theorem pdX4_lands : (yX4_lands.cls = RX4 ∧ yX4_lands.cls ≠ "java/lang/invoke/MethodHandle" ∧ yX4_lands.cls ≠ "java/lang/invoke/VarHandle" ∧ (parseMethodDescriptor yX4_lands.desc).map (fun d => d.parameters.length) = some 1) := by decide +kernel
set_option maxHeartbeats 4000000 in
set_option maxRecDepth 100000 in
theorem lX4_lands_31 {p : Program} {l : Launch} {e : Env} {s : State} {m : MethodId} {av : Array Value} {below : List Frame} {meth : Method} {c : Code} {D : va_G} {cI cS : ClassId} {a0 a1 a2 a3 a4 a5 a6 a7 a8 a9 a10 a11 a12 a13 a14 a15 a16 a17 a18 a19 a20 a21 a22 : Nat} {W0 : va_W} (C0 : CX p s m av meth c RX4 cX4_lands 3 (some .int) wsX4_lands D cI cS) (F : Nat) (ppl : Nat → Int32) (psp : Nat → Int32) (psy : Nat → Int32) (psh : Nat → Int32) (tpl : Nat → Int32) (tsp : Nat → Int32) (kpl : Nat → Int32) (ksp : Nat → Int32) (ksy : Nat → Int32) (ksh : Nat → Int32) (bs : Nat → Int32) (bt : Nat → Int32) (sz : Nat → Int32) (nm : Nat → Int32) (ik : Int32) (psc : Int32) (pnc : Int32) (pdy : Int32) (pzz : Int32) (tsc : Int32) (tnc : Int32) (tzz : Int32) (ksc : Int32) (knc : Int32) (kdy : Int32) (kzz : Int32) (ln : Int32) (so : Int32) (be : Int32) (en : Int32) (va : Int32) (v1 : Int32) (z0 : Int32) (z1 : Nat → Int32) (z2 : Nat → Int32) (z3 : Nat → Int32) (z4 : Nat → Int32) (z5 : Nat → Int32) (z6 : Int32) (z7 : Int32) (z8 : Int32) (z9 : Int32) (hD : ∀ W : va_W, W.map Prod.fst = [a0, a1, a2, a3, a4, a5, a6, a7, a8, a9, a10, a11, a12, a13, a14, a15, a16, a17, a18, a19, a20, a21, a22] → va_D (wA W0) W) : ∀ (n : Nat) (v2 : Int32) (tsy : Nat → Int32) (tsh : Nat → Int32) (fd : Nat → Int32) (tdy : Int32) (H : Heap) (locs : List Loc), va_P D vwCl (wX4 cI cS a0 a1 a2 a3 a4 a5 a6 a7 a8 a9 a10 a11 a12 a13 a14 a15 a16 a17 a18 a19 a20 a21 a22 ppl psp psy psh tpl tsp tsy tsh kpl ksp ksy ksh bs bt sz nm fd ik psc pnc pdy pzz tsc tnc tdy tzz ksc knc kdy kzz ln so be en va) H → va_S (wA W0) s.heap H locs → ∀ (ls : Array Slot), lv_has ls 3 [(0, .ref a0), (1, .int v1), (2, .int v2)] → fX4_lands_31 F tpl tsp tsc tnc tzz v1 n v2 tsy tsh fd tdy = some (z0, z1, z2, z3, z4, z5, z6, z7, z8, z9) → W p l e rmX4_lands s m av below meth c H locs 0 0 (MQ below (qI D W0 (wX4 cI cS a0 a1 a2 a3 a4 a5 a6 a7 a8 a9 a10 a11 a12 a13 a14 a15 a16 a17 a18 a19 a20 a21 a22 ppl psp psy psh z1 z2 z3 z4 kpl ksp ksy ksh bs bt sz nm z5 ik psc pnc pdy pzz z6 z7 z8 z9 ksc knc kdy kzz ln so be en va) z0) av s 0 0 (wA W0)) (F0 m 31 ls []) := by
  obtain ⟨hx, hb, hr, hml, hown, hts, hlk, hE⟩ := id C0
  have hinX4 : ∀ w ∈ u_ws RX4 TX4 7, w ∈ wsX4_lands := by decide +kernel
  intro n
  induction n with
  | zero =>
    intro v2 tsy tsh fd tdy H locs hP hS ls hl h
    cases (show none = some (z0, z1, z2, z3, z4, z5, z6, z7, z8, z9) from h)
  | succ n ih =>
    intro v2 tsy tsh fd tdy H locs hP hS ls hl h
    rw [fX4_lands_31] at h
    refine lv_iload_n hx hb dX4_lands_31 rfl (lv_at hl 2 rfl) ?_
    refine lv_sipush (v := 200) hx hb dX4_lands_32 (by decide) ?_
    refine lv_icmp_gt (tgt := 68) hx hb dX4_lands_35 (by decide) (fun c_2 => ?_) (fun c_2 => ?_)
    · have h := ifp c_2 h
      refine lv_aload_n hx hb dX4_lands_68 rfl (lv_at hl 0 rfl) ?_
      refine lv_ldc (v := (-1000004)) hx hb hown (hts _ (List.mem_of_getElem? (i := 4) rfl)) dX4_lands_69 ?_
      have hPc := hP.sub (ws' := (wX4 cI cS a0 a1 a2 a3 a4 a5 a6 a7 a8 a9 a10 a11 a12 a13 a14 a15 a16 a17 a18 a19 a20 a21 a22 ppl psp psy psh tpl tsp tsy tsh kpl ksp ksy ksh bs bt sz nm fd ik psc pnc pdy pzz tsc tnc tdy tzz ksc knc kdy kzz ln so be en va)) [0, 1, 2, 3, 4, 5, 6, 7, 8, 9, 10, 11, 12, 13, 14, 15, 16, 17, 18, 19, 20, 21, 22] rfl
      refine kMi (wf' := (wX4 cI cS a0 a1 a2 a3 a4 a5 a6 a7 a8 a9 a10 a11 a12 a13 a14 a15 a16 a17 a18 a19 a20 a21 a22 ppl psp psy psh tpl tsp tsy tsh kpl ksp ksy ksh bs bt sz nm (fX4_finding_o1 fd (-1000004)) ik psc pnc pdy pzz tsc tnc tdy tzz ksc knc kdy kzz ln so be en va)) [0, 1, 2, 3, 4, 5, 6, 7, 8, 9, 10, 11, 12, 13, 14, 15, 16, 17, 18, 19, 20, 21, 22] [some 0, some 1, some 2, some 3, some 4, some 5, some 6, some 7, some 8, some 9, some 10, some 11, some 12, some 13, some 14, some 15, some 16, some 17, some 18, some 19, some 20, some 21, some 22] (rV C0 (tX4_finding l D cI cS a0 a1 a2 a3 a4 a5 a6 a7 a8 a9 a10 a11 a12 a13 a14 a15 a16 a17 a18 a19 a20 a21 a22 ppl psp psy psh tpl tsp tsy tsh kpl ksp ksy ksh bs bt sz nm fd ik psc pnc pdy pzz tsc tnc tdy tzz ksc knc kdy kzz ln so be en va (-1000004) (-1000004) (fX4_finding_o1 fd (-1000004)) (eeX4_finding ..) (((hD (wX4 cI cS a0 a1 a2 a3 a4 a5 a6 a7 a8 a9 a10 a11 a12 a13 a14 a15 a16 a17 a18 a19 a20 a21 a22 ppl psp psy psh tpl tsp tsy tsh kpl ksp ksy ksh bs bt sz nm fd ik psc pnc pdy pzz tsc tnc tdy tzz ksc knc kdy kzz ln so be en va) rfl).sub [0, 1, 2, 3, 4, 5, 6, 7, 8, 9, 10, 11, 12, 13, 14, 15, 16, 17, 18, 19, 20, 21, 22] (by decide) rfl).weaken (fun _ _ _ _ => trivial))) RX4 gX4_lands_X4_finding rfl ⟨rfl, rfl⟩ pdX4_finding rfl ⟨Nat.le_of_ble_eq_true rfl, Nat.le_of_ble_eq_true rfl⟩ (fun _ _ _ _ q => q) (va_recv hE.1 hPc (ci := 3) (q0 := 0) rfl rfl) (fun U hU _ _ => by rw [hU]; exact hPc) hl.1 rfl (Nat.le_of_ble_eq_true rfl) dX4_lands_71 ⟨Nat.zero_le _, Nat.zero_le _⟩) hP (hD _ rfl) hS rfl rfl rfl (fun H locs hP hS => ?_)
      obtain ⟨q0, g0⟩ := Prod.mk.inj (Option.some.inj h)
      obtain ⟨q1, g1⟩ := Prod.mk.inj g0
      obtain ⟨q2, g2⟩ := Prod.mk.inj g1
      obtain ⟨q3, g3⟩ := Prod.mk.inj g2
      obtain ⟨q4, g4⟩ := Prod.mk.inj g3
      obtain ⟨q5, g5⟩ := Prod.mk.inj g4
      obtain ⟨q6, g6⟩ := Prod.mk.inj g5
      obtain ⟨q7, g7⟩ := Prod.mk.inj g6
      obtain ⟨q8, q9⟩ := Prod.mk.inj g7
      subst q0 q1 q2 q3 q4 q5 q6 q7 q8 q9
      exact eMi C0 hP hS rfl rfl dX4_lands_74
    · have h := ifn c_2 h
      refine lv_aload_n hx hb dX4_lands_38 rfl (lv_at hl 0 rfl) ?_
      refine va_get (D := D) (ci := 3) (v := .ref a6) (C := RX4) (T := TX4) (N := 7) hx hb hts hinX4 hown hE.1 hP 0 rfl rfl 1 (by decide) (hts _ (List.mem_of_getElem? (i := 3) rfl)) (fun _ h9 => h9) rfl dX4_lands_39 ?_
      refine lv_iload_n hx hb dX4_lands_42 rfl (lv_at hl 1 rfl) ?_
      have hPc := hP.sub (ws' := (wX0 cI cS a6 a7 a8 a9 a10 tpl tsp tsy tsh tsc tnc tdy tzz)) [6, 7, 8, 9, 10] rfl
      refine kRi (rV C0 (tX0_isInPort l D cI cS a6 a7 a8 a9 a10 tpl tsp tsy tsh tsc tnc tdy tzz v1 (fX0_isInPort tsh v1) rfl) RX0 gX4_lands_X0_isInPort rfl ⟨rfl, rfl⟩ pdX0_isInPort rfl ⟨Nat.le_of_ble_eq_true rfl, Nat.le_of_ble_eq_true rfl⟩ (fun _ _ _ _ q => q) (va_recv hE.1 hPc (ci := 0) (q0 := 0) rfl rfl) (fun U hU _ _ => by rw [hU]; exact hPc) hl.1 rfl (Nat.le_of_ble_eq_true rfl) dX4_lands_43 ⟨Nat.zero_le _, Nat.zero_le _⟩) ?_
      refine lv_if_eq (tgt := 51) hx hb dX4_lands_46 (by decide) (fun c_3 => ?_) (fun c_3 => ?_)
      · have h := ifp c_3 h
        refine lv_aload_n hx hb dX4_lands_51 rfl (lv_at hl 0 rfl) ?_
        refine va_get (D := D) (ci := 3) (v := .ref a6) (C := RX4) (T := TX4) (N := 7) hx hb hts hinX4 hown hE.1 hP 0 rfl rfl 1 (by decide) (hts _ (List.mem_of_getElem? (i := 3) rfl)) (fun _ h9 => h9) rfl dX4_lands_52 ?_
        refine lv_iconst (v := 1) hx hb dX4_lands_55 (by decide) ?_
        refine lv_iconst (v := 1) hx hb dX4_lands_56 (by decide) ?_
        refine lv_iload_n hx hb dX4_lands_57 rfl (lv_at hl 1 rfl) ?_
        refine lv_ishl hx hb dX4_lands_58 ?_
        obtain ⟨z_4, e_5, h⟩ := bds h
        have hPc := hP.sub (ws' := (wX0 cI cS a6 a7 a8 a9 a10 tpl tsp tsy tsh tsc tnc tdy tzz)) [6, 7, 8, 9, 10] rfl
        refine kMv (wf' := (wX4 cI cS a0 a1 a2 a3 a4 a5 a6 a7 a8 a9 a10 a11 a12 a13 a14 a15 a16 a17 a18 a19 a20 a21 a22 ppl psp psy psh tpl tsp z_4.1 z_4.2.1 kpl ksp ksy ksh bs bt sz nm fd ik psc pnc pdy pzz tsc tnc z_4.2.2 tzz ksc knc kdy kzz ln so be en va)) [6, 7, 8, 9, 10] [none, none, none, none, none, none, some 0, some 1, some 2, some 3, some 4, none, none, none, none, none, none, none, none, none, none, none, none] (rV C0 (tX0_passDays l D cI cS F a6 a7 a8 a9 a10 tpl tsp tsy tsh tsc tnc tdy tzz 1 (1 <<< (v1 &&& 31)) z_4.1 z_4.2.1 z_4.2.2 e_5 (((hD (wX4 cI cS a0 a1 a2 a3 a4 a5 a6 a7 a8 a9 a10 a11 a12 a13 a14 a15 a16 a17 a18 a19 a20 a21 a22 ppl psp psy psh tpl tsp tsy tsh kpl ksp ksy ksh bs bt sz nm fd ik psc pnc pdy pzz tsc tnc tdy tzz ksc knc kdy kzz ln so be en va) rfl).sub [6, 7, 8, 9, 10] (by decide) rfl).weaken (fun _ _ _ _ => trivial))) RX0 gX4_lands_X0_passDays rfl ⟨rfl, rfl⟩ pdX0_passDays rfl ⟨Nat.le_of_ble_eq_true rfl, Nat.le_of_ble_eq_true rfl⟩ (fun _ _ _ _ q => q) (va_recv hE.1 hPc (ci := 0) (q0 := 0) rfl rfl) (fun U hU _ _ => by rw [hU]; exact hPc) hl.1 rfl (Nat.le_of_ble_eq_true rfl) dX4_lands_59 ⟨Nat.zero_le _, Nat.zero_le _⟩) hP (hD _ rfl) hS rfl rfl rfl (fun H locs hP hS => ?_)
        refine lv_iinc (v := v2 + 1) (lv' := [(2, .int (v2 + 1)), (0, .ref a0), (1, .int v1)]) hx hb dX4_lands_62 hl (k := 2) rfl rfl (by decide) rfl (fun ls hl => ?_)
        refine lv_goto (tgt := 31) hx hb dX4_lands_65 (by decide) ?_
        exact ih (v2 + 1) z_4.1 z_4.2.1 fd z_4.2.2 _ _ hP hS _ (lv_sub hl [1, 2, 0] rfl) h
      · have h := ifn c_3 h
        refine lv_iload_n hx hb dX4_lands_49 rfl (lv_at hl 2 rfl) ?_
        obtain ⟨q0, g0⟩ := Prod.mk.inj (Option.some.inj h)
        obtain ⟨q1, g1⟩ := Prod.mk.inj g0
        obtain ⟨q2, g2⟩ := Prod.mk.inj g1
        obtain ⟨q3, g3⟩ := Prod.mk.inj g2
        obtain ⟨q4, g4⟩ := Prod.mk.inj g3
        obtain ⟨q5, g5⟩ := Prod.mk.inj g4
        obtain ⟨q6, g6⟩ := Prod.mk.inj g5
        obtain ⟨q7, g7⟩ := Prod.mk.inj g6
        obtain ⟨q8, q9⟩ := Prod.mk.inj g7
        subst q0 q1 q2 q3 q4 q5 q6 q7 q8 q9
        exact eMi C0 hP hS rfl rfl dX4_lands_50
set_option maxHeartbeats 4000000 in
set_option maxRecDepth 100000 in
theorem tX4_lands (l : Launch) (D : va_G) (cI cS : ClassId) (F : Nat) (a0 a1 a2 a3 a4 a5 a6 a7 a8 a9 a10 a11 a12 a13 a14 a15 a16 a17 a18 a19 a20 a21 a22 : Nat) (ppl : Nat → Int32) (psp : Nat → Int32) (psy : Nat → Int32) (psh : Nat → Int32) (tpl : Nat → Int32) (tsp : Nat → Int32) (tsy : Nat → Int32) (tsh : Nat → Int32) (kpl : Nat → Int32) (ksp : Nat → Int32) (ksy : Nat → Int32) (ksh : Nat → Int32) (bs : Nat → Int32) (bt : Nat → Int32) (sz : Nat → Int32) (nm : Nat → Int32) (fd : Nat → Int32) (ik : Int32) (psc : Int32) (pnc : Int32) (pdy : Int32) (pzz : Int32) (tsc : Int32) (tnc : Int32) (tdy : Int32) (tzz : Int32) (ksc : Int32) (knc : Int32) (kdy : Int32) (kzz : Int32) (ln : Int32) (so : Int32) (be : Int32) (en : Int32) (va : Int32) (v1 : Int32) (z0 : Int32) (z1 : Nat → Int32) (z2 : Nat → Int32) (z3 : Nat → Int32) (z4 : Nat → Int32) (z5 : Nat → Int32) (z6 : Int32) (z7 : Int32) (z8 : Int32) (z9 : Int32) (h : fX4_lands F ppl psp psy psh tpl tsp tsy tsh fd psc pnc pdy pzz tsc tnc tdy tzz v1 = some (z0, z1, z2, z3, z4, z5, z6, z7, z8, z9)) (hD0 : va_D (fun _ => True) (wX4 cI cS a0 a1 a2 a3 a4 a5 a6 a7 a8 a9 a10 a11 a12 a13 a14 a15 a16 a17 a18 a19 a20 a21 a22 ppl psp psy psh tpl tsp tsy tsh kpl ksp ksy ksh bs bt sz nm fd ik psc pnc pdy pzz tsc tnc tdy tzz ksc knc kdy kzz ln so be en va)) : Met l yX4_lands wsX4_lands rmX4_lands (PZ D cI cS [.ref a0, .int v1] (fun U => va_P D vwCl (wX4 cI cS a0 a1 a2 a3 a4 a5 a6 a7 a8 a9 a10 a11 a12 a13 a14 a15 a16 a17 a18 a19 a20 a21 a22 ppl psp psy psh tpl tsp tsy tsh kpl ksp ksy ksh bs bt sz nm fd ik psc pnc pdy pzz tsc tnc tdy tzz ksc knc kdy kzz ln so be en va) U.heap)) (qI D (wX4 cI cS a0 a1 a2 a3 a4 a5 a6 a7 a8 a9 a10 a11 a12 a13 a14 a15 a16 a17 a18 a19 a20 a21 a22 ppl psp psy psh tpl tsp tsy tsh kpl ksp ksy ksh bs bt sz nm fd ik psc pnc pdy pzz tsc tnc tdy tzz ksc knc kdy kzz ln so be en va) (wX4 cI cS a0 a1 a2 a3 a4 a5 a6 a7 a8 a9 a10 a11 a12 a13 a14 a15 a16 a17 a18 a19 a20 a21 a22 ppl psp psy psh z1 z2 z3 z4 kpl ksp ksy ksh bs bt sz nm z5 ik psc pnc pdy pzz z6 z7 z8 z9 ksc knc kdy kzz ln so be en va) z0) 0 0 (wA (wX4 cI cS a0 a1 a2 a3 a4 a5 a6 a7 a8 a9 a10 a11 a12 a13 a14 a15 a16 a17 a18 a19 a20 a21 a22 ppl psp psy psh tpl tsp tsy tsh kpl ksp ksy ksh bs bt sz nm fd ik psc pnc pdy pzz tsc tnc tdy tzz ksc knc kdy kzz ln so be en va)) := by
  refine Met.mk RX4 (by decide) rfl rfl (Nat.le_of_ble_eq_true rfl) ?_
  intro p e s m below meth c ls C0 hP hl
  have hl : lv_has ls 3 [(0, .ref a0), (1, .int v1)] := hl
  obtain ⟨hx, hb, hr, hml, hown, hts, hlk, hE⟩ := id C0
  have hinX4 : ∀ w ∈ u_ws RX4 TX4 7, w ∈ wsX4_lands := by decide +kernel
  have hD : ∀ W : va_W, W.map Prod.fst = [a0, a1, a2, a3, a4, a5, a6, a7, a8, a9, a10, a11, a12, a13, a14, a15, a16, a17, a18, a19, a20, a21, a22] → va_D (wA (wX4 cI cS a0 a1 a2 a3 a4 a5 a6 a7 a8 a9 a10 a11 a12 a13 a14 a15 a16 a17 a18 a19 a20 a21 a22 ppl psp psy psh tpl tsp tsy tsh kpl ksp ksy ksh bs bt sz nm fd ik psc pnc pdy pzz tsc tnc tdy tzz ksc knc kdy kzz ln so be en va)) W := fun W hW => hD0.own.re hW
  have hS : va_S (wA (wX4 cI cS a0 a1 a2 a3 a4 a5 a6 a7 a8 a9 a10 a11 a12 a13 a14 a15 a16 a17 a18 a19 a20 a21 a22 ppl psp psy psh tpl tsp tsy tsh kpl ksp ksy ksh bs bt sz nm fd ik psc pnc pdy pzz tsc tnc tdy tzz ksc knc kdy kzz ln so be en va)) s.heap s.heap [] := va_S.rf
  have hP : va_P D vwCl (wX4 cI cS a0 a1 a2 a3 a4 a5 a6 a7 a8 a9 a10 a11 a12 a13 a14 a15 a16 a17 a18 a19 a20 a21 a22 ppl psp psy psh tpl tsp tsy tsh kpl ksp ksy ksh bs bt sz nm fd ik psc pnc pdy pzz tsc tnc tdy tzz ksc knc kdy kzz ln so be en va) s.heap := hP
  rw [fX4_lands] at h
  refine lv_aload_n hx hb dX4_lands_0 rfl (lv_at hl 0 rfl) ?_
  refine va_get (D := D) (ci := 3) (v := .ref a1) (C := RX4) (T := TX4) (N := 7) hx hb hts hinX4 hown hE.1 hP 0 rfl rfl 0 (by decide) (hts _ (List.mem_of_getElem? (i := 1) rfl)) (fun _ h9 => h9) rfl dX4_lands_1 ?_
  refine lv_iload_n hx hb dX4_lands_4 rfl (lv_at hl 1 rfl) ?_
  have hPc := hP.sub (ws' := (wX0 cI cS a1 a2 a3 a4 a5 ppl psp psy psh psc pnc pdy pzz)) [1, 2, 3, 4, 5] rfl
  refine kRi (rV C0 (tX0_hasShip l D cI cS a1 a2 a3 a4 a5 ppl psp psy psh psc pnc pdy pzz v1 (fX0_hasShip pnc v1) rfl) RX0 gX4_lands_X0_hasShip rfl ⟨rfl, rfl⟩ pdX0_hasShip rfl ⟨Nat.le_of_ble_eq_true rfl, Nat.le_of_ble_eq_true rfl⟩ (fun _ _ _ _ q => q) (va_recv hE.1 hPc (ci := 0) (q0 := 0) rfl rfl) (fun U hU _ _ => by rw [hU]; exact hPc) hl.1 rfl (Nat.le_of_ble_eq_true rfl) dX4_lands_5 ⟨Nat.zero_le _, Nat.zero_le _⟩) ?_
  refine lv_if_ne (tgt := 18) hx hb dX4_lands_8 (by decide) (fun c_1 => ?_) (fun c_1 => ?_)
  · have h := ifn c_1 h
    refine lv_aload_n hx hb dX4_lands_18 rfl (lv_at hl 0 rfl) ?_
    refine va_get (D := D) (ci := 3) (v := .ref a6) (C := RX4) (T := TX4) (N := 7) hx hb hts hinX4 hown hE.1 hP 0 rfl rfl 1 (by decide) (hts _ (List.mem_of_getElem? (i := 3) rfl)) (fun _ h9 => h9) rfl dX4_lands_19 ?_
    refine lv_aload_n hx hb dX4_lands_22 rfl (lv_at hl 0 rfl) ?_
    refine va_get (D := D) (ci := 3) (v := .ref a1) (C := RX4) (T := TX4) (N := 7) hx hb hts hinX4 hown hE.1 hP 0 rfl rfl 0 (by decide) (hts _ (List.mem_of_getElem? (i := 1) rfl)) (fun _ h9 => h9) rfl dX4_lands_23 ?_
    have hPc := hP.sub (ws' := (wE2 cI cS a6 a7 a8 a9 a10 a1 a2 a3 a4 a5 tpl tsp tsy tsh ppl psp psy psh tsc tnc tdy tzz psc pnc pdy pzz)) [6, 7, 8, 9, 10, 1, 2, 3, 4, 5] rfl
    refine kMv (wf' := (wX4 cI cS a0 a1 a2 a3 a4 a5 a6 a7 a8 a9 a10 a11 a12 a13 a14 a15 a16 a17 a18 a19 a20 a21 a22 ppl psp psy psh (fX0_become_o0 tpl tsp tsy tsh ppl psp psy psh tsc tnc tdy tzz psc pnc pdy pzz) (fX0_become_o1 tpl tsp tsy tsh ppl psp psy psh tsc tnc tdy tzz psc pnc pdy pzz) (fX0_become_o2 tpl tsp tsy tsh ppl psp psy psh tsc tnc tdy tzz psc pnc pdy pzz) (fX0_become_o3 tpl tsp tsy tsh ppl psp psy psh tsc tnc tdy tzz psc pnc pdy pzz) kpl ksp ksy ksh bs bt sz nm fd ik psc pnc pdy pzz (fX0_become_o4 tpl tsp tsy tsh ppl psp psy psh tsc tnc tdy tzz psc pnc pdy pzz) (fX0_become_o5 tpl tsp tsy tsh ppl psp psy psh tsc tnc tdy tzz psc pnc pdy pzz) (fX0_become_o6 tpl tsp tsy tsh ppl psp psy psh tsc tnc tdy tzz psc pnc pdy pzz) (fX0_become_o7 tpl tsp tsy tsh ppl psp psy psh tsc tnc tdy tzz psc pnc pdy pzz) ksc knc kdy kzz ln so be en va)) [6, 7, 8, 9, 10, 1, 2, 3, 4, 5] [none, some 5, some 6, some 7, some 8, some 9, some 0, some 1, some 2, some 3, some 4, none, none, none, none, none, none, none, none, none, none, none, none] (rV C0 (tX0_become l D cI cS a6 a7 a8 a9 a10 a1 a2 a3 a4 a5 tpl tsp tsy tsh ppl psp psy psh tsc tnc tdy tzz psc pnc pdy pzz  (fX0_become_o0 tpl tsp tsy tsh ppl psp psy psh tsc tnc tdy tzz psc pnc pdy pzz) (fX0_become_o1 tpl tsp tsy tsh ppl psp psy psh tsc tnc tdy tzz psc pnc pdy pzz) (fX0_become_o2 tpl tsp tsy tsh ppl psp psy psh tsc tnc tdy tzz psc pnc pdy pzz) (fX0_become_o3 tpl tsp tsy tsh ppl psp psy psh tsc tnc tdy tzz psc pnc pdy pzz) (fX0_become_o4 tpl tsp tsy tsh ppl psp psy psh tsc tnc tdy tzz psc pnc pdy pzz) (fX0_become_o5 tpl tsp tsy tsh ppl psp psy psh tsc tnc tdy tzz psc pnc pdy pzz) (fX0_become_o6 tpl tsp tsy tsh ppl psp psy psh tsc tnc tdy tzz psc pnc pdy pzz) (fX0_become_o7 tpl tsp tsy tsh ppl psp psy psh tsc tnc tdy tzz psc pnc pdy pzz) (eeX0_become ..) (((hD (wX4 cI cS a0 a1 a2 a3 a4 a5 a6 a7 a8 a9 a10 a11 a12 a13 a14 a15 a16 a17 a18 a19 a20 a21 a22 ppl psp psy psh tpl tsp tsy tsh kpl ksp ksy ksh bs bt sz nm fd ik psc pnc pdy pzz tsc tnc tdy tzz ksc knc kdy kzz ln so be en va) rfl).sub [6, 7, 8, 9, 10, 1, 2, 3, 4, 5] (by decide) rfl).weaken (fun _ _ _ _ => trivial))) RX0 gX4_lands_X0_become rfl ⟨rfl, rfl⟩ pdX0_become rfl ⟨Nat.le_of_ble_eq_true rfl, Nat.le_of_ble_eq_true rfl⟩ (fun _ _ _ _ q => q) (va_recv hE.1 hPc (ci := 0) (q0 := 0) rfl rfl) (fun U hU _ _ => by rw [hU]; exact hPc) hl.1 rfl (Nat.le_of_ble_eq_true rfl) dX4_lands_26 ⟨Nat.zero_le _, Nat.zero_le _⟩) hP (hD _ rfl) hS rfl rfl rfl (fun H locs hP hS => ?_)
    refine lv_iconst (v := 0) hx hb dX4_lands_29 (by decide) ?_
    refine lv_istore_n (lv' := [(2, .int 0), (0, .ref a0), (1, .int v1)]) hx hb dX4_lands_30 rfl hl (by decide) rfl (fun ls hl => ?_)
    exact lX4_lands_31 (l := l) (e := e) (below := below) C0 F ppl psp psy psh (fX0_become_o0 tpl tsp tsy tsh ppl psp psy psh tsc tnc tdy tzz psc pnc pdy pzz) (fX0_become_o1 tpl tsp tsy tsh ppl psp psy psh tsc tnc tdy tzz psc pnc pdy pzz) kpl ksp ksy ksh bs bt sz nm ik psc pnc pdy pzz (fX0_become_o4 tpl tsp tsy tsh ppl psp psy psh tsc tnc tdy tzz psc pnc pdy pzz) (fX0_become_o5 tpl tsp tsy tsh ppl psp psy psh tsc tnc tdy tzz psc pnc pdy pzz) (fX0_become_o7 tpl tsp tsy tsh ppl psp psy psh tsc tnc tdy tzz psc pnc pdy pzz) ksc knc kdy kzz ln so be en va v1 z0 z1 z2 z3 z4 z5 z6 z7 z8 z9 hD F 0 (fX0_become_o2 tpl tsp tsy tsh ppl psp psy psh tsc tnc tdy tzz psc pnc pdy pzz) (fX0_become_o3 tpl tsp tsy tsh ppl psp psy psh tsc tnc tdy tzz psc pnc pdy pzz) fd (fX0_become_o6 tpl tsp tsy tsh ppl psp psy psh tsc tnc tdy tzz psc pnc pdy pzz) _ _ hP hS _ (lv_sub hl [1, 2, 0] rfl) h
  · have h := ifp c_1 h
    refine lv_aload_n hx hb dX4_lands_11 rfl (lv_at hl 0 rfl) ?_
    refine lv_ldc (v := (-1000001)) hx hb hown (hts _ (List.mem_of_getElem? (i := 2) rfl)) dX4_lands_12 ?_
    have hPc := hP.sub (ws' := (wX4 cI cS a0 a1 a2 a3 a4 a5 a6 a7 a8 a9 a10 a11 a12 a13 a14 a15 a16 a17 a18 a19 a20 a21 a22 ppl psp psy psh tpl tsp tsy tsh kpl ksp ksy ksh bs bt sz nm fd ik psc pnc pdy pzz tsc tnc tdy tzz ksc knc kdy kzz ln so be en va)) [0, 1, 2, 3, 4, 5, 6, 7, 8, 9, 10, 11, 12, 13, 14, 15, 16, 17, 18, 19, 20, 21, 22] rfl
    refine kMi (wf' := (wX4 cI cS a0 a1 a2 a3 a4 a5 a6 a7 a8 a9 a10 a11 a12 a13 a14 a15 a16 a17 a18 a19 a20 a21 a22 ppl psp psy psh tpl tsp tsy tsh kpl ksp ksy ksh bs bt sz nm (fX4_finding_o1 fd (-1000001)) ik psc pnc pdy pzz tsc tnc tdy tzz ksc knc kdy kzz ln so be en va)) [0, 1, 2, 3, 4, 5, 6, 7, 8, 9, 10, 11, 12, 13, 14, 15, 16, 17, 18, 19, 20, 21, 22] [some 0, some 1, some 2, some 3, some 4, some 5, some 6, some 7, some 8, some 9, some 10, some 11, some 12, some 13, some 14, some 15, some 16, some 17, some 18, some 19, some 20, some 21, some 22] (rV C0 (tX4_finding l D cI cS a0 a1 a2 a3 a4 a5 a6 a7 a8 a9 a10 a11 a12 a13 a14 a15 a16 a17 a18 a19 a20 a21 a22 ppl psp psy psh tpl tsp tsy tsh kpl ksp ksy ksh bs bt sz nm fd ik psc pnc pdy pzz tsc tnc tdy tzz ksc knc kdy kzz ln so be en va (-1000001) (-1000001) (fX4_finding_o1 fd (-1000001)) (eeX4_finding ..) (((hD (wX4 cI cS a0 a1 a2 a3 a4 a5 a6 a7 a8 a9 a10 a11 a12 a13 a14 a15 a16 a17 a18 a19 a20 a21 a22 ppl psp psy psh tpl tsp tsy tsh kpl ksp ksy ksh bs bt sz nm fd ik psc pnc pdy pzz tsc tnc tdy tzz ksc knc kdy kzz ln so be en va) rfl).sub [0, 1, 2, 3, 4, 5, 6, 7, 8, 9, 10, 11, 12, 13, 14, 15, 16, 17, 18, 19, 20, 21, 22] (by decide) rfl).weaken (fun _ _ _ _ => trivial))) RX4 gX4_lands_X4_finding rfl ⟨rfl, rfl⟩ pdX4_finding rfl ⟨Nat.le_of_ble_eq_true rfl, Nat.le_of_ble_eq_true rfl⟩ (fun _ _ _ _ q => q) (va_recv hE.1 hPc (ci := 3) (q0 := 0) rfl rfl) (fun U hU _ _ => by rw [hU]; exact hPc) hl.1 rfl (Nat.le_of_ble_eq_true rfl) dX4_lands_14 ⟨Nat.zero_le _, Nat.zero_le _⟩) hP (hD _ rfl) hS rfl rfl rfl (fun H locs hP hS => ?_)
    obtain ⟨q0, g0⟩ := Prod.mk.inj (Option.some.inj h)
    obtain ⟨q1, g1⟩ := Prod.mk.inj g0
    obtain ⟨q2, g2⟩ := Prod.mk.inj g1
    obtain ⟨q3, g3⟩ := Prod.mk.inj g2
    obtain ⟨q4, g4⟩ := Prod.mk.inj g3
    obtain ⟨q5, g5⟩ := Prod.mk.inj g4
    obtain ⟨q6, g6⟩ := Prod.mk.inj g5
    obtain ⟨q7, g7⟩ := Prod.mk.inj g6
    obtain ⟨q8, q9⟩ := Prod.mk.inj g7
    subst q0 q1 q2 q3 q4 q5 q6 q7 q8 q9
    exact eMi C0 hP hS rfl rfl dX4_lands_17
def fX4_closes_38 (F : Nat) (tpl : Nat → Int32) (tsp : Nat → Int32) (tsc : Int32) (tnc : Int32) (tzz : Int32) (v1 : Int32) (v2 : Int32) : Nat → Int32 → (Nat → Int32) → (Nat → Int32) → (Nat → Int32) → Int32 → Option (Int32 × (Nat → Int32) × (Nat → Int32) × (Nat → Int32) × (Nat → Int32) × (Nat → Int32) × Int32 × Int32 × Int32 × Int32)
  | 0, _, _, _, _, _ => none
  | n + 1, v3, tsy, tsh, fd, tdy => (if 200 < v3 then some ((-1000004), tpl, tsp, tsy, tsh, fX4_finding_o1 fd (-1000004), tsc, tnc, tdy, tzz) else Option.bind (fX0_thickAt F tsy tsc v1) (fun z_4 => (if z_4 < v2 then Option.bind (fX0_passDays F tpl tsy tsh tsc tnc tdy 1 0) (fun z_7 => fX4_closes_38 F tpl tsp tsc tnc tzz v1 v2 n (v3 + 1) z_7.1 z_7.2.1 fd z_7.2.2) else some (v3, tpl, tsp, tsy, tsh, fd, tsc, tnc, tdy, tzz))))
def fX4_closes (F : Nat) (ppl : Nat → Int32) (psp : Nat → Int32) (psy : Nat → Int32) (psh : Nat → Int32) (tpl : Nat → Int32) (tsp : Nat → Int32) (tsy : Nat → Int32) (tsh : Nat → Int32) (fd : Nat → Int32) (psc : Int32) (pnc : Int32) (pdy : Int32) (pzz : Int32) (tsc : Int32) (tnc : Int32) (tdy : Int32) (tzz : Int32) (v1 : Int32) (v2 : Int32) : Option (Int32 × (Nat → Int32) × (Nat → Int32) × (Nat → Int32) × (Nat → Int32) × (Nat → Int32) × Int32 × Int32 × Int32 × Int32) := (if (fX4_isCell v1) = 0 then some ((-1000001), tpl, tsp, tsy, tsh, fX4_finding_o1 fd (-1000001), tsc, tnc, tdy, tzz) else (if (fX4_within v2 0 999) = 0 then some ((-1000001), tpl, tsp, tsy, tsh, fX4_finding_o1 fd (-1000001), tsc, tnc, tdy, tzz) else fX4_closes_38 F (fX0_become_o0 tpl tsp tsy tsh ppl psp psy psh tsc tnc tdy tzz psc pnc pdy pzz) (fX0_become_o1 tpl tsp tsy tsh ppl psp psy psh tsc tnc tdy tzz psc pnc pdy pzz) (fX0_become_o4 tpl tsp tsy tsh ppl psp psy psh tsc tnc tdy tzz psc pnc pdy pzz) (fX0_become_o5 tpl tsp tsy tsh ppl psp psy psh tsc tnc tdy tzz psc pnc pdy pzz) (fX0_become_o7 tpl tsp tsy tsh ppl psp psy psh tsc tnc tdy tzz psc pnc pdy pzz) v1 v2 F 0 (fX0_become_o2 tpl tsp tsy tsh ppl psp psy psh tsc tnc tdy tzz psc pnc pdy pzz) (fX0_become_o3 tpl tsp tsy tsh ppl psp psy psh tsc tnc tdy tzz psc pnc pdy pzz) fd (fX0_become_o6 tpl tsp tsy tsh ppl psp psy psh tsc tnc tdy tzz psc pnc pdy pzz)))
abbrev rmX4_closes : Room := { frames := 5, cells := 0, slots := 0, locals := 120 }
theorem pdX4_closes : (yX4_closes.cls = RX4 ∧ yX4_closes.cls ≠ "java/lang/invoke/MethodHandle" ∧ yX4_closes.cls ≠ "java/lang/invoke/VarHandle" ∧ (parseMethodDescriptor yX4_closes.desc).map (fun d => d.parameters.length) = some 2) := by decide +kernel
set_option maxHeartbeats 4000000 in
set_option maxRecDepth 100000 in
theorem lX4_closes_38 {p : Program} {l : Launch} {e : Env} {s : State} {m : MethodId} {av : Array Value} {below : List Frame} {meth : Method} {c : Code} {D : va_G} {cI cS : ClassId} {a0 a1 a2 a3 a4 a5 a6 a7 a8 a9 a10 a11 a12 a13 a14 a15 a16 a17 a18 a19 a20 a21 a22 : Nat} {W0 : va_W} (C0 : CX p s m av meth c RX4 cX4_closes 4 (some .int) wsX4_closes D cI cS) (F : Nat) (ppl : Nat → Int32) (psp : Nat → Int32) (psy : Nat → Int32) (psh : Nat → Int32) (tpl : Nat → Int32) (tsp : Nat → Int32) (kpl : Nat → Int32) (ksp : Nat → Int32) (ksy : Nat → Int32) (ksh : Nat → Int32) (bs : Nat → Int32) (bt : Nat → Int32) (sz : Nat → Int32) (nm : Nat → Int32) (ik : Int32) (psc : Int32) (pnc : Int32) (pdy : Int32) (pzz : Int32) (tsc : Int32) (tnc : Int32) (tzz : Int32) (ksc : Int32) (knc : Int32) (kdy : Int32) (kzz : Int32) (ln : Int32) (so : Int32) (be : Int32) (en : Int32) (va : Int32) (v1 : Int32) (v2 : Int32) (z0 : Int32) (z1 : Nat → Int32) (z2 : Nat → Int32) (z3 : Nat → Int32) (z4 : Nat → Int32) (z5 : Nat → Int32) (z6 : Int32) (z7 : Int32) (z8 : Int32) (z9 : Int32) (hD : ∀ W : va_W, W.map Prod.fst = [a0, a1, a2, a3, a4, a5, a6, a7, a8, a9, a10, a11, a12, a13, a14, a15, a16, a17, a18, a19, a20, a21, a22] → va_D (wA W0) W) : ∀ (n : Nat) (v3 : Int32) (tsy : Nat → Int32) (tsh : Nat → Int32) (fd : Nat → Int32) (tdy : Int32) (H : Heap) (locs : List Loc), va_P D vwCl (wX4 cI cS a0 a1 a2 a3 a4 a5 a6 a7 a8 a9 a10 a11 a12 a13 a14 a15 a16 a17 a18 a19 a20 a21 a22 ppl psp psy psh tpl tsp tsy tsh kpl ksp ksy ksh bs bt sz nm fd ik psc pnc pdy pzz tsc tnc tdy tzz ksc knc kdy kzz ln so be en va) H → va_S (wA W0) s.heap H locs → ∀ (ls : Array Slot), lv_has ls 4 [(0, .ref a0), (1, .int v1), (2, .int v2), (3, .int v3)] → fX4_closes_38 F tpl tsp tsc tnc tzz v1 v2 n v3 tsy tsh fd tdy = some (z0, z1, z2, z3, z4, z5, z6, z7, z8, z9) → W p l e rmX4_closes s m av below meth c H locs 0 0 (MQ below (qI D W0 (wX4 cI cS a0 a1 a2 a3 a4 a5 a6 a7 a8 a9 a10 a11 a12 a13 a14 a15 a16 a17 a18 a19 a20 a21 a22 ppl psp psy psh z1 z2 z3 z4 kpl ksp ksy ksh bs bt sz nm z5 ik psc pnc pdy pzz z6 z7 z8 z9 ksc knc kdy kzz ln so be en va) z0) av s 0 0 (wA W0)) (F0 m 38 ls []) := by
  obtain ⟨hx, hb, hr, hml, hown, hts, hlk, hE⟩ := id C0
  have hinX4 : ∀ w ∈ u_ws RX4 TX4 7, w ∈ wsX4_closes := by decide +kernel
  intro n
  induction n with
  | zero =>
    intro v3 tsy tsh fd tdy H locs hP hS ls hl h
    cases (show none = some (z0, z1, z2, z3, z4, z5, z6, z7, z8, z9) from h)
  | succ n ih =>
    intro v3 tsy tsh fd tdy H locs hP hS ls hl h
    rw [fX4_closes_38] at h
    refine lv_iload_n hx hb dX4_closes_38 rfl (lv_at hl 3 rfl) ?_
    refine lv_sipush (v := 200) hx hb dX4_closes_39 (by decide) ?_
    refine lv_icmp_gt (tgt := 74) hx hb dX4_closes_42 (by decide) (fun c_3 => ?_) (fun c_3 => ?_)
    · have h := ifp c_3 h
      refine lv_aload_n hx hb dX4_closes_74 rfl (lv_at hl 0 rfl) ?_
      refine lv_ldc (v := (-1000004)) hx hb hown (hts _ (List.mem_of_getElem? (i := 4) rfl)) dX4_closes_75 ?_
      have hPc := hP.sub (ws' := (wX4 cI cS a0 a1 a2 a3 a4 a5 a6 a7 a8 a9 a10 a11 a12 a13 a14 a15 a16 a17 a18 a19 a20 a21 a22 ppl psp psy psh tpl tsp tsy tsh kpl ksp ksy ksh bs bt sz nm fd ik psc pnc pdy pzz tsc tnc tdy tzz ksc knc kdy kzz ln so be en va)) [0, 1, 2, 3, 4, 5, 6, 7, 8, 9, 10, 11, 12, 13, 14, 15, 16, 17, 18, 19, 20, 21, 22] rfl
      refine kMi (wf' := (wX4 cI cS a0 a1 a2 a3 a4 a5 a6 a7 a8 a9 a10 a11 a12 a13 a14 a15 a16 a17 a18 a19 a20 a21 a22 ppl psp psy psh tpl tsp tsy tsh kpl ksp ksy ksh bs bt sz nm (fX4_finding_o1 fd (-1000004)) ik psc pnc pdy pzz tsc tnc tdy tzz ksc knc kdy kzz ln so be en va)) [0, 1, 2, 3, 4, 5, 6, 7, 8, 9, 10, 11, 12, 13, 14, 15, 16, 17, 18, 19, 20, 21, 22] [some 0, some 1, some 2, some 3, some 4, some 5, some 6, some 7, some 8, some 9, some 10, some 11, some 12, some 13, some 14, some 15, some 16, some 17, some 18, some 19, some 20, some 21, some 22] (rV C0 (tX4_finding l D cI cS a0 a1 a2 a3 a4 a5 a6 a7 a8 a9 a10 a11 a12 a13 a14 a15 a16 a17 a18 a19 a20 a21 a22 ppl psp psy psh tpl tsp tsy tsh kpl ksp ksy ksh bs bt sz nm fd ik psc pnc pdy pzz tsc tnc tdy tzz ksc knc kdy kzz ln so be en va (-1000004) (-1000004) (fX4_finding_o1 fd (-1000004)) (eeX4_finding ..) (((hD (wX4 cI cS a0 a1 a2 a3 a4 a5 a6 a7 a8 a9 a10 a11 a12 a13 a14 a15 a16 a17 a18 a19 a20 a21 a22 ppl psp psy psh tpl tsp tsy tsh kpl ksp ksy ksh bs bt sz nm fd ik psc pnc pdy pzz tsc tnc tdy tzz ksc knc kdy kzz ln so be en va) rfl).sub [0, 1, 2, 3, 4, 5, 6, 7, 8, 9, 10, 11, 12, 13, 14, 15, 16, 17, 18, 19, 20, 21, 22] (by decide) rfl).weaken (fun _ _ _ _ => trivial))) RX4 gX4_closes_X4_finding rfl ⟨rfl, rfl⟩ pdX4_finding rfl ⟨Nat.le_of_ble_eq_true rfl, Nat.le_of_ble_eq_true rfl⟩ (fun _ _ _ _ q => q) (va_recv hE.1 hPc (ci := 3) (q0 := 0) rfl rfl) (fun U hU _ _ => by rw [hU]; exact hPc) hl.1 rfl (Nat.le_of_ble_eq_true rfl) dX4_closes_77 ⟨Nat.zero_le _, Nat.zero_le _⟩) hP (hD _ rfl) hS rfl rfl rfl (fun H locs hP hS => ?_)
      obtain ⟨q0, g0⟩ := Prod.mk.inj (Option.some.inj h)
      obtain ⟨q1, g1⟩ := Prod.mk.inj g0
      obtain ⟨q2, g2⟩ := Prod.mk.inj g1
      obtain ⟨q3, g3⟩ := Prod.mk.inj g2
      obtain ⟨q4, g4⟩ := Prod.mk.inj g3
      obtain ⟨q5, g5⟩ := Prod.mk.inj g4
      obtain ⟨q6, g6⟩ := Prod.mk.inj g5
      obtain ⟨q7, g7⟩ := Prod.mk.inj g6
      obtain ⟨q8, q9⟩ := Prod.mk.inj g7
      subst q0 q1 q2 q3 q4 q5 q6 q7 q8 q9
      exact eMi C0 hP hS rfl rfl dX4_closes_80
    · have h := ifn c_3 h
      refine lv_aload_n hx hb dX4_closes_45 rfl (lv_at hl 0 rfl) ?_
      refine va_get (D := D) (ci := 3) (v := .ref a6) (C := RX4) (T := TX4) (N := 7) hx hb hts hinX4 hown hE.1 hP 0 rfl rfl 1 (by decide) (hts _ (List.mem_of_getElem? (i := 2) rfl)) (fun _ h9 => h9) rfl dX4_closes_46 ?_
      refine lv_iload_n hx hb dX4_closes_49 rfl (lv_at hl 1 rfl) ?_
      obtain ⟨z_4, e_5, h⟩ := bds h
      have hPc := hP.sub (ws' := (wX0 cI cS a6 a7 a8 a9 a10 tpl tsp tsy tsh tsc tnc tdy tzz)) [6, 7, 8, 9, 10] rfl
      refine kRi (rV C0 (tX0_thickAt l D cI cS F a6 a7 a8 a9 a10 tpl tsp tsy tsh tsc tnc tdy tzz v1 z_4 e_5) RX0 gX4_closes_X0_thickAt rfl ⟨rfl, rfl⟩ pdX0_thickAt rfl ⟨Nat.le_of_ble_eq_true rfl, Nat.le_of_ble_eq_true rfl⟩ (fun _ _ _ _ q => q) (va_recv hE.1 hPc (ci := 0) (q0 := 0) rfl rfl) (fun U hU _ _ => by rw [hU]; exact hPc) hl.1 rfl (Nat.le_of_ble_eq_true rfl) dX4_closes_50 ⟨Nat.zero_le _, Nat.zero_le _⟩) ?_
      refine lv_iload_n hx hb dX4_closes_53 rfl (lv_at hl 2 rfl) ?_
      refine lv_icmp_lt (tgt := 59) hx hb dX4_closes_54 (by decide) (fun c_6 => ?_) (fun c_6 => ?_)
      · have h := ifp c_6 h
        refine lv_aload_n hx hb dX4_closes_59 rfl (lv_at hl 0 rfl) ?_
        refine va_get (D := D) (ci := 3) (v := .ref a6) (C := RX4) (T := TX4) (N := 7) hx hb hts hinX4 hown hE.1 hP 0 rfl rfl 1 (by decide) (hts _ (List.mem_of_getElem? (i := 2) rfl)) (fun _ h9 => h9) rfl dX4_closes_60 ?_
        refine lv_iconst (v := 1) hx hb dX4_closes_63 (by decide) ?_
        refine lv_iconst (v := 0) hx hb dX4_closes_64 (by decide) ?_
        obtain ⟨z_7, e_8, h⟩ := bds h
        have hPc := hP.sub (ws' := (wX0 cI cS a6 a7 a8 a9 a10 tpl tsp tsy tsh tsc tnc tdy tzz)) [6, 7, 8, 9, 10] rfl
        refine kMv (wf' := (wX4 cI cS a0 a1 a2 a3 a4 a5 a6 a7 a8 a9 a10 a11 a12 a13 a14 a15 a16 a17 a18 a19 a20 a21 a22 ppl psp psy psh tpl tsp z_7.1 z_7.2.1 kpl ksp ksy ksh bs bt sz nm fd ik psc pnc pdy pzz tsc tnc z_7.2.2 tzz ksc knc kdy kzz ln so be en va)) [6, 7, 8, 9, 10] [none, none, none, none, none, none, some 0, some 1, some 2, some 3, some 4, none, none, none, none, none, none, none, none, none, none, none, none] (rV C0 (tX0_passDays l D cI cS F a6 a7 a8 a9 a10 tpl tsp tsy tsh tsc tnc tdy tzz 1 0 z_7.1 z_7.2.1 z_7.2.2 e_8 (((hD (wX4 cI cS a0 a1 a2 a3 a4 a5 a6 a7 a8 a9 a10 a11 a12 a13 a14 a15 a16 a17 a18 a19 a20 a21 a22 ppl psp psy psh tpl tsp tsy tsh kpl ksp ksy ksh bs bt sz nm fd ik psc pnc pdy pzz tsc tnc tdy tzz ksc knc kdy kzz ln so be en va) rfl).sub [6, 7, 8, 9, 10] (by decide) rfl).weaken (fun _ _ _ _ => trivial))) RX0 gX4_closes_X0_passDays rfl ⟨rfl, rfl⟩ pdX0_passDays rfl ⟨Nat.le_of_ble_eq_true rfl, Nat.le_of_ble_eq_true rfl⟩ (fun _ _ _ _ q => q) (va_recv hE.1 hPc (ci := 0) (q0 := 0) rfl rfl) (fun U hU _ _ => by rw [hU]; exact hPc) hl.1 rfl (Nat.le_of_ble_eq_true rfl) dX4_closes_65 ⟨Nat.zero_le _, Nat.zero_le _⟩) hP (hD _ rfl) hS rfl rfl rfl (fun H locs hP hS => ?_)
        refine lv_iinc (v := v3 + 1) (lv' := [(3, .int (v3 + 1)), (0, .ref a0), (1, .int v1), (2, .int v2)]) hx hb dX4_closes_68 hl (k := 3) rfl rfl (by decide) rfl (fun ls hl => ?_)
        refine lv_goto (tgt := 38) hx hb dX4_closes_71 (by decide) ?_
        exact ih (v3 + 1) z_7.1 z_7.2.1 fd z_7.2.2 _ _ hP hS _ (lv_sub hl [1, 2, 3, 0] rfl) h
      · have h := ifn c_6 h
        refine lv_iload_n hx hb dX4_closes_57 rfl (lv_at hl 3 rfl) ?_
        obtain ⟨q0, g0⟩ := Prod.mk.inj (Option.some.inj h)
        obtain ⟨q1, g1⟩ := Prod.mk.inj g0
        obtain ⟨q2, g2⟩ := Prod.mk.inj g1
        obtain ⟨q3, g3⟩ := Prod.mk.inj g2
        obtain ⟨q4, g4⟩ := Prod.mk.inj g3
        obtain ⟨q5, g5⟩ := Prod.mk.inj g4
        obtain ⟨q6, g6⟩ := Prod.mk.inj g5
        obtain ⟨q7, g7⟩ := Prod.mk.inj g6
        obtain ⟨q8, q9⟩ := Prod.mk.inj g7
        subst q0 q1 q2 q3 q4 q5 q6 q7 q8 q9
        exact eMi C0 hP hS rfl rfl dX4_closes_58
set_option maxHeartbeats 4000000 in
set_option maxRecDepth 100000 in
theorem tX4_closes (l : Launch) (D : va_G) (cI cS : ClassId) (F : Nat) (a0 a1 a2 a3 a4 a5 a6 a7 a8 a9 a10 a11 a12 a13 a14 a15 a16 a17 a18 a19 a20 a21 a22 : Nat) (ppl : Nat → Int32) (psp : Nat → Int32) (psy : Nat → Int32) (psh : Nat → Int32) (tpl : Nat → Int32) (tsp : Nat → Int32) (tsy : Nat → Int32) (tsh : Nat → Int32) (kpl : Nat → Int32) (ksp : Nat → Int32) (ksy : Nat → Int32) (ksh : Nat → Int32) (bs : Nat → Int32) (bt : Nat → Int32) (sz : Nat → Int32) (nm : Nat → Int32) (fd : Nat → Int32) (ik : Int32) (psc : Int32) (pnc : Int32) (pdy : Int32) (pzz : Int32) (tsc : Int32) (tnc : Int32) (tdy : Int32) (tzz : Int32) (ksc : Int32) (knc : Int32) (kdy : Int32) (kzz : Int32) (ln : Int32) (so : Int32) (be : Int32) (en : Int32) (va : Int32) (v1 : Int32) (v2 : Int32) (z0 : Int32) (z1 : Nat → Int32) (z2 : Nat → Int32) (z3 : Nat → Int32) (z4 : Nat → Int32) (z5 : Nat → Int32) (z6 : Int32) (z7 : Int32) (z8 : Int32) (z9 : Int32) (h : fX4_closes F ppl psp psy psh tpl tsp tsy tsh fd psc pnc pdy pzz tsc tnc tdy tzz v1 v2 = some (z0, z1, z2, z3, z4, z5, z6, z7, z8, z9)) (hD0 : va_D (fun _ => True) (wX4 cI cS a0 a1 a2 a3 a4 a5 a6 a7 a8 a9 a10 a11 a12 a13 a14 a15 a16 a17 a18 a19 a20 a21 a22 ppl psp psy psh tpl tsp tsy tsh kpl ksp ksy ksh bs bt sz nm fd ik psc pnc pdy pzz tsc tnc tdy tzz ksc knc kdy kzz ln so be en va)) : Met l yX4_closes wsX4_closes rmX4_closes (PZ D cI cS [.ref a0, .int v1, .int v2] (fun U => va_P D vwCl (wX4 cI cS a0 a1 a2 a3 a4 a5 a6 a7 a8 a9 a10 a11 a12 a13 a14 a15 a16 a17 a18 a19 a20 a21 a22 ppl psp psy psh tpl tsp tsy tsh kpl ksp ksy ksh bs bt sz nm fd ik psc pnc pdy pzz tsc tnc tdy tzz ksc knc kdy kzz ln so be en va) U.heap)) (qI D (wX4 cI cS a0 a1 a2 a3 a4 a5 a6 a7 a8 a9 a10 a11 a12 a13 a14 a15 a16 a17 a18 a19 a20 a21 a22 ppl psp psy psh tpl tsp tsy tsh kpl ksp ksy ksh bs bt sz nm fd ik psc pnc pdy pzz tsc tnc tdy tzz ksc knc kdy kzz ln so be en va) (wX4 cI cS a0 a1 a2 a3 a4 a5 a6 a7 a8 a9 a10 a11 a12 a13 a14 a15 a16 a17 a18 a19 a20 a21 a22 ppl psp psy psh z1 z2 z3 z4 kpl ksp ksy ksh bs bt sz nm z5 ik psc pnc pdy pzz z6 z7 z8 z9 ksc knc kdy kzz ln so be en va) z0) 0 0 (wA (wX4 cI cS a0 a1 a2 a3 a4 a5 a6 a7 a8 a9 a10 a11 a12 a13 a14 a15 a16 a17 a18 a19 a20 a21 a22 ppl psp psy psh tpl tsp tsy tsh kpl ksp ksy ksh bs bt sz nm fd ik psc pnc pdy pzz tsc tnc tdy tzz ksc knc kdy kzz ln so be en va)) := by
  refine Met.mk RX4 (by decide) rfl rfl (Nat.le_of_ble_eq_true rfl) ?_
  intro p e s m below meth c ls C0 hP hl
  have hl : lv_has ls 4 [(0, .ref a0), (1, .int v1), (2, .int v2)] := hl
  obtain ⟨hx, hb, hr, hml, hown, hts, hlk, hE⟩ := id C0
  have hinX4 : ∀ w ∈ u_ws RX4 TX4 7, w ∈ wsX4_closes := by decide +kernel
  have hD : ∀ W : va_W, W.map Prod.fst = [a0, a1, a2, a3, a4, a5, a6, a7, a8, a9, a10, a11, a12, a13, a14, a15, a16, a17, a18, a19, a20, a21, a22] → va_D (wA (wX4 cI cS a0 a1 a2 a3 a4 a5 a6 a7 a8 a9 a10 a11 a12 a13 a14 a15 a16 a17 a18 a19 a20 a21 a22 ppl psp psy psh tpl tsp tsy tsh kpl ksp ksy ksh bs bt sz nm fd ik psc pnc pdy pzz tsc tnc tdy tzz ksc knc kdy kzz ln so be en va)) W := fun W hW => hD0.own.re hW
  have hS : va_S (wA (wX4 cI cS a0 a1 a2 a3 a4 a5 a6 a7 a8 a9 a10 a11 a12 a13 a14 a15 a16 a17 a18 a19 a20 a21 a22 ppl psp psy psh tpl tsp tsy tsh kpl ksp ksy ksh bs bt sz nm fd ik psc pnc pdy pzz tsc tnc tdy tzz ksc knc kdy kzz ln so be en va)) s.heap s.heap [] := va_S.rf
  have hP : va_P D vwCl (wX4 cI cS a0 a1 a2 a3 a4 a5 a6 a7 a8 a9 a10 a11 a12 a13 a14 a15 a16 a17 a18 a19 a20 a21 a22 ppl psp psy psh tpl tsp tsy tsh kpl ksp ksy ksh bs bt sz nm fd ik psc pnc pdy pzz tsc tnc tdy tzz ksc knc kdy kzz ln so be en va) s.heap := hP
  rw [fX4_closes] at h
  refine lv_iload_n hx hb dX4_closes_0 rfl (lv_at hl 1 rfl) ?_
  refine kRi (rS C0 (tX4_isCell l D cI cS v1 (fX4_isCell v1) rfl) gX4_closes_X4_isCell rfl ⟨rfl, rfl⟩ pdX4_isCell rfl ⟨Nat.le_of_ble_eq_true rfl, Nat.le_of_ble_eq_true rfl⟩ (fun _ _ _ _ q => q) (fun _ _ _ _ => vp0) hl.1 rfl (Nat.le_of_ble_eq_true rfl) dX4_closes_1 ⟨Nat.zero_le _, Nat.zero_le _⟩) ?_
  refine lv_if_eq (tgt := 18) hx hb dX4_closes_4 (by decide) (fun c_1 => ?_) (fun c_1 => ?_)
  · have h := ifp c_1 h
    refine lv_aload_n hx hb dX4_closes_18 rfl (lv_at hl 0 rfl) ?_
    refine lv_ldc (v := (-1000001)) hx hb hown (hts _ (List.mem_of_getElem? (i := 1) rfl)) dX4_closes_19 ?_
    have hPc := hP.sub (ws' := (wX4 cI cS a0 a1 a2 a3 a4 a5 a6 a7 a8 a9 a10 a11 a12 a13 a14 a15 a16 a17 a18 a19 a20 a21 a22 ppl psp psy psh tpl tsp tsy tsh kpl ksp ksy ksh bs bt sz nm fd ik psc pnc pdy pzz tsc tnc tdy tzz ksc knc kdy kzz ln so be en va)) [0, 1, 2, 3, 4, 5, 6, 7, 8, 9, 10, 11, 12, 13, 14, 15, 16, 17, 18, 19, 20, 21, 22] rfl
    refine kMi (wf' := (wX4 cI cS a0 a1 a2 a3 a4 a5 a6 a7 a8 a9 a10 a11 a12 a13 a14 a15 a16 a17 a18 a19 a20 a21 a22 ppl psp psy psh tpl tsp tsy tsh kpl ksp ksy ksh bs bt sz nm (fX4_finding_o1 fd (-1000001)) ik psc pnc pdy pzz tsc tnc tdy tzz ksc knc kdy kzz ln so be en va)) [0, 1, 2, 3, 4, 5, 6, 7, 8, 9, 10, 11, 12, 13, 14, 15, 16, 17, 18, 19, 20, 21, 22] [some 0, some 1, some 2, some 3, some 4, some 5, some 6, some 7, some 8, some 9, some 10, some 11, some 12, some 13, some 14, some 15, some 16, some 17, some 18, some 19, some 20, some 21, some 22] (rV C0 (tX4_finding l D cI cS a0 a1 a2 a3 a4 a5 a6 a7 a8 a9 a10 a11 a12 a13 a14 a15 a16 a17 a18 a19 a20 a21 a22 ppl psp psy psh tpl tsp tsy tsh kpl ksp ksy ksh bs bt sz nm fd ik psc pnc pdy pzz tsc tnc tdy tzz ksc knc kdy kzz ln so be en va (-1000001) (-1000001) (fX4_finding_o1 fd (-1000001)) (eeX4_finding ..) (((hD (wX4 cI cS a0 a1 a2 a3 a4 a5 a6 a7 a8 a9 a10 a11 a12 a13 a14 a15 a16 a17 a18 a19 a20 a21 a22 ppl psp psy psh tpl tsp tsy tsh kpl ksp ksy ksh bs bt sz nm fd ik psc pnc pdy pzz tsc tnc tdy tzz ksc knc kdy kzz ln so be en va) rfl).sub [0, 1, 2, 3, 4, 5, 6, 7, 8, 9, 10, 11, 12, 13, 14, 15, 16, 17, 18, 19, 20, 21, 22] (by decide) rfl).weaken (fun _ _ _ _ => trivial))) RX4 gX4_closes_X4_finding rfl ⟨rfl, rfl⟩ pdX4_finding rfl ⟨Nat.le_of_ble_eq_true rfl, Nat.le_of_ble_eq_true rfl⟩ (fun _ _ _ _ q => q) (va_recv hE.1 hPc (ci := 3) (q0 := 0) rfl rfl) (fun U hU _ _ => by rw [hU]; exact hPc) hl.1 rfl (Nat.le_of_ble_eq_true rfl) dX4_closes_21 ⟨Nat.zero_le _, Nat.zero_le _⟩) hP (hD _ rfl) hS rfl rfl rfl (fun H locs hP hS => ?_)
    obtain ⟨q0, g0⟩ := Prod.mk.inj (Option.some.inj h)
    obtain ⟨q1, g1⟩ := Prod.mk.inj g0
    obtain ⟨q2, g2⟩ := Prod.mk.inj g1
    obtain ⟨q3, g3⟩ := Prod.mk.inj g2
    obtain ⟨q4, g4⟩ := Prod.mk.inj g3
    obtain ⟨q5, g5⟩ := Prod.mk.inj g4
    obtain ⟨q6, g6⟩ := Prod.mk.inj g5
    obtain ⟨q7, g7⟩ := Prod.mk.inj g6
    obtain ⟨q8, q9⟩ := Prod.mk.inj g7
    subst q0 q1 q2 q3 q4 q5 q6 q7 q8 q9
    exact eMi C0 hP hS rfl rfl dX4_closes_24
  · have h := ifn c_1 h
    refine lv_iload_n hx hb dX4_closes_7 rfl (lv_at hl 2 rfl) ?_
    refine lv_iconst (v := 0) hx hb dX4_closes_8 (by decide) ?_
    refine lv_sipush (v := 999) hx hb dX4_closes_9 (by decide) ?_
    refine kRi (rS C0 (tX4_within l D cI cS v2 0 999 (fX4_within v2 0 999) rfl) gX4_closes_X4_within rfl ⟨rfl, rfl⟩ pdX4_within rfl ⟨Nat.le_of_ble_eq_true rfl, Nat.le_of_ble_eq_true rfl⟩ (fun _ _ _ _ q => q) (fun _ _ _ _ => vp0) hl.1 rfl (Nat.le_of_ble_eq_true rfl) dX4_closes_12 ⟨Nat.zero_le _, Nat.zero_le _⟩) ?_
    refine lv_if_ne (tgt := 25) hx hb dX4_closes_15 (by decide) (fun c_2 => ?_) (fun c_2 => ?_)
    · have h := ifn c_2 h
      refine lv_aload_n hx hb dX4_closes_25 rfl (lv_at hl 0 rfl) ?_
      refine va_get (D := D) (ci := 3) (v := .ref a6) (C := RX4) (T := TX4) (N := 7) hx hb hts hinX4 hown hE.1 hP 0 rfl rfl 1 (by decide) (hts _ (List.mem_of_getElem? (i := 2) rfl)) (fun _ h9 => h9) rfl dX4_closes_26 ?_
      refine lv_aload_n hx hb dX4_closes_29 rfl (lv_at hl 0 rfl) ?_
      refine va_get (D := D) (ci := 3) (v := .ref a1) (C := RX4) (T := TX4) (N := 7) hx hb hts hinX4 hown hE.1 hP 0 rfl rfl 0 (by decide) (hts _ (List.mem_of_getElem? (i := 3) rfl)) (fun _ h9 => h9) rfl dX4_closes_30 ?_
      have hPc := hP.sub (ws' := (wE2 cI cS a6 a7 a8 a9 a10 a1 a2 a3 a4 a5 tpl tsp tsy tsh ppl psp psy psh tsc tnc tdy tzz psc pnc pdy pzz)) [6, 7, 8, 9, 10, 1, 2, 3, 4, 5] rfl
      refine kMv (wf' := (wX4 cI cS a0 a1 a2 a3 a4 a5 a6 a7 a8 a9 a10 a11 a12 a13 a14 a15 a16 a17 a18 a19 a20 a21 a22 ppl psp psy psh (fX0_become_o0 tpl tsp tsy tsh ppl psp psy psh tsc tnc tdy tzz psc pnc pdy pzz) (fX0_become_o1 tpl tsp tsy tsh ppl psp psy psh tsc tnc tdy tzz psc pnc pdy pzz) (fX0_become_o2 tpl tsp tsy tsh ppl psp psy psh tsc tnc tdy tzz psc pnc pdy pzz) (fX0_become_o3 tpl tsp tsy tsh ppl psp psy psh tsc tnc tdy tzz psc pnc pdy pzz) kpl ksp ksy ksh bs bt sz nm fd ik psc pnc pdy pzz (fX0_become_o4 tpl tsp tsy tsh ppl psp psy psh tsc tnc tdy tzz psc pnc pdy pzz) (fX0_become_o5 tpl tsp tsy tsh ppl psp psy psh tsc tnc tdy tzz psc pnc pdy pzz) (fX0_become_o6 tpl tsp tsy tsh ppl psp psy psh tsc tnc tdy tzz psc pnc pdy pzz) (fX0_become_o7 tpl tsp tsy tsh ppl psp psy psh tsc tnc tdy tzz psc pnc pdy pzz) ksc knc kdy kzz ln so be en va)) [6, 7, 8, 9, 10, 1, 2, 3, 4, 5] [none, some 5, some 6, some 7, some 8, some 9, some 0, some 1, some 2, some 3, some 4, none, none, none, none, none, none, none, none, none, none, none, none] (rV C0 (tX0_become l D cI cS a6 a7 a8 a9 a10 a1 a2 a3 a4 a5 tpl tsp tsy tsh ppl psp psy psh tsc tnc tdy tzz psc pnc pdy pzz  (fX0_become_o0 tpl tsp tsy tsh ppl psp psy psh tsc tnc tdy tzz psc pnc pdy pzz) (fX0_become_o1 tpl tsp tsy tsh ppl psp psy psh tsc tnc tdy tzz psc pnc pdy pzz) (fX0_become_o2 tpl tsp tsy tsh ppl psp psy psh tsc tnc tdy tzz psc pnc pdy pzz) (fX0_become_o3 tpl tsp tsy tsh ppl psp psy psh tsc tnc tdy tzz psc pnc pdy pzz) (fX0_become_o4 tpl tsp tsy tsh ppl psp psy psh tsc tnc tdy tzz psc pnc pdy pzz) (fX0_become_o5 tpl tsp tsy tsh ppl psp psy psh tsc tnc tdy tzz psc pnc pdy pzz) (fX0_become_o6 tpl tsp tsy tsh ppl psp psy psh tsc tnc tdy tzz psc pnc pdy pzz) (fX0_become_o7 tpl tsp tsy tsh ppl psp psy psh tsc tnc tdy tzz psc pnc pdy pzz) (eeX0_become ..) (((hD (wX4 cI cS a0 a1 a2 a3 a4 a5 a6 a7 a8 a9 a10 a11 a12 a13 a14 a15 a16 a17 a18 a19 a20 a21 a22 ppl psp psy psh tpl tsp tsy tsh kpl ksp ksy ksh bs bt sz nm fd ik psc pnc pdy pzz tsc tnc tdy tzz ksc knc kdy kzz ln so be en va) rfl).sub [6, 7, 8, 9, 10, 1, 2, 3, 4, 5] (by decide) rfl).weaken (fun _ _ _ _ => trivial))) RX0 gX4_closes_X0_become rfl ⟨rfl, rfl⟩ pdX0_become rfl ⟨Nat.le_of_ble_eq_true rfl, Nat.le_of_ble_eq_true rfl⟩ (fun _ _ _ _ q => q) (va_recv hE.1 hPc (ci := 0) (q0 := 0) rfl rfl) (fun U hU _ _ => by rw [hU]; exact hPc) hl.1 rfl (Nat.le_of_ble_eq_true rfl) dX4_closes_33 ⟨Nat.zero_le _, Nat.zero_le _⟩) hP (hD _ rfl) hS rfl rfl rfl (fun H locs hP hS => ?_)
      refine lv_iconst (v := 0) hx hb dX4_closes_36 (by decide) ?_
      refine lv_istore_n (lv' := [(3, .int 0), (0, .ref a0), (1, .int v1), (2, .int v2)]) hx hb dX4_closes_37 rfl hl (by decide) rfl (fun ls hl => ?_)
      exact lX4_closes_38 (l := l) (e := e) (below := below) C0 F ppl psp psy psh (fX0_become_o0 tpl tsp tsy tsh ppl psp psy psh tsc tnc tdy tzz psc pnc pdy pzz) (fX0_become_o1 tpl tsp tsy tsh ppl psp psy psh tsc tnc tdy tzz psc pnc pdy pzz) kpl ksp ksy ksh bs bt sz nm ik psc pnc pdy pzz (fX0_become_o4 tpl tsp tsy tsh ppl psp psy psh tsc tnc tdy tzz psc pnc pdy pzz) (fX0_become_o5 tpl tsp tsy tsh ppl psp psy psh tsc tnc tdy tzz psc pnc pdy pzz) (fX0_become_o7 tpl tsp tsy tsh ppl psp psy psh tsc tnc tdy tzz psc pnc pdy pzz) ksc knc kdy kzz ln so be en va v1 v2 z0 z1 z2 z3 z4 z5 z6 z7 z8 z9 hD F 0 (fX0_become_o2 tpl tsp tsy tsh ppl psp psy psh tsc tnc tdy tzz psc pnc pdy pzz) (fX0_become_o3 tpl tsp tsy tsh ppl psp psy psh tsc tnc tdy tzz psc pnc pdy pzz) fd (fX0_become_o6 tpl tsp tsy tsh ppl psp psy psh tsc tnc tdy tzz psc pnc pdy pzz) _ _ hP hS _ (lv_sub hl [1, 2, 3, 0] rfl) h
    · have h := ifp c_2 h
      refine lv_aload_n hx hb dX4_closes_18 rfl (lv_at hl 0 rfl) ?_
      refine lv_ldc (v := (-1000001)) hx hb hown (hts _ (List.mem_of_getElem? (i := 1) rfl)) dX4_closes_19 ?_
      have hPc := hP.sub (ws' := (wX4 cI cS a0 a1 a2 a3 a4 a5 a6 a7 a8 a9 a10 a11 a12 a13 a14 a15 a16 a17 a18 a19 a20 a21 a22 ppl psp psy psh tpl tsp tsy tsh kpl ksp ksy ksh bs bt sz nm fd ik psc pnc pdy pzz tsc tnc tdy tzz ksc knc kdy kzz ln so be en va)) [0, 1, 2, 3, 4, 5, 6, 7, 8, 9, 10, 11, 12, 13, 14, 15, 16, 17, 18, 19, 20, 21, 22] rfl
      refine kMi (wf' := (wX4 cI cS a0 a1 a2 a3 a4 a5 a6 a7 a8 a9 a10 a11 a12 a13 a14 a15 a16 a17 a18 a19 a20 a21 a22 ppl psp psy psh tpl tsp tsy tsh kpl ksp ksy ksh bs bt sz nm (fX4_finding_o1 fd (-1000001)) ik psc pnc pdy pzz tsc tnc tdy tzz ksc knc kdy kzz ln so be en va)) [0, 1, 2, 3, 4, 5, 6, 7, 8, 9, 10, 11, 12, 13, 14, 15, 16, 17, 18, 19, 20, 21, 22] [some 0, some 1, some 2, some 3, some 4, some 5, some 6, some 7, some 8, some 9, some 10, some 11, some 12, some 13, some 14, some 15, some 16, some 17, some 18, some 19, some 20, some 21, some 22] (rV C0 (tX4_finding l D cI cS a0 a1 a2 a3 a4 a5 a6 a7 a8 a9 a10 a11 a12 a13 a14 a15 a16 a17 a18 a19 a20 a21 a22 ppl psp psy psh tpl tsp tsy tsh kpl ksp ksy ksh bs bt sz nm fd ik psc pnc pdy pzz tsc tnc tdy tzz ksc knc kdy kzz ln so be en va (-1000001) (-1000001) (fX4_finding_o1 fd (-1000001)) (eeX4_finding ..) (((hD (wX4 cI cS a0 a1 a2 a3 a4 a5 a6 a7 a8 a9 a10 a11 a12 a13 a14 a15 a16 a17 a18 a19 a20 a21 a22 ppl psp psy psh tpl tsp tsy tsh kpl ksp ksy ksh bs bt sz nm fd ik psc pnc pdy pzz tsc tnc tdy tzz ksc knc kdy kzz ln so be en va) rfl).sub [0, 1, 2, 3, 4, 5, 6, 7, 8, 9, 10, 11, 12, 13, 14, 15, 16, 17, 18, 19, 20, 21, 22] (by decide) rfl).weaken (fun _ _ _ _ => trivial))) RX4 gX4_closes_X4_finding rfl ⟨rfl, rfl⟩ pdX4_finding rfl ⟨Nat.le_of_ble_eq_true rfl, Nat.le_of_ble_eq_true rfl⟩ (fun _ _ _ _ q => q) (va_recv hE.1 hPc (ci := 3) (q0 := 0) rfl rfl) (fun U hU _ _ => by rw [hU]; exact hPc) hl.1 rfl (Nat.le_of_ble_eq_true rfl) dX4_closes_21 ⟨Nat.zero_le _, Nat.zero_le _⟩) hP (hD _ rfl) hS rfl rfl rfl (fun H locs hP hS => ?_)
      obtain ⟨q0, g0⟩ := Prod.mk.inj (Option.some.inj h)
      obtain ⟨q1, g1⟩ := Prod.mk.inj g0
      obtain ⟨q2, g2⟩ := Prod.mk.inj g1
      obtain ⟨q3, g3⟩ := Prod.mk.inj g2
      obtain ⟨q4, g4⟩ := Prod.mk.inj g3
      obtain ⟨q5, g5⟩ := Prod.mk.inj g4
      obtain ⟨q6, g6⟩ := Prod.mk.inj g5
      obtain ⟨q7, g7⟩ := Prod.mk.inj g6
      obtain ⟨q8, q9⟩ := Prod.mk.inj g7
      subst q0 q1 q2 q3 q4 q5 q6 q7 q8 q9
      exact eMi C0 hP hS rfl rfl dX4_closes_24
def fX4_settled_13 (F : Nat) (tpl : Nat → Int32) (tsp : Nat → Int32) (tsc : Int32) (tnc : Int32) (tzz : Int32) : Nat → Int32 → (Nat → Int32) → (Nat → Int32) → (Nat → Int32) → Int32 → Option (Int32 × (Nat → Int32) × (Nat → Int32) × (Nat → Int32) × (Nat → Int32) × (Nat → Int32) × Int32 × Int32 × Int32 × Int32)
  | 0, _, _, _, _, _ => none
  | n + 1, v1, tsy, tsh, fd, tdy => (if 200 < v1 then some ((-1000004), tpl, tsp, tsy, tsh, fX4_finding_o1 fd (-1000004), tsc, tnc, tdy, tzz) else Option.bind (fX0_finishedSayings F tsy tsc) (fun z_2 => (if (fJ6_bitCount_0f7a4 z_2) = tsc then some (v1, tpl, tsp, tsy, tsh, fd, tsc, tnc, tdy, tzz) else Option.bind (fX0_passDays F tpl tsy tsh tsc tnc tdy 1 0) (fun z_5 => fX4_settled_13 F tpl tsp tsc tnc tzz n (v1 + 1) z_5.1 z_5.2.1 fd z_5.2.2))))
def fX4_settled (F : Nat) (ppl : Nat → Int32) (psp : Nat → Int32) (psy : Nat → Int32) (psh : Nat → Int32) (tpl : Nat → Int32) (tsp : Nat → Int32) (tsy : Nat → Int32) (tsh : Nat → Int32) (fd : Nat → Int32) (psc : Int32) (pnc : Int32) (pdy : Int32) (pzz : Int32) (tsc : Int32) (tnc : Int32) (tdy : Int32) (tzz : Int32) : Option (Int32 × (Nat → Int32) × (Nat → Int32) × (Nat → Int32) × (Nat → Int32) × (Nat → Int32) × Int32 × Int32 × Int32 × Int32) := fX4_settled_13 F (fX0_become_o0 tpl tsp tsy tsh ppl psp psy psh tsc tnc tdy tzz psc pnc pdy pzz) (fX0_become_o1 tpl tsp tsy tsh ppl psp psy psh tsc tnc tdy tzz psc pnc pdy pzz) (fX0_become_o4 tpl tsp tsy tsh ppl psp psy psh tsc tnc tdy tzz psc pnc pdy pzz) (fX0_become_o5 tpl tsp tsy tsh ppl psp psy psh tsc tnc tdy tzz psc pnc pdy pzz) (fX0_become_o7 tpl tsp tsy tsh ppl psp psy psh tsc tnc tdy tzz psc pnc pdy pzz) F 0 (fX0_become_o2 tpl tsp tsy tsh ppl psp psy psh tsc tnc tdy tzz psc pnc pdy pzz) (fX0_become_o3 tpl tsp tsy tsh ppl psp psy psh tsc tnc tdy tzz psc pnc pdy pzz) fd (fX0_become_o6 tpl tsp tsy tsh ppl psp psy psh tsc tnc tdy tzz psc pnc pdy pzz)
abbrev rmX4_settled : Room := { frames := 5, cells := 0, slots := 0, locals := 120 }
theorem pdX4_settled : (yX4_settled.cls = RX4 ∧ yX4_settled.cls ≠ "java/lang/invoke/MethodHandle" ∧ yX4_settled.cls ≠ "java/lang/invoke/VarHandle" ∧ (parseMethodDescriptor yX4_settled.desc).map (fun d => d.parameters.length) = some 0) := by decide +kernel
set_option maxHeartbeats 4000000 in
set_option maxRecDepth 100000 in
theorem lX4_settled_13 {p : Program} {l : Launch} {e : Env} {s : State} {m : MethodId} {av : Array Value} {below : List Frame} {meth : Method} {c : Code} {D : va_G} {cI cS : ClassId} {a0 a1 a2 a3 a4 a5 a6 a7 a8 a9 a10 a11 a12 a13 a14 a15 a16 a17 a18 a19 a20 a21 a22 : Nat} {W0 : va_W} (C0 : CX p s m av meth c RX4 cX4_settled 2 (some .int) wsX4_settled D cI cS) (F : Nat) (ppl : Nat → Int32) (psp : Nat → Int32) (psy : Nat → Int32) (psh : Nat → Int32) (tpl : Nat → Int32) (tsp : Nat → Int32) (kpl : Nat → Int32) (ksp : Nat → Int32) (ksy : Nat → Int32) (ksh : Nat → Int32) (bs : Nat → Int32) (bt : Nat → Int32) (sz : Nat → Int32) (nm : Nat → Int32) (ik : Int32) (psc : Int32) (pnc : Int32) (pdy : Int32) (pzz : Int32) (tsc : Int32) (tnc : Int32) (tzz : Int32) (ksc : Int32) (knc : Int32) (kdy : Int32) (kzz : Int32) (ln : Int32) (so : Int32) (be : Int32) (en : Int32) (va : Int32) (z0 : Int32) (z1 : Nat → Int32) (z2 : Nat → Int32) (z3 : Nat → Int32) (z4 : Nat → Int32) (z5 : Nat → Int32) (z6 : Int32) (z7 : Int32) (z8 : Int32) (z9 : Int32) (hD : ∀ W : va_W, W.map Prod.fst = [a0, a1, a2, a3, a4, a5, a6, a7, a8, a9, a10, a11, a12, a13, a14, a15, a16, a17, a18, a19, a20, a21, a22] → va_D (wA W0) W) : ∀ (n : Nat) (v1 : Int32) (tsy : Nat → Int32) (tsh : Nat → Int32) (fd : Nat → Int32) (tdy : Int32) (H : Heap) (locs : List Loc), va_P D vwCl (wX4 cI cS a0 a1 a2 a3 a4 a5 a6 a7 a8 a9 a10 a11 a12 a13 a14 a15 a16 a17 a18 a19 a20 a21 a22 ppl psp psy psh tpl tsp tsy tsh kpl ksp ksy ksh bs bt sz nm fd ik psc pnc pdy pzz tsc tnc tdy tzz ksc knc kdy kzz ln so be en va) H → va_S (wA W0) s.heap H locs → ∀ (ls : Array Slot), lv_has ls 2 [(0, .ref a0), (1, .int v1)] → fX4_settled_13 F tpl tsp tsc tnc tzz n v1 tsy tsh fd tdy = some (z0, z1, z2, z3, z4, z5, z6, z7, z8, z9) → W p l e rmX4_settled s m av below meth c H locs 0 0 (MQ below (qI D W0 (wX4 cI cS a0 a1 a2 a3 a4 a5 a6 a7 a8 a9 a10 a11 a12 a13 a14 a15 a16 a17 a18 a19 a20 a21 a22 ppl psp psy psh z1 z2 z3 z4 kpl ksp ksy ksh bs bt sz nm z5 ik psc pnc pdy pzz z6 z7 z8 z9 ksc knc kdy kzz ln so be en va) z0) av s 0 0 (wA W0)) (F0 m 13 ls []) := by
  obtain ⟨hx, hb, hr, hml, hown, hts, hlk, hE⟩ := id C0
  have hinX0 : ∀ w ∈ u_ws RX0 TX0 8, w ∈ wsX4_settled := by decide +kernel
  have hinX4 : ∀ w ∈ u_ws RX4 TX4 7, w ∈ wsX4_settled := by decide +kernel
  intro n
  induction n with
  | zero =>
    intro v1 tsy tsh fd tdy H locs hP hS ls hl h
    cases (show none = some (z0, z1, z2, z3, z4, z5, z6, z7, z8, z9) from h)
  | succ n ih =>
    intro v1 tsy tsh fd tdy H locs hP hS ls hl h
    rw [fX4_settled_13] at h
    refine lv_iload_n hx hb dX4_settled_13 rfl (lv_at hl 1 rfl) ?_
    refine lv_sipush (v := 200) hx hb dX4_settled_14 (by decide) ?_
    refine lv_icmp_gt (tgt := 57) hx hb dX4_settled_17 (by decide) (fun c_1 => ?_) (fun c_1 => ?_)
    · have h := ifp c_1 h
      refine lv_aload_n hx hb dX4_settled_57 rfl (lv_at hl 0 rfl) ?_
      refine lv_ldc (v := (-1000004)) hx hb hown (hts _ (List.mem_of_getElem? (i := 3) rfl)) dX4_settled_58 ?_
      have hPc := hP.sub (ws' := (wX4 cI cS a0 a1 a2 a3 a4 a5 a6 a7 a8 a9 a10 a11 a12 a13 a14 a15 a16 a17 a18 a19 a20 a21 a22 ppl psp psy psh tpl tsp tsy tsh kpl ksp ksy ksh bs bt sz nm fd ik psc pnc pdy pzz tsc tnc tdy tzz ksc knc kdy kzz ln so be en va)) [0, 1, 2, 3, 4, 5, 6, 7, 8, 9, 10, 11, 12, 13, 14, 15, 16, 17, 18, 19, 20, 21, 22] rfl
      refine kMi (wf' := (wX4 cI cS a0 a1 a2 a3 a4 a5 a6 a7 a8 a9 a10 a11 a12 a13 a14 a15 a16 a17 a18 a19 a20 a21 a22 ppl psp psy psh tpl tsp tsy tsh kpl ksp ksy ksh bs bt sz nm (fX4_finding_o1 fd (-1000004)) ik psc pnc pdy pzz tsc tnc tdy tzz ksc knc kdy kzz ln so be en va)) [0, 1, 2, 3, 4, 5, 6, 7, 8, 9, 10, 11, 12, 13, 14, 15, 16, 17, 18, 19, 20, 21, 22] [some 0, some 1, some 2, some 3, some 4, some 5, some 6, some 7, some 8, some 9, some 10, some 11, some 12, some 13, some 14, some 15, some 16, some 17, some 18, some 19, some 20, some 21, some 22] (rV C0 (tX4_finding l D cI cS a0 a1 a2 a3 a4 a5 a6 a7 a8 a9 a10 a11 a12 a13 a14 a15 a16 a17 a18 a19 a20 a21 a22 ppl psp psy psh tpl tsp tsy tsh kpl ksp ksy ksh bs bt sz nm fd ik psc pnc pdy pzz tsc tnc tdy tzz ksc knc kdy kzz ln so be en va (-1000004) (-1000004) (fX4_finding_o1 fd (-1000004)) (eeX4_finding ..) (((hD (wX4 cI cS a0 a1 a2 a3 a4 a5 a6 a7 a8 a9 a10 a11 a12 a13 a14 a15 a16 a17 a18 a19 a20 a21 a22 ppl psp psy psh tpl tsp tsy tsh kpl ksp ksy ksh bs bt sz nm fd ik psc pnc pdy pzz tsc tnc tdy tzz ksc knc kdy kzz ln so be en va) rfl).sub [0, 1, 2, 3, 4, 5, 6, 7, 8, 9, 10, 11, 12, 13, 14, 15, 16, 17, 18, 19, 20, 21, 22] (by decide) rfl).weaken (fun _ _ _ _ => trivial))) RX4 gX4_settled_X4_finding rfl ⟨rfl, rfl⟩ pdX4_finding rfl ⟨Nat.le_of_ble_eq_true rfl, Nat.le_of_ble_eq_true rfl⟩ (fun _ _ _ _ q => q) (va_recv hE.1 hPc (ci := 3) (q0 := 0) rfl rfl) (fun U hU _ _ => by rw [hU]; exact hPc) hl.1 rfl (Nat.le_of_ble_eq_true rfl) dX4_settled_60 ⟨Nat.zero_le _, Nat.zero_le _⟩) hP (hD _ rfl) hS rfl rfl rfl (fun H locs hP hS => ?_)
      obtain ⟨q0, g0⟩ := Prod.mk.inj (Option.some.inj h)
      obtain ⟨q1, g1⟩ := Prod.mk.inj g0
      obtain ⟨q2, g2⟩ := Prod.mk.inj g1
      obtain ⟨q3, g3⟩ := Prod.mk.inj g2
      obtain ⟨q4, g4⟩ := Prod.mk.inj g3
      obtain ⟨q5, g5⟩ := Prod.mk.inj g4
      obtain ⟨q6, g6⟩ := Prod.mk.inj g5
      obtain ⟨q7, g7⟩ := Prod.mk.inj g6
      obtain ⟨q8, q9⟩ := Prod.mk.inj g7
      subst q0 q1 q2 q3 q4 q5 q6 q7 q8 q9
      exact eMi C0 hP hS rfl rfl dX4_settled_63
    · have h := ifn c_1 h
      refine lv_aload_n hx hb dX4_settled_20 rfl (lv_at hl 0 rfl) ?_
      refine va_get (D := D) (ci := 3) (v := .ref a6) (C := RX4) (T := TX4) (N := 7) hx hb hts hinX4 hown hE.1 hP 0 rfl rfl 1 (by decide) (hts _ (List.mem_of_getElem? (i := 1) rfl)) (fun _ h9 => h9) rfl dX4_settled_21 ?_
      obtain ⟨z_2, e_3, h⟩ := bds h
      have hPc := hP.sub (ws' := (wX0 cI cS a6 a7 a8 a9 a10 tpl tsp tsy tsh tsc tnc tdy tzz)) [6, 7, 8, 9, 10] rfl
      refine kRi (rV C0 (tX0_finishedSayings l D cI cS F a6 a7 a8 a9 a10 tpl tsp tsy tsh tsc tnc tdy tzz  z_2 e_3) RX0 gX4_settled_X0_finishedSayings rfl ⟨rfl, rfl⟩ pdX0_finishedSayings rfl ⟨Nat.le_of_ble_eq_true rfl, Nat.le_of_ble_eq_true rfl⟩ (fun _ _ _ _ q => q) (va_recv hE.1 hPc (ci := 0) (q0 := 0) rfl rfl) (fun U hU _ _ => by rw [hU]; exact hPc) hl.1 rfl (Nat.le_of_ble_eq_true rfl) dX4_settled_24 ⟨Nat.zero_le _, Nat.zero_le _⟩) ?_
      refine kRi (rS C0 (tJ6_bitCount_0f7a4 l D cI cS z_2 (fJ6_bitCount_0f7a4 z_2) rfl) gX4_settled_J6_bitCount_0f7a4 rfl ⟨rfl, rfl⟩ pdJ6_bitCount_0f7a4 rfl ⟨Nat.le_of_ble_eq_true rfl, Nat.le_of_ble_eq_true rfl⟩ (fun _ _ _ _ q => q) (fun _ _ _ _ => vp0) hl.1 rfl (Nat.le_of_ble_eq_true rfl) dX4_settled_27 ⟨Nat.zero_le _, Nat.zero_le _⟩) ?_
      refine lv_aload_n hx hb dX4_settled_30 rfl (lv_at hl 0 rfl) ?_
      refine va_get (D := D) (ci := 3) (v := .ref a6) (C := RX4) (T := TX4) (N := 7) hx hb hts hinX4 hown hE.1 hP 0 rfl rfl 1 (by decide) (hts _ (List.mem_of_getElem? (i := 1) rfl)) (fun _ h9 => h9) rfl dX4_settled_31 ?_
      refine va_getN (D := D) (ci := 0) (v := .int tsc) (C := RX0) (T := TX0) (N := 8) hx hb hts hinX0 hown hE.1 hP 6 rfl rfl 4 (by decide) (va_Nw.use rfl (hE.2 _ (List.mem_of_getElem? (i := 0) rfl))) (fun _ h9 => h9) rfl dX4_settled_34 ?_
      refine lv_icmp_ne (tgt := 42) hx hb dX4_settled_37 (by decide) (fun c_4 => ?_) (fun c_4 => ?_)
      · have h := ifn c_4 h
        refine lv_aload_n hx hb dX4_settled_42 rfl (lv_at hl 0 rfl) ?_
        refine va_get (D := D) (ci := 3) (v := .ref a6) (C := RX4) (T := TX4) (N := 7) hx hb hts hinX4 hown hE.1 hP 0 rfl rfl 1 (by decide) (hts _ (List.mem_of_getElem? (i := 1) rfl)) (fun _ h9 => h9) rfl dX4_settled_43 ?_
        refine lv_iconst (v := 1) hx hb dX4_settled_46 (by decide) ?_
        refine lv_iconst (v := 0) hx hb dX4_settled_47 (by decide) ?_
        obtain ⟨z_5, e_6, h⟩ := bds h
        have hPc := hP.sub (ws' := (wX0 cI cS a6 a7 a8 a9 a10 tpl tsp tsy tsh tsc tnc tdy tzz)) [6, 7, 8, 9, 10] rfl
        refine kMv (wf' := (wX4 cI cS a0 a1 a2 a3 a4 a5 a6 a7 a8 a9 a10 a11 a12 a13 a14 a15 a16 a17 a18 a19 a20 a21 a22 ppl psp psy psh tpl tsp z_5.1 z_5.2.1 kpl ksp ksy ksh bs bt sz nm fd ik psc pnc pdy pzz tsc tnc z_5.2.2 tzz ksc knc kdy kzz ln so be en va)) [6, 7, 8, 9, 10] [none, none, none, none, none, none, some 0, some 1, some 2, some 3, some 4, none, none, none, none, none, none, none, none, none, none, none, none] (rV C0 (tX0_passDays l D cI cS F a6 a7 a8 a9 a10 tpl tsp tsy tsh tsc tnc tdy tzz 1 0 z_5.1 z_5.2.1 z_5.2.2 e_6 (((hD (wX4 cI cS a0 a1 a2 a3 a4 a5 a6 a7 a8 a9 a10 a11 a12 a13 a14 a15 a16 a17 a18 a19 a20 a21 a22 ppl psp psy psh tpl tsp tsy tsh kpl ksp ksy ksh bs bt sz nm fd ik psc pnc pdy pzz tsc tnc tdy tzz ksc knc kdy kzz ln so be en va) rfl).sub [6, 7, 8, 9, 10] (by decide) rfl).weaken (fun _ _ _ _ => trivial))) RX0 gX4_settled_X0_passDays rfl ⟨rfl, rfl⟩ pdX0_passDays rfl ⟨Nat.le_of_ble_eq_true rfl, Nat.le_of_ble_eq_true rfl⟩ (fun _ _ _ _ q => q) (va_recv hE.1 hPc (ci := 0) (q0 := 0) rfl rfl) (fun U hU _ _ => by rw [hU]; exact hPc) hl.1 rfl (Nat.le_of_ble_eq_true rfl) dX4_settled_48 ⟨Nat.zero_le _, Nat.zero_le _⟩) hP (hD _ rfl) hS rfl rfl rfl (fun H locs hP hS => ?_)
        refine lv_iinc (v := v1 + 1) (lv' := [(1, .int (v1 + 1)), (0, .ref a0)]) hx hb dX4_settled_51 hl (k := 1) rfl rfl (by decide) rfl (fun ls hl => ?_)
        refine lv_goto (tgt := 13) hx hb dX4_settled_54 (by decide) ?_
        exact ih (v1 + 1) z_5.1 z_5.2.1 fd z_5.2.2 _ _ hP hS _ (lv_sub hl [1, 0] rfl) h
      · have h := ifp c_4 h
        refine lv_iload_n hx hb dX4_settled_40 rfl (lv_at hl 1 rfl) ?_
        obtain ⟨q0, g0⟩ := Prod.mk.inj (Option.some.inj h)
        obtain ⟨q1, g1⟩ := Prod.mk.inj g0
        obtain ⟨q2, g2⟩ := Prod.mk.inj g1
        obtain ⟨q3, g3⟩ := Prod.mk.inj g2
        obtain ⟨q4, g4⟩ := Prod.mk.inj g3
        obtain ⟨q5, g5⟩ := Prod.mk.inj g4
        obtain ⟨q6, g6⟩ := Prod.mk.inj g5
        obtain ⟨q7, g7⟩ := Prod.mk.inj g6
        obtain ⟨q8, q9⟩ := Prod.mk.inj g7
        subst q0 q1 q2 q3 q4 q5 q6 q7 q8 q9
        exact eMi C0 hP hS rfl rfl dX4_settled_41
set_option maxHeartbeats 4000000 in
set_option maxRecDepth 100000 in
theorem tX4_settled (l : Launch) (D : va_G) (cI cS : ClassId) (F : Nat) (a0 a1 a2 a3 a4 a5 a6 a7 a8 a9 a10 a11 a12 a13 a14 a15 a16 a17 a18 a19 a20 a21 a22 : Nat) (ppl : Nat → Int32) (psp : Nat → Int32) (psy : Nat → Int32) (psh : Nat → Int32) (tpl : Nat → Int32) (tsp : Nat → Int32) (tsy : Nat → Int32) (tsh : Nat → Int32) (kpl : Nat → Int32) (ksp : Nat → Int32) (ksy : Nat → Int32) (ksh : Nat → Int32) (bs : Nat → Int32) (bt : Nat → Int32) (sz : Nat → Int32) (nm : Nat → Int32) (fd : Nat → Int32) (ik : Int32) (psc : Int32) (pnc : Int32) (pdy : Int32) (pzz : Int32) (tsc : Int32) (tnc : Int32) (tdy : Int32) (tzz : Int32) (ksc : Int32) (knc : Int32) (kdy : Int32) (kzz : Int32) (ln : Int32) (so : Int32) (be : Int32) (en : Int32) (va : Int32) (z0 : Int32) (z1 : Nat → Int32) (z2 : Nat → Int32) (z3 : Nat → Int32) (z4 : Nat → Int32) (z5 : Nat → Int32) (z6 : Int32) (z7 : Int32) (z8 : Int32) (z9 : Int32) (h : fX4_settled F ppl psp psy psh tpl tsp tsy tsh fd psc pnc pdy pzz tsc tnc tdy tzz = some (z0, z1, z2, z3, z4, z5, z6, z7, z8, z9)) (hD0 : va_D (fun _ => True) (wX4 cI cS a0 a1 a2 a3 a4 a5 a6 a7 a8 a9 a10 a11 a12 a13 a14 a15 a16 a17 a18 a19 a20 a21 a22 ppl psp psy psh tpl tsp tsy tsh kpl ksp ksy ksh bs bt sz nm fd ik psc pnc pdy pzz tsc tnc tdy tzz ksc knc kdy kzz ln so be en va)) : Met l yX4_settled wsX4_settled rmX4_settled (PZ D cI cS [.ref a0] (fun U => va_P D vwCl (wX4 cI cS a0 a1 a2 a3 a4 a5 a6 a7 a8 a9 a10 a11 a12 a13 a14 a15 a16 a17 a18 a19 a20 a21 a22 ppl psp psy psh tpl tsp tsy tsh kpl ksp ksy ksh bs bt sz nm fd ik psc pnc pdy pzz tsc tnc tdy tzz ksc knc kdy kzz ln so be en va) U.heap)) (qI D (wX4 cI cS a0 a1 a2 a3 a4 a5 a6 a7 a8 a9 a10 a11 a12 a13 a14 a15 a16 a17 a18 a19 a20 a21 a22 ppl psp psy psh tpl tsp tsy tsh kpl ksp ksy ksh bs bt sz nm fd ik psc pnc pdy pzz tsc tnc tdy tzz ksc knc kdy kzz ln so be en va) (wX4 cI cS a0 a1 a2 a3 a4 a5 a6 a7 a8 a9 a10 a11 a12 a13 a14 a15 a16 a17 a18 a19 a20 a21 a22 ppl psp psy psh z1 z2 z3 z4 kpl ksp ksy ksh bs bt sz nm z5 ik psc pnc pdy pzz z6 z7 z8 z9 ksc knc kdy kzz ln so be en va) z0) 0 0 (wA (wX4 cI cS a0 a1 a2 a3 a4 a5 a6 a7 a8 a9 a10 a11 a12 a13 a14 a15 a16 a17 a18 a19 a20 a21 a22 ppl psp psy psh tpl tsp tsy tsh kpl ksp ksy ksh bs bt sz nm fd ik psc pnc pdy pzz tsc tnc tdy tzz ksc knc kdy kzz ln so be en va)) := by
  refine Met.mk RX4 (by decide) rfl rfl (Nat.le_of_ble_eq_true rfl) ?_
  intro p e s m below meth c ls C0 hP hl
  have hl : lv_has ls 2 [(0, .ref a0)] := hl
  obtain ⟨hx, hb, hr, hml, hown, hts, hlk, hE⟩ := id C0
  have hinX0 : ∀ w ∈ u_ws RX0 TX0 8, w ∈ wsX4_settled := by decide +kernel
  have hinX4 : ∀ w ∈ u_ws RX4 TX4 7, w ∈ wsX4_settled := by decide +kernel
  have hD : ∀ W : va_W, W.map Prod.fst = [a0, a1, a2, a3, a4, a5, a6, a7, a8, a9, a10, a11, a12, a13, a14, a15, a16, a17, a18, a19, a20, a21, a22] → va_D (wA (wX4 cI cS a0 a1 a2 a3 a4 a5 a6 a7 a8 a9 a10 a11 a12 a13 a14 a15 a16 a17 a18 a19 a20 a21 a22 ppl psp psy psh tpl tsp tsy tsh kpl ksp ksy ksh bs bt sz nm fd ik psc pnc pdy pzz tsc tnc tdy tzz ksc knc kdy kzz ln so be en va)) W := fun W hW => hD0.own.re hW
  have hS : va_S (wA (wX4 cI cS a0 a1 a2 a3 a4 a5 a6 a7 a8 a9 a10 a11 a12 a13 a14 a15 a16 a17 a18 a19 a20 a21 a22 ppl psp psy psh tpl tsp tsy tsh kpl ksp ksy ksh bs bt sz nm fd ik psc pnc pdy pzz tsc tnc tdy tzz ksc knc kdy kzz ln so be en va)) s.heap s.heap [] := va_S.rf
  have hP : va_P D vwCl (wX4 cI cS a0 a1 a2 a3 a4 a5 a6 a7 a8 a9 a10 a11 a12 a13 a14 a15 a16 a17 a18 a19 a20 a21 a22 ppl psp psy psh tpl tsp tsy tsh kpl ksp ksy ksh bs bt sz nm fd ik psc pnc pdy pzz tsc tnc tdy tzz ksc knc kdy kzz ln so be en va) s.heap := hP
  rw [fX4_settled] at h
  refine lv_aload_n hx hb dX4_settled_0 rfl (lv_at hl 0 rfl) ?_
  refine va_get (D := D) (ci := 3) (v := .ref a6) (C := RX4) (T := TX4) (N := 7) hx hb hts hinX4 hown hE.1 hP 0 rfl rfl 1 (by decide) (hts _ (List.mem_of_getElem? (i := 1) rfl)) (fun _ h9 => h9) rfl dX4_settled_1 ?_
  refine lv_aload_n hx hb dX4_settled_4 rfl (lv_at hl 0 rfl) ?_
  refine va_get (D := D) (ci := 3) (v := .ref a1) (C := RX4) (T := TX4) (N := 7) hx hb hts hinX4 hown hE.1 hP 0 rfl rfl 0 (by decide) (hts _ (List.mem_of_getElem? (i := 2) rfl)) (fun _ h9 => h9) rfl dX4_settled_5 ?_
  have hPc := hP.sub (ws' := (wE2 cI cS a6 a7 a8 a9 a10 a1 a2 a3 a4 a5 tpl tsp tsy tsh ppl psp psy psh tsc tnc tdy tzz psc pnc pdy pzz)) [6, 7, 8, 9, 10, 1, 2, 3, 4, 5] rfl
  refine kMv (wf' := (wX4 cI cS a0 a1 a2 a3 a4 a5 a6 a7 a8 a9 a10 a11 a12 a13 a14 a15 a16 a17 a18 a19 a20 a21 a22 ppl psp psy psh (fX0_become_o0 tpl tsp tsy tsh ppl psp psy psh tsc tnc tdy tzz psc pnc pdy pzz) (fX0_become_o1 tpl tsp tsy tsh ppl psp psy psh tsc tnc tdy tzz psc pnc pdy pzz) (fX0_become_o2 tpl tsp tsy tsh ppl psp psy psh tsc tnc tdy tzz psc pnc pdy pzz) (fX0_become_o3 tpl tsp tsy tsh ppl psp psy psh tsc tnc tdy tzz psc pnc pdy pzz) kpl ksp ksy ksh bs bt sz nm fd ik psc pnc pdy pzz (fX0_become_o4 tpl tsp tsy tsh ppl psp psy psh tsc tnc tdy tzz psc pnc pdy pzz) (fX0_become_o5 tpl tsp tsy tsh ppl psp psy psh tsc tnc tdy tzz psc pnc pdy pzz) (fX0_become_o6 tpl tsp tsy tsh ppl psp psy psh tsc tnc tdy tzz psc pnc pdy pzz) (fX0_become_o7 tpl tsp tsy tsh ppl psp psy psh tsc tnc tdy tzz psc pnc pdy pzz) ksc knc kdy kzz ln so be en va)) [6, 7, 8, 9, 10, 1, 2, 3, 4, 5] [none, some 5, some 6, some 7, some 8, some 9, some 0, some 1, some 2, some 3, some 4, none, none, none, none, none, none, none, none, none, none, none, none] (rV C0 (tX0_become l D cI cS a6 a7 a8 a9 a10 a1 a2 a3 a4 a5 tpl tsp tsy tsh ppl psp psy psh tsc tnc tdy tzz psc pnc pdy pzz  (fX0_become_o0 tpl tsp tsy tsh ppl psp psy psh tsc tnc tdy tzz psc pnc pdy pzz) (fX0_become_o1 tpl tsp tsy tsh ppl psp psy psh tsc tnc tdy tzz psc pnc pdy pzz) (fX0_become_o2 tpl tsp tsy tsh ppl psp psy psh tsc tnc tdy tzz psc pnc pdy pzz) (fX0_become_o3 tpl tsp tsy tsh ppl psp psy psh tsc tnc tdy tzz psc pnc pdy pzz) (fX0_become_o4 tpl tsp tsy tsh ppl psp psy psh tsc tnc tdy tzz psc pnc pdy pzz) (fX0_become_o5 tpl tsp tsy tsh ppl psp psy psh tsc tnc tdy tzz psc pnc pdy pzz) (fX0_become_o6 tpl tsp tsy tsh ppl psp psy psh tsc tnc tdy tzz psc pnc pdy pzz) (fX0_become_o7 tpl tsp tsy tsh ppl psp psy psh tsc tnc tdy tzz psc pnc pdy pzz) (eeX0_become ..) (((hD (wX4 cI cS a0 a1 a2 a3 a4 a5 a6 a7 a8 a9 a10 a11 a12 a13 a14 a15 a16 a17 a18 a19 a20 a21 a22 ppl psp psy psh tpl tsp tsy tsh kpl ksp ksy ksh bs bt sz nm fd ik psc pnc pdy pzz tsc tnc tdy tzz ksc knc kdy kzz ln so be en va) rfl).sub [6, 7, 8, 9, 10, 1, 2, 3, 4, 5] (by decide) rfl).weaken (fun _ _ _ _ => trivial))) RX0 gX4_settled_X0_become rfl ⟨rfl, rfl⟩ pdX0_become rfl ⟨Nat.le_of_ble_eq_true rfl, Nat.le_of_ble_eq_true rfl⟩ (fun _ _ _ _ q => q) (va_recv hE.1 hPc (ci := 0) (q0 := 0) rfl rfl) (fun U hU _ _ => by rw [hU]; exact hPc) hl.1 rfl (Nat.le_of_ble_eq_true rfl) dX4_settled_8 ⟨Nat.zero_le _, Nat.zero_le _⟩) hP (hD _ rfl) hS rfl rfl rfl (fun H locs hP hS => ?_)
  refine lv_iconst (v := 0) hx hb dX4_settled_11 (by decide) ?_
  refine lv_istore_n (lv' := [(1, .int 0), (0, .ref a0)]) hx hb dX4_settled_12 rfl hl (by decide) rfl (fun ls hl => ?_)
  exact lX4_settled_13 (l := l) (e := e) (below := below) C0 F ppl psp psy psh (fX0_become_o0 tpl tsp tsy tsh ppl psp psy psh tsc tnc tdy tzz psc pnc pdy pzz) (fX0_become_o1 tpl tsp tsy tsh ppl psp psy psh tsc tnc tdy tzz psc pnc pdy pzz) kpl ksp ksy ksh bs bt sz nm ik psc pnc pdy pzz (fX0_become_o4 tpl tsp tsy tsh ppl psp psy psh tsc tnc tdy tzz psc pnc pdy pzz) (fX0_become_o5 tpl tsp tsy tsh ppl psp psy psh tsc tnc tdy tzz psc pnc pdy pzz) (fX0_become_o7 tpl tsp tsy tsh ppl psp psy psh tsc tnc tdy tzz psc pnc pdy pzz) ksc knc kdy kzz ln so be en va z0 z1 z2 z3 z4 z5 z6 z7 z8 z9 hD F 0 (fX0_become_o2 tpl tsp tsy tsh ppl psp psy psh tsc tnc tdy tzz psc pnc pdy pzz) (fX0_become_o3 tpl tsp tsy tsh ppl psp psy psh tsc tnc tdy tzz psc pnc pdy pzz) fd (fX0_become_o6 tpl tsp tsy tsh ppl psp psy psh tsc tnc tdy tzz psc pnc pdy pzz) _ _ hP hS _ (lv_sub hl [1, 0] rfl) h
def fX4_finishFor_34 (F : Nat) (ppl : Nat → Int32) (psp : Nat → Int32) (psy : Nat → Int32) (psh : Nat → Int32) (fd : Nat → Int32) (psc : Int32) (pnc : Int32) (pdy : Int32) (pzz : Int32) (v1 : Int32) (v2 : Int32) : Nat → Int32 → Int32 → Int32 → (Nat → Int32) → (Nat → Int32) → (Nat → Int32) → (Nat → Int32) → Int32 → Int32 → Int32 → Int32 → Option (Int32 × (Nat → Int32) × (Nat → Int32) × (Nat → Int32) × (Nat → Int32) × (Nat → Int32) × Int32 × Int32 × Int32 × Int32)
  | 0, _, _, _, _, _, _, _, _, _, _, _ => none
  | n + 1, v3, v4, v5, tpl, tsp, tsy, tsh, tsc, tnc, tdy, tzz => (if 8 < v5 then some (v3, tpl, tsp, tsy, tsh, fd, tsc, tnc, tdy, tzz) else Option.bind (fX0_passDays F (fX0_setPlace (fX0_become_o0 tpl tsp tsy tsh ppl psp psy psh tsc tnc tdy tzz psc pnc pdy pzz) v1 v5) (fX0_become_o2 tpl tsp tsy tsh ppl psp psy psh tsc tnc tdy tzz psc pnc pdy pzz) (fX0_become_o3 tpl tsp tsy tsh ppl psp psy psh tsc tnc tdy tzz psc pnc pdy pzz) (fX0_become_o4 tpl tsp tsy tsh ppl psp psy psh tsc tnc tdy tzz psc pnc pdy pzz) (fX0_become_o5 tpl tsp tsy tsh ppl psp psy psh tsc tnc tdy tzz psc pnc pdy pzz) (fX0_become_o6 tpl tsp tsy tsh ppl psp psy psh tsc tnc tdy tzz psc pnc pdy pzz) v2 63) (fun z_4 => Option.bind (fX0_waitedTogether F z_4.2.1 (fX0_become_o5 tpl tsp tsy tsh ppl psp psy psh tsc tnc tdy tzz psc pnc pdy pzz)) (fun z_6 => (if v4 ≤ z_6 then fX4_finishFor_34 F ppl psp psy psh fd psc pnc pdy pzz v1 v2 n v3 v4 (v5 + 1) (fX0_setPlace (fX0_become_o0 tpl tsp tsy tsh ppl psp psy psh tsc tnc tdy tzz psc pnc pdy pzz) v1 v5) (fX0_become_o1 tpl tsp tsy tsh ppl psp psy psh tsc tnc tdy tzz psc pnc pdy pzz) z_4.1 z_4.2.1 (fX0_become_o4 tpl tsp tsy tsh ppl psp psy psh tsc tnc tdy tzz psc pnc pdy pzz) (fX0_become_o5 tpl tsp tsy tsh ppl psp psy psh tsc tnc tdy tzz psc pnc pdy pzz) z_4.2.2 (fX0_become_o7 tpl tsp tsy tsh ppl psp psy psh tsc tnc tdy tzz psc pnc pdy pzz) else fX4_finishFor_34 F ppl psp psy psh fd psc pnc pdy pzz v1 v2 n v5 z_6 (v5 + 1) (fX0_setPlace (fX0_become_o0 tpl tsp tsy tsh ppl psp psy psh tsc tnc tdy tzz psc pnc pdy pzz) v1 v5) (fX0_become_o1 tpl tsp tsy tsh ppl psp psy psh tsc tnc tdy tzz psc pnc pdy pzz) z_4.1 z_4.2.1 (fX0_become_o4 tpl tsp tsy tsh ppl psp psy psh tsc tnc tdy tzz psc pnc pdy pzz) (fX0_become_o5 tpl tsp tsy tsh ppl psp psy psh tsc tnc tdy tzz psc pnc pdy pzz) z_4.2.2 (fX0_become_o7 tpl tsp tsy tsh ppl psp psy psh tsc tnc tdy tzz psc pnc pdy pzz)))))
def fX4_finishFor (F : Nat) (ppl : Nat → Int32) (psp : Nat → Int32) (psy : Nat → Int32) (psh : Nat → Int32) (tpl : Nat → Int32) (tsp : Nat → Int32) (tsy : Nat → Int32) (tsh : Nat → Int32) (fd : Nat → Int32) (psc : Int32) (pnc : Int32) (pdy : Int32) (pzz : Int32) (tsc : Int32) (tnc : Int32) (tdy : Int32) (tzz : Int32) (v1 : Int32) (v2 : Int32) : Option (Int32 × (Nat → Int32) × (Nat → Int32) × (Nat → Int32) × (Nat → Int32) × (Nat → Int32) × Int32 × Int32 × Int32 × Int32) := (if (fX4_isPlace v1) = 0 then some ((-1000001), tpl, tsp, tsy, tsh, fX4_finding_o1 fd (-1000001), tsc, tnc, tdy, tzz) else (if (fX4_within v2 0 40) = 0 then some ((-1000001), tpl, tsp, tsy, tsh, fX4_finding_o1 fd (-1000001), tsc, tnc, tdy, tzz) else fX4_finishFor_34 F ppl psp psy psh fd psc pnc pdy pzz v1 v2 F 8 59995 0 tpl tsp tsy tsh tsc tnc tdy tzz))
abbrev rmX4_finishFor : Room := { frames := 5, cells := 0, slots := 0, locals := 120 }
theorem pdX4_finishFor : (yX4_finishFor.cls = RX4 ∧ yX4_finishFor.cls ≠ "java/lang/invoke/MethodHandle" ∧ yX4_finishFor.cls ≠ "java/lang/invoke/VarHandle" ∧ (parseMethodDescriptor yX4_finishFor.desc).map (fun d => d.parameters.length) = some 2) := by decide +kernel
set_option maxHeartbeats 4000000 in
set_option maxRecDepth 100000 in
theorem lX4_finishFor_34 {p : Program} {l : Launch} {e : Env} {s : State} {m : MethodId} {av : Array Value} {below : List Frame} {meth : Method} {c : Code} {D : va_G} {cI cS : ClassId} {a0 a1 a2 a3 a4 a5 a6 a7 a8 a9 a10 a11 a12 a13 a14 a15 a16 a17 a18 a19 a20 a21 a22 : Nat} {W0 : va_W} (C0 : CX p s m av meth c RX4 cX4_finishFor 7 (some .int) wsX4_finishFor D cI cS) (F : Nat) (ppl : Nat → Int32) (psp : Nat → Int32) (psy : Nat → Int32) (psh : Nat → Int32) (kpl : Nat → Int32) (ksp : Nat → Int32) (ksy : Nat → Int32) (ksh : Nat → Int32) (bs : Nat → Int32) (bt : Nat → Int32) (sz : Nat → Int32) (nm : Nat → Int32) (fd : Nat → Int32) (ik : Int32) (psc : Int32) (pnc : Int32) (pdy : Int32) (pzz : Int32) (ksc : Int32) (knc : Int32) (kdy : Int32) (kzz : Int32) (ln : Int32) (so : Int32) (be : Int32) (en : Int32) (va : Int32) (v1 : Int32) (v2 : Int32) (z0 : Int32) (z1 : Nat → Int32) (z2 : Nat → Int32) (z3 : Nat → Int32) (z4 : Nat → Int32) (z5 : Nat → Int32) (z6 : Int32) (z7 : Int32) (z8 : Int32) (z9 : Int32) (hD : ∀ W : va_W, W.map Prod.fst = [a0, a1, a2, a3, a4, a5, a6, a7, a8, a9, a10, a11, a12, a13, a14, a15, a16, a17, a18, a19, a20, a21, a22] → va_D (wA W0) W) : ∀ (n : Nat) (v3 : Int32) (v4 : Int32) (v5 : Int32) (tpl : Nat → Int32) (tsp : Nat → Int32) (tsy : Nat → Int32) (tsh : Nat → Int32) (tsc : Int32) (tnc : Int32) (tdy : Int32) (tzz : Int32) (H : Heap) (locs : List Loc), va_P D vwCl (wX4 cI cS a0 a1 a2 a3 a4 a5 a6 a7 a8 a9 a10 a11 a12 a13 a14 a15 a16 a17 a18 a19 a20 a21 a22 ppl psp psy psh tpl tsp tsy tsh kpl ksp ksy ksh bs bt sz nm fd ik psc pnc pdy pzz tsc tnc tdy tzz ksc knc kdy kzz ln so be en va) H → va_S (wA W0) s.heap H locs → ∀ (ls : Array Slot), lv_has ls 7 [(0, .ref a0), (1, .int v1), (2, .int v2), (3, .int v3), (4, .int v4), (5, .int v5)] → fX4_finishFor_34 F ppl psp psy psh fd psc pnc pdy pzz v1 v2 n v3 v4 v5 tpl tsp tsy tsh tsc tnc tdy tzz = some (z0, z1, z2, z3, z4, z5, z6, z7, z8, z9) → W p l e rmX4_finishFor s m av below meth c H locs 0 0 (MQ below (qI D W0 (wX4 cI cS a0 a1 a2 a3 a4 a5 a6 a7 a8 a9 a10 a11 a12 a13 a14 a15 a16 a17 a18 a19 a20 a21 a22 ppl psp psy psh z1 z2 z3 z4 kpl ksp ksy ksh bs bt sz nm z5 ik psc pnc pdy pzz z6 z7 z8 z9 ksc knc kdy kzz ln so be en va) z0) av s 0 0 (wA W0)) (F0 m 34 ls []) := by
  obtain ⟨hx, hb, hr, hml, hown, hts, hlk, hE⟩ := id C0
  have hinX4 : ∀ w ∈ u_ws RX4 TX4 7, w ∈ wsX4_finishFor := by decide +kernel
  intro n
  induction n with
  | zero =>
    intro v3 v4 v5 tpl tsp tsy tsh tsc tnc tdy tzz H locs hP hS ls hl h
    cases (show none = some (z0, z1, z2, z3, z4, z5, z6, z7, z8, z9) from h)
  | succ n ih =>
    intro v3 v4 v5 tpl tsp tsy tsh tsc tnc tdy tzz H locs hP hS ls hl h
    rw [fX4_finishFor_34] at h
    refine lv_iload hx hb dX4_finishFor_34 (lv_at hl 5 rfl) ?_
    refine lv_bipush (v := 8) hx hb dX4_finishFor_36 (by decide) ?_
    refine lv_icmp_gt (tgt := 101) hx hb dX4_finishFor_38 (by decide) (fun c_3 => ?_) (fun c_3 => ?_)
    · have h := ifp c_3 h
      refine lv_iload_n hx hb dX4_finishFor_101 rfl (lv_at hl 3 rfl) ?_
      obtain ⟨q0, g0⟩ := Prod.mk.inj (Option.some.inj h)
      obtain ⟨q1, g1⟩ := Prod.mk.inj g0
      obtain ⟨q2, g2⟩ := Prod.mk.inj g1
      obtain ⟨q3, g3⟩ := Prod.mk.inj g2
      obtain ⟨q4, g4⟩ := Prod.mk.inj g3
      obtain ⟨q5, g5⟩ := Prod.mk.inj g4
      obtain ⟨q6, g6⟩ := Prod.mk.inj g5
      obtain ⟨q7, g7⟩ := Prod.mk.inj g6
      obtain ⟨q8, q9⟩ := Prod.mk.inj g7
      subst q0 q1 q2 q3 q4 q5 q6 q7 q8 q9
      exact eMi C0 hP hS rfl rfl dX4_finishFor_102
    · have h := ifn c_3 h
      refine lv_aload_n hx hb dX4_finishFor_41 rfl (lv_at hl 0 rfl) ?_
      refine va_get (D := D) (ci := 3) (v := .ref a6) (C := RX4) (T := TX4) (N := 7) hx hb hts hinX4 hown hE.1 hP 0 rfl rfl 1 (by decide) (hts _ (List.mem_of_getElem? (i := 3) rfl)) (fun _ h9 => h9) rfl dX4_finishFor_42 ?_
      refine lv_aload_n hx hb dX4_finishFor_45 rfl (lv_at hl 0 rfl) ?_
      refine va_get (D := D) (ci := 3) (v := .ref a1) (C := RX4) (T := TX4) (N := 7) hx hb hts hinX4 hown hE.1 hP 0 rfl rfl 0 (by decide) (hts _ (List.mem_of_getElem? (i := 4) rfl)) (fun _ h9 => h9) rfl dX4_finishFor_46 ?_
      have hPc := hP.sub (ws' := (wE2 cI cS a6 a7 a8 a9 a10 a1 a2 a3 a4 a5 tpl tsp tsy tsh ppl psp psy psh tsc tnc tdy tzz psc pnc pdy pzz)) [6, 7, 8, 9, 10, 1, 2, 3, 4, 5] rfl
      refine kMv (wf' := (wX4 cI cS a0 a1 a2 a3 a4 a5 a6 a7 a8 a9 a10 a11 a12 a13 a14 a15 a16 a17 a18 a19 a20 a21 a22 ppl psp psy psh (fX0_become_o0 tpl tsp tsy tsh ppl psp psy psh tsc tnc tdy tzz psc pnc pdy pzz) (fX0_become_o1 tpl tsp tsy tsh ppl psp psy psh tsc tnc tdy tzz psc pnc pdy pzz) (fX0_become_o2 tpl tsp tsy tsh ppl psp psy psh tsc tnc tdy tzz psc pnc pdy pzz) (fX0_become_o3 tpl tsp tsy tsh ppl psp psy psh tsc tnc tdy tzz psc pnc pdy pzz) kpl ksp ksy ksh bs bt sz nm fd ik psc pnc pdy pzz (fX0_become_o4 tpl tsp tsy tsh ppl psp psy psh tsc tnc tdy tzz psc pnc pdy pzz) (fX0_become_o5 tpl tsp tsy tsh ppl psp psy psh tsc tnc tdy tzz psc pnc pdy pzz) (fX0_become_o6 tpl tsp tsy tsh ppl psp psy psh tsc tnc tdy tzz psc pnc pdy pzz) (fX0_become_o7 tpl tsp tsy tsh ppl psp psy psh tsc tnc tdy tzz psc pnc pdy pzz) ksc knc kdy kzz ln so be en va)) [6, 7, 8, 9, 10, 1, 2, 3, 4, 5] [none, some 5, some 6, some 7, some 8, some 9, some 0, some 1, some 2, some 3, some 4, none, none, none, none, none, none, none, none, none, none, none, none] (rV C0 (tX0_become l D cI cS a6 a7 a8 a9 a10 a1 a2 a3 a4 a5 tpl tsp tsy tsh ppl psp psy psh tsc tnc tdy tzz psc pnc pdy pzz  (fX0_become_o0 tpl tsp tsy tsh ppl psp psy psh tsc tnc tdy tzz psc pnc pdy pzz) (fX0_become_o1 tpl tsp tsy tsh ppl psp psy psh tsc tnc tdy tzz psc pnc pdy pzz) (fX0_become_o2 tpl tsp tsy tsh ppl psp psy psh tsc tnc tdy tzz psc pnc pdy pzz) (fX0_become_o3 tpl tsp tsy tsh ppl psp psy psh tsc tnc tdy tzz psc pnc pdy pzz) (fX0_become_o4 tpl tsp tsy tsh ppl psp psy psh tsc tnc tdy tzz psc pnc pdy pzz) (fX0_become_o5 tpl tsp tsy tsh ppl psp psy psh tsc tnc tdy tzz psc pnc pdy pzz) (fX0_become_o6 tpl tsp tsy tsh ppl psp psy psh tsc tnc tdy tzz psc pnc pdy pzz) (fX0_become_o7 tpl tsp tsy tsh ppl psp psy psh tsc tnc tdy tzz psc pnc pdy pzz) (eeX0_become ..) (((hD (wX4 cI cS a0 a1 a2 a3 a4 a5 a6 a7 a8 a9 a10 a11 a12 a13 a14 a15 a16 a17 a18 a19 a20 a21 a22 ppl psp psy psh tpl tsp tsy tsh kpl ksp ksy ksh bs bt sz nm fd ik psc pnc pdy pzz tsc tnc tdy tzz ksc knc kdy kzz ln so be en va) rfl).sub [6, 7, 8, 9, 10, 1, 2, 3, 4, 5] (by decide) rfl).weaken (fun _ _ _ _ => trivial))) RX0 gX4_finishFor_X0_become rfl ⟨rfl, rfl⟩ pdX0_become rfl ⟨Nat.le_of_ble_eq_true rfl, Nat.le_of_ble_eq_true rfl⟩ (fun _ _ _ _ q => q) (va_recv hE.1 hPc (ci := 0) (q0 := 0) rfl rfl) (fun U hU _ _ => by rw [hU]; exact hPc) hl.1 rfl (Nat.le_of_ble_eq_true rfl) dX4_finishFor_49 ⟨Nat.zero_le _, Nat.zero_le _⟩) hP (hD _ rfl) hS rfl rfl rfl (fun H locs hP hS => ?_)
      refine lv_aload_n hx hb dX4_finishFor_52 rfl (lv_at hl 0 rfl) ?_
      refine va_get (D := D) (ci := 3) (v := .ref a6) (C := RX4) (T := TX4) (N := 7) hx hb hts hinX4 hown hE.1 hP 0 rfl rfl 1 (by decide) (hts _ (List.mem_of_getElem? (i := 3) rfl)) (fun _ h9 => h9) rfl dX4_finishFor_53 ?_
      refine lv_iload_n hx hb dX4_finishFor_56 rfl (lv_at hl 1 rfl) ?_
      refine lv_iload hx hb dX4_finishFor_57 (lv_at hl 5 rfl) ?_
      have hPc := hP.sub (ws' := (wX0 cI cS a6 a7 a8 a9 a10 (fX0_become_o0 tpl tsp tsy tsh ppl psp psy psh tsc tnc tdy tzz psc pnc pdy pzz) (fX0_become_o1 tpl tsp tsy tsh ppl psp psy psh tsc tnc tdy tzz psc pnc pdy pzz) (fX0_become_o2 tpl tsp tsy tsh ppl psp psy psh tsc tnc tdy tzz psc pnc pdy pzz) (fX0_become_o3 tpl tsp tsy tsh ppl psp psy psh tsc tnc tdy tzz psc pnc pdy pzz) (fX0_become_o4 tpl tsp tsy tsh ppl psp psy psh tsc tnc tdy tzz psc pnc pdy pzz) (fX0_become_o5 tpl tsp tsy tsh ppl psp psy psh tsc tnc tdy tzz psc pnc pdy pzz) (fX0_become_o6 tpl tsp tsy tsh ppl psp psy psh tsc tnc tdy tzz psc pnc pdy pzz) (fX0_become_o7 tpl tsp tsy tsh ppl psp psy psh tsc tnc tdy tzz psc pnc pdy pzz))) [6, 7, 8, 9, 10] rfl
      refine kMv (wf' := (wX4 cI cS a0 a1 a2 a3 a4 a5 a6 a7 a8 a9 a10 a11 a12 a13 a14 a15 a16 a17 a18 a19 a20 a21 a22 ppl psp psy psh (fX0_setPlace (fX0_become_o0 tpl tsp tsy tsh ppl psp psy psh tsc tnc tdy tzz psc pnc pdy pzz) v1 v5) (fX0_become_o1 tpl tsp tsy tsh ppl psp psy psh tsc tnc tdy tzz psc pnc pdy pzz) (fX0_become_o2 tpl tsp tsy tsh ppl psp psy psh tsc tnc tdy tzz psc pnc pdy pzz) (fX0_become_o3 tpl tsp tsy tsh ppl psp psy psh tsc tnc tdy tzz psc pnc pdy pzz) kpl ksp ksy ksh bs bt sz nm fd ik psc pnc pdy pzz (fX0_become_o4 tpl tsp tsy tsh ppl psp psy psh tsc tnc tdy tzz psc pnc pdy pzz) (fX0_become_o5 tpl tsp tsy tsh ppl psp psy psh tsc tnc tdy tzz psc pnc pdy pzz) (fX0_become_o6 tpl tsp tsy tsh ppl psp psy psh tsc tnc tdy tzz psc pnc pdy pzz) (fX0_become_o7 tpl tsp tsy tsh ppl psp psy psh tsc tnc tdy tzz psc pnc pdy pzz) ksc knc kdy kzz ln so be en va)) [6, 7, 8, 9, 10] [none, none, none, none, none, none, some 0, some 1, some 2, some 3, some 4, none, none, none, none, none, none, none, none, none, none, none, none] (rV C0 (tX0_setPlace l D cI cS a6 a7 a8 a9 a10 (fX0_become_o0 tpl tsp tsy tsh ppl psp psy psh tsc tnc tdy tzz psc pnc pdy pzz) (fX0_become_o1 tpl tsp tsy tsh ppl psp psy psh tsc tnc tdy tzz psc pnc pdy pzz) (fX0_become_o2 tpl tsp tsy tsh ppl psp psy psh tsc tnc tdy tzz psc pnc pdy pzz) (fX0_become_o3 tpl tsp tsy tsh ppl psp psy psh tsc tnc tdy tzz psc pnc pdy pzz) (fX0_become_o4 tpl tsp tsy tsh ppl psp psy psh tsc tnc tdy tzz psc pnc pdy pzz) (fX0_become_o5 tpl tsp tsy tsh ppl psp psy psh tsc tnc tdy tzz psc pnc pdy pzz) (fX0_become_o6 tpl tsp tsy tsh ppl psp psy psh tsc tnc tdy tzz psc pnc pdy pzz) (fX0_become_o7 tpl tsp tsy tsh ppl psp psy psh tsc tnc tdy tzz psc pnc pdy pzz) v1 v5 (fX0_setPlace (fX0_become_o0 tpl tsp tsy tsh ppl psp psy psh tsc tnc tdy tzz psc pnc pdy pzz) v1 v5) rfl (((hD (wX4 cI cS a0 a1 a2 a3 a4 a5 a6 a7 a8 a9 a10 a11 a12 a13 a14 a15 a16 a17 a18 a19 a20 a21 a22 ppl psp psy psh (fX0_become_o0 tpl tsp tsy tsh ppl psp psy psh tsc tnc tdy tzz psc pnc pdy pzz) (fX0_become_o1 tpl tsp tsy tsh ppl psp psy psh tsc tnc tdy tzz psc pnc pdy pzz) (fX0_become_o2 tpl tsp tsy tsh ppl psp psy psh tsc tnc tdy tzz psc pnc pdy pzz) (fX0_become_o3 tpl tsp tsy tsh ppl psp psy psh tsc tnc tdy tzz psc pnc pdy pzz) kpl ksp ksy ksh bs bt sz nm fd ik psc pnc pdy pzz (fX0_become_o4 tpl tsp tsy tsh ppl psp psy psh tsc tnc tdy tzz psc pnc pdy pzz) (fX0_become_o5 tpl tsp tsy tsh ppl psp psy psh tsc tnc tdy tzz psc pnc pdy pzz) (fX0_become_o6 tpl tsp tsy tsh ppl psp psy psh tsc tnc tdy tzz psc pnc pdy pzz) (fX0_become_o7 tpl tsp tsy tsh ppl psp psy psh tsc tnc tdy tzz psc pnc pdy pzz) ksc knc kdy kzz ln so be en va) rfl).sub [6, 7, 8, 9, 10] (by decide) rfl).weaken (fun _ _ _ _ => trivial))) RX0 gX4_finishFor_X0_setPlace rfl ⟨rfl, rfl⟩ pdX0_setPlace rfl ⟨Nat.le_of_ble_eq_true rfl, Nat.le_of_ble_eq_true rfl⟩ (fun _ _ _ _ q => q) (va_recv hE.1 hPc (ci := 0) (q0 := 0) rfl rfl) (fun U hU _ _ => by rw [hU]; exact hPc) hl.1 rfl (Nat.le_of_ble_eq_true rfl) dX4_finishFor_59 ⟨Nat.zero_le _, Nat.zero_le _⟩) hP (hD _ rfl) hS rfl rfl rfl (fun H locs hP hS => ?_)
      refine lv_aload_n hx hb dX4_finishFor_62 rfl (lv_at hl 0 rfl) ?_
      refine va_get (D := D) (ci := 3) (v := .ref a6) (C := RX4) (T := TX4) (N := 7) hx hb hts hinX4 hown hE.1 hP 0 rfl rfl 1 (by decide) (hts _ (List.mem_of_getElem? (i := 3) rfl)) (fun _ h9 => h9) rfl dX4_finishFor_63 ?_
      refine lv_iload_n hx hb dX4_finishFor_66 rfl (lv_at hl 2 rfl) ?_
      refine lv_bipush (v := 63) hx hb dX4_finishFor_67 (by decide) ?_
      obtain ⟨z_4, e_5, h⟩ := bds h
      have hPc := hP.sub (ws' := (wX0 cI cS a6 a7 a8 a9 a10 (fX0_setPlace (fX0_become_o0 tpl tsp tsy tsh ppl psp psy psh tsc tnc tdy tzz psc pnc pdy pzz) v1 v5) (fX0_become_o1 tpl tsp tsy tsh ppl psp psy psh tsc tnc tdy tzz psc pnc pdy pzz) (fX0_become_o2 tpl tsp tsy tsh ppl psp psy psh tsc tnc tdy tzz psc pnc pdy pzz) (fX0_become_o3 tpl tsp tsy tsh ppl psp psy psh tsc tnc tdy tzz psc pnc pdy pzz) (fX0_become_o4 tpl tsp tsy tsh ppl psp psy psh tsc tnc tdy tzz psc pnc pdy pzz) (fX0_become_o5 tpl tsp tsy tsh ppl psp psy psh tsc tnc tdy tzz psc pnc pdy pzz) (fX0_become_o6 tpl tsp tsy tsh ppl psp psy psh tsc tnc tdy tzz psc pnc pdy pzz) (fX0_become_o7 tpl tsp tsy tsh ppl psp psy psh tsc tnc tdy tzz psc pnc pdy pzz))) [6, 7, 8, 9, 10] rfl
      refine kMv (wf' := (wX4 cI cS a0 a1 a2 a3 a4 a5 a6 a7 a8 a9 a10 a11 a12 a13 a14 a15 a16 a17 a18 a19 a20 a21 a22 ppl psp psy psh (fX0_setPlace (fX0_become_o0 tpl tsp tsy tsh ppl psp psy psh tsc tnc tdy tzz psc pnc pdy pzz) v1 v5) (fX0_become_o1 tpl tsp tsy tsh ppl psp psy psh tsc tnc tdy tzz psc pnc pdy pzz) z_4.1 z_4.2.1 kpl ksp ksy ksh bs bt sz nm fd ik psc pnc pdy pzz (fX0_become_o4 tpl tsp tsy tsh ppl psp psy psh tsc tnc tdy tzz psc pnc pdy pzz) (fX0_become_o5 tpl tsp tsy tsh ppl psp psy psh tsc tnc tdy tzz psc pnc pdy pzz) z_4.2.2 (fX0_become_o7 tpl tsp tsy tsh ppl psp psy psh tsc tnc tdy tzz psc pnc pdy pzz) ksc knc kdy kzz ln so be en va)) [6, 7, 8, 9, 10] [none, none, none, none, none, none, some 0, some 1, some 2, some 3, some 4, none, none, none, none, none, none, none, none, none, none, none, none] (rV C0 (tX0_passDays l D cI cS F a6 a7 a8 a9 a10 (fX0_setPlace (fX0_become_o0 tpl tsp tsy tsh ppl psp psy psh tsc tnc tdy tzz psc pnc pdy pzz) v1 v5) (fX0_become_o1 tpl tsp tsy tsh ppl psp psy psh tsc tnc tdy tzz psc pnc pdy pzz) (fX0_become_o2 tpl tsp tsy tsh ppl psp psy psh tsc tnc tdy tzz psc pnc pdy pzz) (fX0_become_o3 tpl tsp tsy tsh ppl psp psy psh tsc tnc tdy tzz psc pnc pdy pzz) (fX0_become_o4 tpl tsp tsy tsh ppl psp psy psh tsc tnc tdy tzz psc pnc pdy pzz) (fX0_become_o5 tpl tsp tsy tsh ppl psp psy psh tsc tnc tdy tzz psc pnc pdy pzz) (fX0_become_o6 tpl tsp tsy tsh ppl psp psy psh tsc tnc tdy tzz psc pnc pdy pzz) (fX0_become_o7 tpl tsp tsy tsh ppl psp psy psh tsc tnc tdy tzz psc pnc pdy pzz) v2 63 z_4.1 z_4.2.1 z_4.2.2 e_5 (((hD (wX4 cI cS a0 a1 a2 a3 a4 a5 a6 a7 a8 a9 a10 a11 a12 a13 a14 a15 a16 a17 a18 a19 a20 a21 a22 ppl psp psy psh (fX0_setPlace (fX0_become_o0 tpl tsp tsy tsh ppl psp psy psh tsc tnc tdy tzz psc pnc pdy pzz) v1 v5) (fX0_become_o1 tpl tsp tsy tsh ppl psp psy psh tsc tnc tdy tzz psc pnc pdy pzz) (fX0_become_o2 tpl tsp tsy tsh ppl psp psy psh tsc tnc tdy tzz psc pnc pdy pzz) (fX0_become_o3 tpl tsp tsy tsh ppl psp psy psh tsc tnc tdy tzz psc pnc pdy pzz) kpl ksp ksy ksh bs bt sz nm fd ik psc pnc pdy pzz (fX0_become_o4 tpl tsp tsy tsh ppl psp psy psh tsc tnc tdy tzz psc pnc pdy pzz) (fX0_become_o5 tpl tsp tsy tsh ppl psp psy psh tsc tnc tdy tzz psc pnc pdy pzz) (fX0_become_o6 tpl tsp tsy tsh ppl psp psy psh tsc tnc tdy tzz psc pnc pdy pzz) (fX0_become_o7 tpl tsp tsy tsh ppl psp psy psh tsc tnc tdy tzz psc pnc pdy pzz) ksc knc kdy kzz ln so be en va) rfl).sub [6, 7, 8, 9, 10] (by decide) rfl).weaken (fun _ _ _ _ => trivial))) RX0 gX4_finishFor_X0_passDays rfl ⟨rfl, rfl⟩ pdX0_passDays rfl ⟨Nat.le_of_ble_eq_true rfl, Nat.le_of_ble_eq_true rfl⟩ (fun _ _ _ _ q => q) (va_recv hE.1 hPc (ci := 0) (q0 := 0) rfl rfl) (fun U hU _ _ => by rw [hU]; exact hPc) hl.1 rfl (Nat.le_of_ble_eq_true rfl) dX4_finishFor_69 ⟨Nat.zero_le _, Nat.zero_le _⟩) hP (hD _ rfl) hS rfl rfl rfl (fun H locs hP hS => ?_)
      refine lv_aload_n hx hb dX4_finishFor_72 rfl (lv_at hl 0 rfl) ?_
      refine va_get (D := D) (ci := 3) (v := .ref a6) (C := RX4) (T := TX4) (N := 7) hx hb hts hinX4 hown hE.1 hP 0 rfl rfl 1 (by decide) (hts _ (List.mem_of_getElem? (i := 3) rfl)) (fun _ h9 => h9) rfl dX4_finishFor_73 ?_
      obtain ⟨z_6, e_7, h⟩ := bds h
      have hPc := hP.sub (ws' := (wX0 cI cS a6 a7 a8 a9 a10 (fX0_setPlace (fX0_become_o0 tpl tsp tsy tsh ppl psp psy psh tsc tnc tdy tzz psc pnc pdy pzz) v1 v5) (fX0_become_o1 tpl tsp tsy tsh ppl psp psy psh tsc tnc tdy tzz psc pnc pdy pzz) z_4.1 z_4.2.1 (fX0_become_o4 tpl tsp tsy tsh ppl psp psy psh tsc tnc tdy tzz psc pnc pdy pzz) (fX0_become_o5 tpl tsp tsy tsh ppl psp psy psh tsc tnc tdy tzz psc pnc pdy pzz) z_4.2.2 (fX0_become_o7 tpl tsp tsy tsh ppl psp psy psh tsc tnc tdy tzz psc pnc pdy pzz))) [6, 7, 8, 9, 10] rfl
      refine kRi (rV C0 (tX0_waitedTogether l D cI cS F a6 a7 a8 a9 a10 (fX0_setPlace (fX0_become_o0 tpl tsp tsy tsh ppl psp psy psh tsc tnc tdy tzz psc pnc pdy pzz) v1 v5) (fX0_become_o1 tpl tsp tsy tsh ppl psp psy psh tsc tnc tdy tzz psc pnc pdy pzz) z_4.1 z_4.2.1 (fX0_become_o4 tpl tsp tsy tsh ppl psp psy psh tsc tnc tdy tzz psc pnc pdy pzz) (fX0_become_o5 tpl tsp tsy tsh ppl psp psy psh tsc tnc tdy tzz psc pnc pdy pzz) z_4.2.2 (fX0_become_o7 tpl tsp tsy tsh ppl psp psy psh tsc tnc tdy tzz psc pnc pdy pzz)  z_6 e_7) RX0 gX4_finishFor_X0_waitedTogether rfl ⟨rfl, rfl⟩ pdX0_waitedTogether rfl ⟨Nat.le_of_ble_eq_true rfl, Nat.le_of_ble_eq_true rfl⟩ (fun _ _ _ _ q => q) (va_recv hE.1 hPc (ci := 0) (q0 := 0) rfl rfl) (fun U hU _ _ => by rw [hU]; exact hPc) hl.1 rfl (Nat.le_of_ble_eq_true rfl) dX4_finishFor_76 ⟨Nat.zero_le _, Nat.zero_le _⟩) ?_
      refine lv_istore (lv' := [(6, .int z_6), (0, .ref a0), (1, .int v1), (2, .int v2), (3, .int v3), (4, .int v4), (5, .int v5)]) hx hb dX4_finishFor_79 hl (by decide) rfl (fun ls hl => ?_)
      refine lv_iload hx hb dX4_finishFor_81 (lv_at hl 0 rfl) ?_
      refine lv_iload hx hb dX4_finishFor_83 (lv_at hl 5 rfl) ?_
      refine lv_icmp_ge (tgt := 95) hx hb dX4_finishFor_85 (by decide) (fun c_8 => ?_) (fun c_8 => ?_)
      · have h := ifp c_8 h
        refine lv_iinc (v := v5 + 1) (lv' := [(5, .int (v5 + 1)), (6, .int z_6), (0, .ref a0), (1, .int v1), (2, .int v2), (3, .int v3), (4, .int v4)]) hx hb dX4_finishFor_95 hl (k := 6) rfl rfl (by decide) rfl (fun ls hl => ?_)
        refine lv_goto (tgt := 34) hx hb dX4_finishFor_98 (by decide) ?_
        exact ih v3 v4 (v5 + 1) (fX0_setPlace (fX0_become_o0 tpl tsp tsy tsh ppl psp psy psh tsc tnc tdy tzz psc pnc pdy pzz) v1 v5) (fX0_become_o1 tpl tsp tsy tsh ppl psp psy psh tsc tnc tdy tzz psc pnc pdy pzz) z_4.1 z_4.2.1 (fX0_become_o4 tpl tsp tsy tsh ppl psp psy psh tsc tnc tdy tzz psc pnc pdy pzz) (fX0_become_o5 tpl tsp tsy tsh ppl psp psy psh tsc tnc tdy tzz psc pnc pdy pzz) z_4.2.2 (fX0_become_o7 tpl tsp tsy tsh ppl psp psy psh tsc tnc tdy tzz psc pnc pdy pzz) _ _ hP hS _ (lv_sub hl [2, 3, 4, 5, 6, 0] rfl) h
      · have h := ifn c_8 h
        refine lv_iload hx hb dX4_finishFor_88 (lv_at hl 0 rfl) ?_
        refine lv_istore (lv' := [(4, .int z_6), (6, .int z_6), (0, .ref a0), (1, .int v1), (2, .int v2), (3, .int v3), (5, .int v5)]) hx hb dX4_finishFor_90 hl (by decide) rfl (fun ls hl => ?_)
        refine lv_iload hx hb dX4_finishFor_92 (lv_at hl 6 rfl) ?_
        refine lv_istore_n (lv' := [(3, .int v5), (4, .int z_6), (6, .int z_6), (0, .ref a0), (1, .int v1), (2, .int v2), (5, .int v5)]) hx hb dX4_finishFor_94 rfl hl (by decide) rfl (fun ls hl => ?_)
        refine lv_iinc (v := v5 + 1) (lv' := [(5, .int (v5 + 1)), (3, .int v5), (4, .int z_6), (6, .int z_6), (0, .ref a0), (1, .int v1), (2, .int v2)]) hx hb dX4_finishFor_95 hl (k := 6) rfl rfl (by decide) rfl (fun ls hl => ?_)
        refine lv_goto (tgt := 34) hx hb dX4_finishFor_98 (by decide) ?_
        exact ih v5 z_6 (v5 + 1) (fX0_setPlace (fX0_become_o0 tpl tsp tsy tsh ppl psp psy psh tsc tnc tdy tzz psc pnc pdy pzz) v1 v5) (fX0_become_o1 tpl tsp tsy tsh ppl psp psy psh tsc tnc tdy tzz psc pnc pdy pzz) z_4.1 z_4.2.1 (fX0_become_o4 tpl tsp tsy tsh ppl psp psy psh tsc tnc tdy tzz psc pnc pdy pzz) (fX0_become_o5 tpl tsp tsy tsh ppl psp psy psh tsc tnc tdy tzz psc pnc pdy pzz) z_4.2.2 (fX0_become_o7 tpl tsp tsy tsh ppl psp psy psh tsc tnc tdy tzz psc pnc pdy pzz) _ _ hP hS _ (lv_sub hl [4, 5, 6, 1, 2, 0] rfl) h
set_option maxHeartbeats 4000000 in
set_option maxRecDepth 100000 in
theorem tX4_finishFor (l : Launch) (D : va_G) (cI cS : ClassId) (F : Nat) (a0 a1 a2 a3 a4 a5 a6 a7 a8 a9 a10 a11 a12 a13 a14 a15 a16 a17 a18 a19 a20 a21 a22 : Nat) (ppl : Nat → Int32) (psp : Nat → Int32) (psy : Nat → Int32) (psh : Nat → Int32) (tpl : Nat → Int32) (tsp : Nat → Int32) (tsy : Nat → Int32) (tsh : Nat → Int32) (kpl : Nat → Int32) (ksp : Nat → Int32) (ksy : Nat → Int32) (ksh : Nat → Int32) (bs : Nat → Int32) (bt : Nat → Int32) (sz : Nat → Int32) (nm : Nat → Int32) (fd : Nat → Int32) (ik : Int32) (psc : Int32) (pnc : Int32) (pdy : Int32) (pzz : Int32) (tsc : Int32) (tnc : Int32) (tdy : Int32) (tzz : Int32) (ksc : Int32) (knc : Int32) (kdy : Int32) (kzz : Int32) (ln : Int32) (so : Int32) (be : Int32) (en : Int32) (va : Int32) (v1 : Int32) (v2 : Int32) (z0 : Int32) (z1 : Nat → Int32) (z2 : Nat → Int32) (z3 : Nat → Int32) (z4 : Nat → Int32) (z5 : Nat → Int32) (z6 : Int32) (z7 : Int32) (z8 : Int32) (z9 : Int32) (h : fX4_finishFor F ppl psp psy psh tpl tsp tsy tsh fd psc pnc pdy pzz tsc tnc tdy tzz v1 v2 = some (z0, z1, z2, z3, z4, z5, z6, z7, z8, z9)) (hD0 : va_D (fun _ => True) (wX4 cI cS a0 a1 a2 a3 a4 a5 a6 a7 a8 a9 a10 a11 a12 a13 a14 a15 a16 a17 a18 a19 a20 a21 a22 ppl psp psy psh tpl tsp tsy tsh kpl ksp ksy ksh bs bt sz nm fd ik psc pnc pdy pzz tsc tnc tdy tzz ksc knc kdy kzz ln so be en va)) : Met l yX4_finishFor wsX4_finishFor rmX4_finishFor (PZ D cI cS [.ref a0, .int v1, .int v2] (fun U => va_P D vwCl (wX4 cI cS a0 a1 a2 a3 a4 a5 a6 a7 a8 a9 a10 a11 a12 a13 a14 a15 a16 a17 a18 a19 a20 a21 a22 ppl psp psy psh tpl tsp tsy tsh kpl ksp ksy ksh bs bt sz nm fd ik psc pnc pdy pzz tsc tnc tdy tzz ksc knc kdy kzz ln so be en va) U.heap)) (qI D (wX4 cI cS a0 a1 a2 a3 a4 a5 a6 a7 a8 a9 a10 a11 a12 a13 a14 a15 a16 a17 a18 a19 a20 a21 a22 ppl psp psy psh tpl tsp tsy tsh kpl ksp ksy ksh bs bt sz nm fd ik psc pnc pdy pzz tsc tnc tdy tzz ksc knc kdy kzz ln so be en va) (wX4 cI cS a0 a1 a2 a3 a4 a5 a6 a7 a8 a9 a10 a11 a12 a13 a14 a15 a16 a17 a18 a19 a20 a21 a22 ppl psp psy psh z1 z2 z3 z4 kpl ksp ksy ksh bs bt sz nm z5 ik psc pnc pdy pzz z6 z7 z8 z9 ksc knc kdy kzz ln so be en va) z0) 0 0 (wA (wX4 cI cS a0 a1 a2 a3 a4 a5 a6 a7 a8 a9 a10 a11 a12 a13 a14 a15 a16 a17 a18 a19 a20 a21 a22 ppl psp psy psh tpl tsp tsy tsh kpl ksp ksy ksh bs bt sz nm fd ik psc pnc pdy pzz tsc tnc tdy tzz ksc knc kdy kzz ln so be en va)) := by
  refine Met.mk RX4 (by decide) rfl rfl (Nat.le_of_ble_eq_true rfl) ?_
  intro p e s m below meth c ls C0 hP hl
  have hl : lv_has ls 7 [(0, .ref a0), (1, .int v1), (2, .int v2)] := hl
  obtain ⟨hx, hb, hr, hml, hown, hts, hlk, hE⟩ := id C0
  have hinX4 : ∀ w ∈ u_ws RX4 TX4 7, w ∈ wsX4_finishFor := by decide +kernel
  have hD : ∀ W : va_W, W.map Prod.fst = [a0, a1, a2, a3, a4, a5, a6, a7, a8, a9, a10, a11, a12, a13, a14, a15, a16, a17, a18, a19, a20, a21, a22] → va_D (wA (wX4 cI cS a0 a1 a2 a3 a4 a5 a6 a7 a8 a9 a10 a11 a12 a13 a14 a15 a16 a17 a18 a19 a20 a21 a22 ppl psp psy psh tpl tsp tsy tsh kpl ksp ksy ksh bs bt sz nm fd ik psc pnc pdy pzz tsc tnc tdy tzz ksc knc kdy kzz ln so be en va)) W := fun W hW => hD0.own.re hW
  have hS : va_S (wA (wX4 cI cS a0 a1 a2 a3 a4 a5 a6 a7 a8 a9 a10 a11 a12 a13 a14 a15 a16 a17 a18 a19 a20 a21 a22 ppl psp psy psh tpl tsp tsy tsh kpl ksp ksy ksh bs bt sz nm fd ik psc pnc pdy pzz tsc tnc tdy tzz ksc knc kdy kzz ln so be en va)) s.heap s.heap [] := va_S.rf
  have hP : va_P D vwCl (wX4 cI cS a0 a1 a2 a3 a4 a5 a6 a7 a8 a9 a10 a11 a12 a13 a14 a15 a16 a17 a18 a19 a20 a21 a22 ppl psp psy psh tpl tsp tsy tsh kpl ksp ksy ksh bs bt sz nm fd ik psc pnc pdy pzz tsc tnc tdy tzz ksc knc kdy kzz ln so be en va) s.heap := hP
  rw [fX4_finishFor] at h
  refine lv_iload_n hx hb dX4_finishFor_0 rfl (lv_at hl 1 rfl) ?_
  refine kRi (rS C0 (tX4_isPlace l D cI cS v1 (fX4_isPlace v1) rfl) gX4_finishFor_X4_isPlace rfl ⟨rfl, rfl⟩ pdX4_isPlace rfl ⟨Nat.le_of_ble_eq_true rfl, Nat.le_of_ble_eq_true rfl⟩ (fun _ _ _ _ q => q) (fun _ _ _ _ => vp0) hl.1 rfl (Nat.le_of_ble_eq_true rfl) dX4_finishFor_1 ⟨Nat.zero_le _, Nat.zero_le _⟩) ?_
  refine lv_if_eq (tgt := 17) hx hb dX4_finishFor_4 (by decide) (fun c_1 => ?_) (fun c_1 => ?_)
  · have h := ifp c_1 h
    refine lv_aload_n hx hb dX4_finishFor_17 rfl (lv_at hl 0 rfl) ?_
    refine lv_ldc (v := (-1000001)) hx hb hown (hts _ (List.mem_of_getElem? (i := 1) rfl)) dX4_finishFor_18 ?_
    have hPc := hP.sub (ws' := (wX4 cI cS a0 a1 a2 a3 a4 a5 a6 a7 a8 a9 a10 a11 a12 a13 a14 a15 a16 a17 a18 a19 a20 a21 a22 ppl psp psy psh tpl tsp tsy tsh kpl ksp ksy ksh bs bt sz nm fd ik psc pnc pdy pzz tsc tnc tdy tzz ksc knc kdy kzz ln so be en va)) [0, 1, 2, 3, 4, 5, 6, 7, 8, 9, 10, 11, 12, 13, 14, 15, 16, 17, 18, 19, 20, 21, 22] rfl
    refine kMi (wf' := (wX4 cI cS a0 a1 a2 a3 a4 a5 a6 a7 a8 a9 a10 a11 a12 a13 a14 a15 a16 a17 a18 a19 a20 a21 a22 ppl psp psy psh tpl tsp tsy tsh kpl ksp ksy ksh bs bt sz nm (fX4_finding_o1 fd (-1000001)) ik psc pnc pdy pzz tsc tnc tdy tzz ksc knc kdy kzz ln so be en va)) [0, 1, 2, 3, 4, 5, 6, 7, 8, 9, 10, 11, 12, 13, 14, 15, 16, 17, 18, 19, 20, 21, 22] [some 0, some 1, some 2, some 3, some 4, some 5, some 6, some 7, some 8, some 9, some 10, some 11, some 12, some 13, some 14, some 15, some 16, some 17, some 18, some 19, some 20, some 21, some 22] (rV C0 (tX4_finding l D cI cS a0 a1 a2 a3 a4 a5 a6 a7 a8 a9 a10 a11 a12 a13 a14 a15 a16 a17 a18 a19 a20 a21 a22 ppl psp psy psh tpl tsp tsy tsh kpl ksp ksy ksh bs bt sz nm fd ik psc pnc pdy pzz tsc tnc tdy tzz ksc knc kdy kzz ln so be en va (-1000001) (-1000001) (fX4_finding_o1 fd (-1000001)) (eeX4_finding ..) (((hD (wX4 cI cS a0 a1 a2 a3 a4 a5 a6 a7 a8 a9 a10 a11 a12 a13 a14 a15 a16 a17 a18 a19 a20 a21 a22 ppl psp psy psh tpl tsp tsy tsh kpl ksp ksy ksh bs bt sz nm fd ik psc pnc pdy pzz tsc tnc tdy tzz ksc knc kdy kzz ln so be en va) rfl).sub [0, 1, 2, 3, 4, 5, 6, 7, 8, 9, 10, 11, 12, 13, 14, 15, 16, 17, 18, 19, 20, 21, 22] (by decide) rfl).weaken (fun _ _ _ _ => trivial))) RX4 gX4_finishFor_X4_finding rfl ⟨rfl, rfl⟩ pdX4_finding rfl ⟨Nat.le_of_ble_eq_true rfl, Nat.le_of_ble_eq_true rfl⟩ (fun _ _ _ _ q => q) (va_recv hE.1 hPc (ci := 3) (q0 := 0) rfl rfl) (fun U hU _ _ => by rw [hU]; exact hPc) hl.1 rfl (Nat.le_of_ble_eq_true rfl) dX4_finishFor_20 ⟨Nat.zero_le _, Nat.zero_le _⟩) hP (hD _ rfl) hS rfl rfl rfl (fun H locs hP hS => ?_)
    obtain ⟨q0, g0⟩ := Prod.mk.inj (Option.some.inj h)
    obtain ⟨q1, g1⟩ := Prod.mk.inj g0
    obtain ⟨q2, g2⟩ := Prod.mk.inj g1
    obtain ⟨q3, g3⟩ := Prod.mk.inj g2
    obtain ⟨q4, g4⟩ := Prod.mk.inj g3
    obtain ⟨q5, g5⟩ := Prod.mk.inj g4
    obtain ⟨q6, g6⟩ := Prod.mk.inj g5
    obtain ⟨q7, g7⟩ := Prod.mk.inj g6
    obtain ⟨q8, q9⟩ := Prod.mk.inj g7
    subst q0 q1 q2 q3 q4 q5 q6 q7 q8 q9
    exact eMi C0 hP hS rfl rfl dX4_finishFor_23
  · have h := ifn c_1 h
    refine lv_iload_n hx hb dX4_finishFor_7 rfl (lv_at hl 2 rfl) ?_
    refine lv_iconst (v := 0) hx hb dX4_finishFor_8 (by decide) ?_
    refine lv_bipush (v := 40) hx hb dX4_finishFor_9 (by decide) ?_
    refine kRi (rS C0 (tX4_within l D cI cS v2 0 40 (fX4_within v2 0 40) rfl) gX4_finishFor_X4_within rfl ⟨rfl, rfl⟩ pdX4_within rfl ⟨Nat.le_of_ble_eq_true rfl, Nat.le_of_ble_eq_true rfl⟩ (fun _ _ _ _ q => q) (fun _ _ _ _ => vp0) hl.1 rfl (Nat.le_of_ble_eq_true rfl) dX4_finishFor_11 ⟨Nat.zero_le _, Nat.zero_le _⟩) ?_
    refine lv_if_ne (tgt := 24) hx hb dX4_finishFor_14 (by decide) (fun c_2 => ?_) (fun c_2 => ?_)
    · have h := ifn c_2 h
      refine lv_bipush (v := 8) hx hb dX4_finishFor_24 (by decide) ?_
      refine lv_istore_n (lv' := [(3, .int 8), (0, .ref a0), (1, .int v1), (2, .int v2)]) hx hb dX4_finishFor_26 rfl hl (by decide) rfl (fun ls hl => ?_)
      refine lv_ldc (v := 59995) hx hb hown (hts _ (List.mem_of_getElem? (i := 2) rfl)) dX4_finishFor_27 ?_
      refine lv_istore (lv' := [(4, .int 59995), (3, .int 8), (0, .ref a0), (1, .int v1), (2, .int v2)]) hx hb dX4_finishFor_29 hl (by decide) rfl (fun ls hl => ?_)
      refine lv_iconst (v := 0) hx hb dX4_finishFor_31 (by decide) ?_
      refine lv_istore (lv' := [(5, .int 0), (4, .int 59995), (3, .int 8), (0, .ref a0), (1, .int v1), (2, .int v2)]) hx hb dX4_finishFor_32 hl (by decide) rfl (fun ls hl => ?_)
      exact lX4_finishFor_34 (l := l) (e := e) (below := below) C0 F ppl psp psy psh kpl ksp ksy ksh bs bt sz nm fd ik psc pnc pdy pzz ksc knc kdy kzz ln so be en va v1 v2 z0 z1 z2 z3 z4 z5 z6 z7 z8 z9 hD F 8 59995 0 tpl tsp tsy tsh tsc tnc tdy tzz _ _ hP hS _ (lv_sub hl [3, 4, 5, 2, 1, 0] rfl) h
    · have h := ifp c_2 h
      refine lv_aload_n hx hb dX4_finishFor_17 rfl (lv_at hl 0 rfl) ?_
      refine lv_ldc (v := (-1000001)) hx hb hown (hts _ (List.mem_of_getElem? (i := 1) rfl)) dX4_finishFor_18 ?_
      have hPc := hP.sub (ws' := (wX4 cI cS a0 a1 a2 a3 a4 a5 a6 a7 a8 a9 a10 a11 a12 a13 a14 a15 a16 a17 a18 a19 a20 a21 a22 ppl psp psy psh tpl tsp tsy tsh kpl ksp ksy ksh bs bt sz nm fd ik psc pnc pdy pzz tsc tnc tdy tzz ksc knc kdy kzz ln so be en va)) [0, 1, 2, 3, 4, 5, 6, 7, 8, 9, 10, 11, 12, 13, 14, 15, 16, 17, 18, 19, 20, 21, 22] rfl
      refine kMi (wf' := (wX4 cI cS a0 a1 a2 a3 a4 a5 a6 a7 a8 a9 a10 a11 a12 a13 a14 a15 a16 a17 a18 a19 a20 a21 a22 ppl psp psy psh tpl tsp tsy tsh kpl ksp ksy ksh bs bt sz nm (fX4_finding_o1 fd (-1000001)) ik psc pnc pdy pzz tsc tnc tdy tzz ksc knc kdy kzz ln so be en va)) [0, 1, 2, 3, 4, 5, 6, 7, 8, 9, 10, 11, 12, 13, 14, 15, 16, 17, 18, 19, 20, 21, 22] [some 0, some 1, some 2, some 3, some 4, some 5, some 6, some 7, some 8, some 9, some 10, some 11, some 12, some 13, some 14, some 15, some 16, some 17, some 18, some 19, some 20, some 21, some 22] (rV C0 (tX4_finding l D cI cS a0 a1 a2 a3 a4 a5 a6 a7 a8 a9 a10 a11 a12 a13 a14 a15 a16 a17 a18 a19 a20 a21 a22 ppl psp psy psh tpl tsp tsy tsh kpl ksp ksy ksh bs bt sz nm fd ik psc pnc pdy pzz tsc tnc tdy tzz ksc knc kdy kzz ln so be en va (-1000001) (-1000001) (fX4_finding_o1 fd (-1000001)) (eeX4_finding ..) (((hD (wX4 cI cS a0 a1 a2 a3 a4 a5 a6 a7 a8 a9 a10 a11 a12 a13 a14 a15 a16 a17 a18 a19 a20 a21 a22 ppl psp psy psh tpl tsp tsy tsh kpl ksp ksy ksh bs bt sz nm fd ik psc pnc pdy pzz tsc tnc tdy tzz ksc knc kdy kzz ln so be en va) rfl).sub [0, 1, 2, 3, 4, 5, 6, 7, 8, 9, 10, 11, 12, 13, 14, 15, 16, 17, 18, 19, 20, 21, 22] (by decide) rfl).weaken (fun _ _ _ _ => trivial))) RX4 gX4_finishFor_X4_finding rfl ⟨rfl, rfl⟩ pdX4_finding rfl ⟨Nat.le_of_ble_eq_true rfl, Nat.le_of_ble_eq_true rfl⟩ (fun _ _ _ _ q => q) (va_recv hE.1 hPc (ci := 3) (q0 := 0) rfl rfl) (fun U hU _ _ => by rw [hU]; exact hPc) hl.1 rfl (Nat.le_of_ble_eq_true rfl) dX4_finishFor_20 ⟨Nat.zero_le _, Nat.zero_le _⟩) hP (hD _ rfl) hS rfl rfl rfl (fun H locs hP hS => ?_)
      obtain ⟨q0, g0⟩ := Prod.mk.inj (Option.some.inj h)
      obtain ⟨q1, g1⟩ := Prod.mk.inj g0
      obtain ⟨q2, g2⟩ := Prod.mk.inj g1
      obtain ⟨q3, g3⟩ := Prod.mk.inj g2
      obtain ⟨q4, g4⟩ := Prod.mk.inj g3
      obtain ⟨q5, g5⟩ := Prod.mk.inj g4
      obtain ⟨q6, g6⟩ := Prod.mk.inj g5
      obtain ⟨q7, g7⟩ := Prod.mk.inj g6
      obtain ⟨q8, q9⟩ := Prod.mk.inj g7
      subst q0 q1 q2 q3 q4 q5 q6 q7 q8 q9
      exact eMi C0 hP hS rfl rfl dX4_finishFor_23
def fX4_kindFor_37 (F : Nat) (ppl : Nat → Int32) (psp : Nat → Int32) (psy : Nat → Int32) (psh : Nat → Int32) (fd : Nat → Int32) (psc : Int32) (pnc : Int32) (pdy : Int32) (pzz : Int32) (v1 : Int32) (v2 : Int32) : Nat → Int32 → Int32 → Int32 → (Nat → Int32) → (Nat → Int32) → (Nat → Int32) → (Nat → Int32) → Int32 → Int32 → Int32 → Int32 → Option (Int32 × (Nat → Int32) × (Nat → Int32) × (Nat → Int32) × (Nat → Int32) × (Nat → Int32) × Int32 × Int32 × Int32 × Int32)
  | 0, _, _, _, _, _, _, _, _, _, _, _ => none
  | n + 1, v3, v4, v5, tpl, tsp, tsy, tsh, tsc, tnc, tdy, tzz => (if 7 ≤ v5 then some (v3, tpl, tsp, tsy, tsh, fd, tsc, tnc, tdy, tzz) else Option.bind (fX0_passDays F (fX0_become_o0 tpl tsp tsy tsh ppl psp psy psh tsc tnc tdy tzz psc pnc pdy pzz) (fX0_setOfSaying (fX0_become_o2 tpl tsp tsy tsh ppl psp psy psh tsc tnc tdy tzz psc pnc pdy pzz) v1 0 v5) (fX0_become_o3 tpl tsp tsy tsh ppl psp psy psh tsc tnc tdy tzz psc pnc pdy pzz) (fX0_become_o4 tpl tsp tsy tsh ppl psp psy psh tsc tnc tdy tzz psc pnc pdy pzz) (fX0_become_o5 tpl tsp tsy tsh ppl psp psy psh tsc tnc tdy tzz psc pnc pdy pzz) (fX0_become_o6 tpl tsp tsy tsh ppl psp psy psh tsc tnc tdy tzz psc pnc pdy pzz) v2 63) (fun z_4 => Option.bind (fX0_waitedTogether F z_4.2.1 (fX0_become_o5 tpl tsp tsy tsh ppl psp psy psh tsc tnc tdy tzz psc pnc pdy pzz)) (fun z_6 => (if v4 ≤ z_6 then fX4_kindFor_37 F ppl psp psy psh fd psc pnc pdy pzz v1 v2 n v3 v4 (v5 + 1) (fX0_become_o0 tpl tsp tsy tsh ppl psp psy psh tsc tnc tdy tzz psc pnc pdy pzz) (fX0_become_o1 tpl tsp tsy tsh ppl psp psy psh tsc tnc tdy tzz psc pnc pdy pzz) z_4.1 z_4.2.1 (fX0_become_o4 tpl tsp tsy tsh ppl psp psy psh tsc tnc tdy tzz psc pnc pdy pzz) (fX0_become_o5 tpl tsp tsy tsh ppl psp psy psh tsc tnc tdy tzz psc pnc pdy pzz) z_4.2.2 (fX0_become_o7 tpl tsp tsy tsh ppl psp psy psh tsc tnc tdy tzz psc pnc pdy pzz) else fX4_kindFor_37 F ppl psp psy psh fd psc pnc pdy pzz v1 v2 n v5 z_6 (v5 + 1) (fX0_become_o0 tpl tsp tsy tsh ppl psp psy psh tsc tnc tdy tzz psc pnc pdy pzz) (fX0_become_o1 tpl tsp tsy tsh ppl psp psy psh tsc tnc tdy tzz psc pnc pdy pzz) z_4.1 z_4.2.1 (fX0_become_o4 tpl tsp tsy tsh ppl psp psy psh tsc tnc tdy tzz psc pnc pdy pzz) (fX0_become_o5 tpl tsp tsy tsh ppl psp psy psh tsc tnc tdy tzz psc pnc pdy pzz) z_4.2.2 (fX0_become_o7 tpl tsp tsy tsh ppl psp psy psh tsc tnc tdy tzz psc pnc pdy pzz)))))
def fX4_kindFor (F : Nat) (ppl : Nat → Int32) (psp : Nat → Int32) (psy : Nat → Int32) (psh : Nat → Int32) (tpl : Nat → Int32) (tsp : Nat → Int32) (tsy : Nat → Int32) (tsh : Nat → Int32) (fd : Nat → Int32) (psc : Int32) (pnc : Int32) (pdy : Int32) (pzz : Int32) (tsc : Int32) (tnc : Int32) (tdy : Int32) (tzz : Int32) (v1 : Int32) (v2 : Int32) : Option (Int32 × (Nat → Int32) × (Nat → Int32) × (Nat → Int32) × (Nat → Int32) × (Nat → Int32) × Int32 × Int32 × Int32 × Int32) := (if (fX0_hasSaying psc v1) = 0 then some ((-1000001), tpl, tsp, tsy, tsh, fX4_finding_o1 fd (-1000001), tsc, tnc, tdy, tzz) else (if (fX4_within v2 0 40) = 0 then some ((-1000001), tpl, tsp, tsy, tsh, fX4_finding_o1 fd (-1000001), tsc, tnc, tdy, tzz) else fX4_kindFor_37 F ppl psp psy psh fd psc pnc pdy pzz v1 v2 F 0 59995 0 tpl tsp tsy tsh tsc tnc tdy tzz))
abbrev rmX4_kindFor : Room := { frames := 5, cells := 0, slots := 0, locals := 120 }
theorem pdX4_kindFor : (yX4_kindFor.cls = RX4 ∧ yX4_kindFor.cls ≠ "java/lang/invoke/MethodHandle" ∧ yX4_kindFor.cls ≠ "java/lang/invoke/VarHandle" ∧ (parseMethodDescriptor yX4_kindFor.desc).map (fun d => d.parameters.length) = some 2) := by decide +kernel
set_option maxHeartbeats 4000000 in
set_option maxRecDepth 100000 in
theorem lX4_kindFor_37 {p : Program} {l : Launch} {e : Env} {s : State} {m : MethodId} {av : Array Value} {below : List Frame} {meth : Method} {c : Code} {D : va_G} {cI cS : ClassId} {a0 a1 a2 a3 a4 a5 a6 a7 a8 a9 a10 a11 a12 a13 a14 a15 a16 a17 a18 a19 a20 a21 a22 : Nat} {W0 : va_W} (C0 : CX p s m av meth c RX4 cX4_kindFor 7 (some .int) wsX4_kindFor D cI cS) (F : Nat) (ppl : Nat → Int32) (psp : Nat → Int32) (psy : Nat → Int32) (psh : Nat → Int32) (kpl : Nat → Int32) (ksp : Nat → Int32) (ksy : Nat → Int32) (ksh : Nat → Int32) (bs : Nat → Int32) (bt : Nat → Int32) (sz : Nat → Int32) (nm : Nat → Int32) (fd : Nat → Int32) (ik : Int32) (psc : Int32) (pnc : Int32) (pdy : Int32) (pzz : Int32) (ksc : Int32) (knc : Int32) (kdy : Int32) (kzz : Int32) (ln : Int32) (so : Int32) (be : Int32) (en : Int32) (va : Int32) (v1 : Int32) (v2 : Int32) (z0 : Int32) (z1 : Nat → Int32) (z2 : Nat → Int32) (z3 : Nat → Int32) (z4 : Nat → Int32) (z5 : Nat → Int32) (z6 : Int32) (z7 : Int32) (z8 : Int32) (z9 : Int32) (hD : ∀ W : va_W, W.map Prod.fst = [a0, a1, a2, a3, a4, a5, a6, a7, a8, a9, a10, a11, a12, a13, a14, a15, a16, a17, a18, a19, a20, a21, a22] → va_D (wA W0) W) : ∀ (n : Nat) (v3 : Int32) (v4 : Int32) (v5 : Int32) (tpl : Nat → Int32) (tsp : Nat → Int32) (tsy : Nat → Int32) (tsh : Nat → Int32) (tsc : Int32) (tnc : Int32) (tdy : Int32) (tzz : Int32) (H : Heap) (locs : List Loc), va_P D vwCl (wX4 cI cS a0 a1 a2 a3 a4 a5 a6 a7 a8 a9 a10 a11 a12 a13 a14 a15 a16 a17 a18 a19 a20 a21 a22 ppl psp psy psh tpl tsp tsy tsh kpl ksp ksy ksh bs bt sz nm fd ik psc pnc pdy pzz tsc tnc tdy tzz ksc knc kdy kzz ln so be en va) H → va_S (wA W0) s.heap H locs → ∀ (ls : Array Slot), lv_has ls 7 [(0, .ref a0), (1, .int v1), (2, .int v2), (3, .int v3), (4, .int v4), (5, .int v5)] → fX4_kindFor_37 F ppl psp psy psh fd psc pnc pdy pzz v1 v2 n v3 v4 v5 tpl tsp tsy tsh tsc tnc tdy tzz = some (z0, z1, z2, z3, z4, z5, z6, z7, z8, z9) → W p l e rmX4_kindFor s m av below meth c H locs 0 0 (MQ below (qI D W0 (wX4 cI cS a0 a1 a2 a3 a4 a5 a6 a7 a8 a9 a10 a11 a12 a13 a14 a15 a16 a17 a18 a19 a20 a21 a22 ppl psp psy psh z1 z2 z3 z4 kpl ksp ksy ksh bs bt sz nm z5 ik psc pnc pdy pzz z6 z7 z8 z9 ksc knc kdy kzz ln so be en va) z0) av s 0 0 (wA W0)) (F0 m 37 ls []) := by
  obtain ⟨hx, hb, hr, hml, hown, hts, hlk, hE⟩ := id C0
  have hinX4 : ∀ w ∈ u_ws RX4 TX4 7, w ∈ wsX4_kindFor := by decide +kernel
  intro n
  induction n with
  | zero =>
    intro v3 v4 v5 tpl tsp tsy tsh tsc tnc tdy tzz H locs hP hS ls hl h
    cases (show none = some (z0, z1, z2, z3, z4, z5, z6, z7, z8, z9) from h)
  | succ n ih =>
    intro v3 v4 v5 tpl tsp tsy tsh tsc tnc tdy tzz H locs hP hS ls hl h
    rw [fX4_kindFor_37] at h
    refine lv_iload hx hb dX4_kindFor_37 (lv_at hl 5 rfl) ?_
    refine lv_bipush (v := 7) hx hb dX4_kindFor_39 (by decide) ?_
    refine lv_icmp_ge (tgt := 105) hx hb dX4_kindFor_41 (by decide) (fun c_3 => ?_) (fun c_3 => ?_)
    · have h := ifp c_3 h
      refine lv_iload_n hx hb dX4_kindFor_105 rfl (lv_at hl 3 rfl) ?_
      obtain ⟨q0, g0⟩ := Prod.mk.inj (Option.some.inj h)
      obtain ⟨q1, g1⟩ := Prod.mk.inj g0
      obtain ⟨q2, g2⟩ := Prod.mk.inj g1
      obtain ⟨q3, g3⟩ := Prod.mk.inj g2
      obtain ⟨q4, g4⟩ := Prod.mk.inj g3
      obtain ⟨q5, g5⟩ := Prod.mk.inj g4
      obtain ⟨q6, g6⟩ := Prod.mk.inj g5
      obtain ⟨q7, g7⟩ := Prod.mk.inj g6
      obtain ⟨q8, q9⟩ := Prod.mk.inj g7
      subst q0 q1 q2 q3 q4 q5 q6 q7 q8 q9
      exact eMi C0 hP hS rfl rfl dX4_kindFor_106
    · have h := ifn c_3 h
      refine lv_aload_n hx hb dX4_kindFor_44 rfl (lv_at hl 0 rfl) ?_
      refine va_get (D := D) (ci := 3) (v := .ref a6) (C := RX4) (T := TX4) (N := 7) hx hb hts hinX4 hown hE.1 hP 0 rfl rfl 1 (by decide) (hts _ (List.mem_of_getElem? (i := 4) rfl)) (fun _ h9 => h9) rfl dX4_kindFor_45 ?_
      refine lv_aload_n hx hb dX4_kindFor_48 rfl (lv_at hl 0 rfl) ?_
      refine va_get (D := D) (ci := 3) (v := .ref a1) (C := RX4) (T := TX4) (N := 7) hx hb hts hinX4 hown hE.1 hP 0 rfl rfl 0 (by decide) (hts _ (List.mem_of_getElem? (i := 1) rfl)) (fun _ h9 => h9) rfl dX4_kindFor_49 ?_
      have hPc := hP.sub (ws' := (wE2 cI cS a6 a7 a8 a9 a10 a1 a2 a3 a4 a5 tpl tsp tsy tsh ppl psp psy psh tsc tnc tdy tzz psc pnc pdy pzz)) [6, 7, 8, 9, 10, 1, 2, 3, 4, 5] rfl
      refine kMv (wf' := (wX4 cI cS a0 a1 a2 a3 a4 a5 a6 a7 a8 a9 a10 a11 a12 a13 a14 a15 a16 a17 a18 a19 a20 a21 a22 ppl psp psy psh (fX0_become_o0 tpl tsp tsy tsh ppl psp psy psh tsc tnc tdy tzz psc pnc pdy pzz) (fX0_become_o1 tpl tsp tsy tsh ppl psp psy psh tsc tnc tdy tzz psc pnc pdy pzz) (fX0_become_o2 tpl tsp tsy tsh ppl psp psy psh tsc tnc tdy tzz psc pnc pdy pzz) (fX0_become_o3 tpl tsp tsy tsh ppl psp psy psh tsc tnc tdy tzz psc pnc pdy pzz) kpl ksp ksy ksh bs bt sz nm fd ik psc pnc pdy pzz (fX0_become_o4 tpl tsp tsy tsh ppl psp psy psh tsc tnc tdy tzz psc pnc pdy pzz) (fX0_become_o5 tpl tsp tsy tsh ppl psp psy psh tsc tnc tdy tzz psc pnc pdy pzz) (fX0_become_o6 tpl tsp tsy tsh ppl psp psy psh tsc tnc tdy tzz psc pnc pdy pzz) (fX0_become_o7 tpl tsp tsy tsh ppl psp psy psh tsc tnc tdy tzz psc pnc pdy pzz) ksc knc kdy kzz ln so be en va)) [6, 7, 8, 9, 10, 1, 2, 3, 4, 5] [none, some 5, some 6, some 7, some 8, some 9, some 0, some 1, some 2, some 3, some 4, none, none, none, none, none, none, none, none, none, none, none, none] (rV C0 (tX0_become l D cI cS a6 a7 a8 a9 a10 a1 a2 a3 a4 a5 tpl tsp tsy tsh ppl psp psy psh tsc tnc tdy tzz psc pnc pdy pzz  (fX0_become_o0 tpl tsp tsy tsh ppl psp psy psh tsc tnc tdy tzz psc pnc pdy pzz) (fX0_become_o1 tpl tsp tsy tsh ppl psp psy psh tsc tnc tdy tzz psc pnc pdy pzz) (fX0_become_o2 tpl tsp tsy tsh ppl psp psy psh tsc tnc tdy tzz psc pnc pdy pzz) (fX0_become_o3 tpl tsp tsy tsh ppl psp psy psh tsc tnc tdy tzz psc pnc pdy pzz) (fX0_become_o4 tpl tsp tsy tsh ppl psp psy psh tsc tnc tdy tzz psc pnc pdy pzz) (fX0_become_o5 tpl tsp tsy tsh ppl psp psy psh tsc tnc tdy tzz psc pnc pdy pzz) (fX0_become_o6 tpl tsp tsy tsh ppl psp psy psh tsc tnc tdy tzz psc pnc pdy pzz) (fX0_become_o7 tpl tsp tsy tsh ppl psp psy psh tsc tnc tdy tzz psc pnc pdy pzz) (eeX0_become ..) (((hD (wX4 cI cS a0 a1 a2 a3 a4 a5 a6 a7 a8 a9 a10 a11 a12 a13 a14 a15 a16 a17 a18 a19 a20 a21 a22 ppl psp psy psh tpl tsp tsy tsh kpl ksp ksy ksh bs bt sz nm fd ik psc pnc pdy pzz tsc tnc tdy tzz ksc knc kdy kzz ln so be en va) rfl).sub [6, 7, 8, 9, 10, 1, 2, 3, 4, 5] (by decide) rfl).weaken (fun _ _ _ _ => trivial))) RX0 gX4_kindFor_X0_become rfl ⟨rfl, rfl⟩ pdX0_become rfl ⟨Nat.le_of_ble_eq_true rfl, Nat.le_of_ble_eq_true rfl⟩ (fun _ _ _ _ q => q) (va_recv hE.1 hPc (ci := 0) (q0 := 0) rfl rfl) (fun U hU _ _ => by rw [hU]; exact hPc) hl.1 rfl (Nat.le_of_ble_eq_true rfl) dX4_kindFor_52 ⟨Nat.zero_le _, Nat.zero_le _⟩) hP (hD _ rfl) hS rfl rfl rfl (fun H locs hP hS => ?_)
      refine lv_aload_n hx hb dX4_kindFor_55 rfl (lv_at hl 0 rfl) ?_
      refine va_get (D := D) (ci := 3) (v := .ref a6) (C := RX4) (T := TX4) (N := 7) hx hb hts hinX4 hown hE.1 hP 0 rfl rfl 1 (by decide) (hts _ (List.mem_of_getElem? (i := 4) rfl)) (fun _ h9 => h9) rfl dX4_kindFor_56 ?_
      refine lv_iload_n hx hb dX4_kindFor_59 rfl (lv_at hl 1 rfl) ?_
      refine lv_iconst (v := 0) hx hb dX4_kindFor_60 (by decide) ?_
      refine lv_iload hx hb dX4_kindFor_61 (lv_at hl 5 rfl) ?_
      have hPc := hP.sub (ws' := (wX0 cI cS a6 a7 a8 a9 a10 (fX0_become_o0 tpl tsp tsy tsh ppl psp psy psh tsc tnc tdy tzz psc pnc pdy pzz) (fX0_become_o1 tpl tsp tsy tsh ppl psp psy psh tsc tnc tdy tzz psc pnc pdy pzz) (fX0_become_o2 tpl tsp tsy tsh ppl psp psy psh tsc tnc tdy tzz psc pnc pdy pzz) (fX0_become_o3 tpl tsp tsy tsh ppl psp psy psh tsc tnc tdy tzz psc pnc pdy pzz) (fX0_become_o4 tpl tsp tsy tsh ppl psp psy psh tsc tnc tdy tzz psc pnc pdy pzz) (fX0_become_o5 tpl tsp tsy tsh ppl psp psy psh tsc tnc tdy tzz psc pnc pdy pzz) (fX0_become_o6 tpl tsp tsy tsh ppl psp psy psh tsc tnc tdy tzz psc pnc pdy pzz) (fX0_become_o7 tpl tsp tsy tsh ppl psp psy psh tsc tnc tdy tzz psc pnc pdy pzz))) [6, 7, 8, 9, 10] rfl
      refine kMv (wf' := (wX4 cI cS a0 a1 a2 a3 a4 a5 a6 a7 a8 a9 a10 a11 a12 a13 a14 a15 a16 a17 a18 a19 a20 a21 a22 ppl psp psy psh (fX0_become_o0 tpl tsp tsy tsh ppl psp psy psh tsc tnc tdy tzz psc pnc pdy pzz) (fX0_become_o1 tpl tsp tsy tsh ppl psp psy psh tsc tnc tdy tzz psc pnc pdy pzz) (fX0_setOfSaying (fX0_become_o2 tpl tsp tsy tsh ppl psp psy psh tsc tnc tdy tzz psc pnc pdy pzz) v1 0 v5) (fX0_become_o3 tpl tsp tsy tsh ppl psp psy psh tsc tnc tdy tzz psc pnc pdy pzz) kpl ksp ksy ksh bs bt sz nm fd ik psc pnc pdy pzz (fX0_become_o4 tpl tsp tsy tsh ppl psp psy psh tsc tnc tdy tzz psc pnc pdy pzz) (fX0_become_o5 tpl tsp tsy tsh ppl psp psy psh tsc tnc tdy tzz psc pnc pdy pzz) (fX0_become_o6 tpl tsp tsy tsh ppl psp psy psh tsc tnc tdy tzz psc pnc pdy pzz) (fX0_become_o7 tpl tsp tsy tsh ppl psp psy psh tsc tnc tdy tzz psc pnc pdy pzz) ksc knc kdy kzz ln so be en va)) [6, 7, 8, 9, 10] [none, none, none, none, none, none, some 0, some 1, some 2, some 3, some 4, none, none, none, none, none, none, none, none, none, none, none, none] (rV C0 (tX0_setOfSaying l D cI cS a6 a7 a8 a9 a10 (fX0_become_o0 tpl tsp tsy tsh ppl psp psy psh tsc tnc tdy tzz psc pnc pdy pzz) (fX0_become_o1 tpl tsp tsy tsh ppl psp psy psh tsc tnc tdy tzz psc pnc pdy pzz) (fX0_become_o2 tpl tsp tsy tsh ppl psp psy psh tsc tnc tdy tzz psc pnc pdy pzz) (fX0_become_o3 tpl tsp tsy tsh ppl psp psy psh tsc tnc tdy tzz psc pnc pdy pzz) (fX0_become_o4 tpl tsp tsy tsh ppl psp psy psh tsc tnc tdy tzz psc pnc pdy pzz) (fX0_become_o5 tpl tsp tsy tsh ppl psp psy psh tsc tnc tdy tzz psc pnc pdy pzz) (fX0_become_o6 tpl tsp tsy tsh ppl psp psy psh tsc tnc tdy tzz psc pnc pdy pzz) (fX0_become_o7 tpl tsp tsy tsh ppl psp psy psh tsc tnc tdy tzz psc pnc pdy pzz) v1 0 v5 (fX0_setOfSaying (fX0_become_o2 tpl tsp tsy tsh ppl psp psy psh tsc tnc tdy tzz psc pnc pdy pzz) v1 0 v5) rfl (((hD (wX4 cI cS a0 a1 a2 a3 a4 a5 a6 a7 a8 a9 a10 a11 a12 a13 a14 a15 a16 a17 a18 a19 a20 a21 a22 ppl psp psy psh (fX0_become_o0 tpl tsp tsy tsh ppl psp psy psh tsc tnc tdy tzz psc pnc pdy pzz) (fX0_become_o1 tpl tsp tsy tsh ppl psp psy psh tsc tnc tdy tzz psc pnc pdy pzz) (fX0_become_o2 tpl tsp tsy tsh ppl psp psy psh tsc tnc tdy tzz psc pnc pdy pzz) (fX0_become_o3 tpl tsp tsy tsh ppl psp psy psh tsc tnc tdy tzz psc pnc pdy pzz) kpl ksp ksy ksh bs bt sz nm fd ik psc pnc pdy pzz (fX0_become_o4 tpl tsp tsy tsh ppl psp psy psh tsc tnc tdy tzz psc pnc pdy pzz) (fX0_become_o5 tpl tsp tsy tsh ppl psp psy psh tsc tnc tdy tzz psc pnc pdy pzz) (fX0_become_o6 tpl tsp tsy tsh ppl psp psy psh tsc tnc tdy tzz psc pnc pdy pzz) (fX0_become_o7 tpl tsp tsy tsh ppl psp psy psh tsc tnc tdy tzz psc pnc pdy pzz) ksc knc kdy kzz ln so be en va) rfl).sub [6, 7, 8, 9, 10] (by decide) rfl).weaken (fun _ _ _ _ => trivial))) RX0 gX4_kindFor_X0_setOfSaying rfl ⟨rfl, rfl⟩ pdX0_setOfSaying rfl ⟨Nat.le_of_ble_eq_true rfl, Nat.le_of_ble_eq_true rfl⟩ (fun _ _ _ _ q => q) (va_recv hE.1 hPc (ci := 0) (q0 := 0) rfl rfl) (fun U hU _ _ => by rw [hU]; exact hPc) hl.1 rfl (Nat.le_of_ble_eq_true rfl) dX4_kindFor_63 ⟨Nat.zero_le _, Nat.zero_le _⟩) hP (hD _ rfl) hS rfl rfl rfl (fun H locs hP hS => ?_)
      refine lv_aload_n hx hb dX4_kindFor_66 rfl (lv_at hl 0 rfl) ?_
      refine va_get (D := D) (ci := 3) (v := .ref a6) (C := RX4) (T := TX4) (N := 7) hx hb hts hinX4 hown hE.1 hP 0 rfl rfl 1 (by decide) (hts _ (List.mem_of_getElem? (i := 4) rfl)) (fun _ h9 => h9) rfl dX4_kindFor_67 ?_
      refine lv_iload_n hx hb dX4_kindFor_70 rfl (lv_at hl 2 rfl) ?_
      refine lv_bipush (v := 63) hx hb dX4_kindFor_71 (by decide) ?_
      obtain ⟨z_4, e_5, h⟩ := bds h
      have hPc := hP.sub (ws' := (wX0 cI cS a6 a7 a8 a9 a10 (fX0_become_o0 tpl tsp tsy tsh ppl psp psy psh tsc tnc tdy tzz psc pnc pdy pzz) (fX0_become_o1 tpl tsp tsy tsh ppl psp psy psh tsc tnc tdy tzz psc pnc pdy pzz) (fX0_setOfSaying (fX0_become_o2 tpl tsp tsy tsh ppl psp psy psh tsc tnc tdy tzz psc pnc pdy pzz) v1 0 v5) (fX0_become_o3 tpl tsp tsy tsh ppl psp psy psh tsc tnc tdy tzz psc pnc pdy pzz) (fX0_become_o4 tpl tsp tsy tsh ppl psp psy psh tsc tnc tdy tzz psc pnc pdy pzz) (fX0_become_o5 tpl tsp tsy tsh ppl psp psy psh tsc tnc tdy tzz psc pnc pdy pzz) (fX0_become_o6 tpl tsp tsy tsh ppl psp psy psh tsc tnc tdy tzz psc pnc pdy pzz) (fX0_become_o7 tpl tsp tsy tsh ppl psp psy psh tsc tnc tdy tzz psc pnc pdy pzz))) [6, 7, 8, 9, 10] rfl
      refine kMv (wf' := (wX4 cI cS a0 a1 a2 a3 a4 a5 a6 a7 a8 a9 a10 a11 a12 a13 a14 a15 a16 a17 a18 a19 a20 a21 a22 ppl psp psy psh (fX0_become_o0 tpl tsp tsy tsh ppl psp psy psh tsc tnc tdy tzz psc pnc pdy pzz) (fX0_become_o1 tpl tsp tsy tsh ppl psp psy psh tsc tnc tdy tzz psc pnc pdy pzz) z_4.1 z_4.2.1 kpl ksp ksy ksh bs bt sz nm fd ik psc pnc pdy pzz (fX0_become_o4 tpl tsp tsy tsh ppl psp psy psh tsc tnc tdy tzz psc pnc pdy pzz) (fX0_become_o5 tpl tsp tsy tsh ppl psp psy psh tsc tnc tdy tzz psc pnc pdy pzz) z_4.2.2 (fX0_become_o7 tpl tsp tsy tsh ppl psp psy psh tsc tnc tdy tzz psc pnc pdy pzz) ksc knc kdy kzz ln so be en va)) [6, 7, 8, 9, 10] [none, none, none, none, none, none, some 0, some 1, some 2, some 3, some 4, none, none, none, none, none, none, none, none, none, none, none, none] (rV C0 (tX0_passDays l D cI cS F a6 a7 a8 a9 a10 (fX0_become_o0 tpl tsp tsy tsh ppl psp psy psh tsc tnc tdy tzz psc pnc pdy pzz) (fX0_become_o1 tpl tsp tsy tsh ppl psp psy psh tsc tnc tdy tzz psc pnc pdy pzz) (fX0_setOfSaying (fX0_become_o2 tpl tsp tsy tsh ppl psp psy psh tsc tnc tdy tzz psc pnc pdy pzz) v1 0 v5) (fX0_become_o3 tpl tsp tsy tsh ppl psp psy psh tsc tnc tdy tzz psc pnc pdy pzz) (fX0_become_o4 tpl tsp tsy tsh ppl psp psy psh tsc tnc tdy tzz psc pnc pdy pzz) (fX0_become_o5 tpl tsp tsy tsh ppl psp psy psh tsc tnc tdy tzz psc pnc pdy pzz) (fX0_become_o6 tpl tsp tsy tsh ppl psp psy psh tsc tnc tdy tzz psc pnc pdy pzz) (fX0_become_o7 tpl tsp tsy tsh ppl psp psy psh tsc tnc tdy tzz psc pnc pdy pzz) v2 63 z_4.1 z_4.2.1 z_4.2.2 e_5 (((hD (wX4 cI cS a0 a1 a2 a3 a4 a5 a6 a7 a8 a9 a10 a11 a12 a13 a14 a15 a16 a17 a18 a19 a20 a21 a22 ppl psp psy psh (fX0_become_o0 tpl tsp tsy tsh ppl psp psy psh tsc tnc tdy tzz psc pnc pdy pzz) (fX0_become_o1 tpl tsp tsy tsh ppl psp psy psh tsc tnc tdy tzz psc pnc pdy pzz) (fX0_setOfSaying (fX0_become_o2 tpl tsp tsy tsh ppl psp psy psh tsc tnc tdy tzz psc pnc pdy pzz) v1 0 v5) (fX0_become_o3 tpl tsp tsy tsh ppl psp psy psh tsc tnc tdy tzz psc pnc pdy pzz) kpl ksp ksy ksh bs bt sz nm fd ik psc pnc pdy pzz (fX0_become_o4 tpl tsp tsy tsh ppl psp psy psh tsc tnc tdy tzz psc pnc pdy pzz) (fX0_become_o5 tpl tsp tsy tsh ppl psp psy psh tsc tnc tdy tzz psc pnc pdy pzz) (fX0_become_o6 tpl tsp tsy tsh ppl psp psy psh tsc tnc tdy tzz psc pnc pdy pzz) (fX0_become_o7 tpl tsp tsy tsh ppl psp psy psh tsc tnc tdy tzz psc pnc pdy pzz) ksc knc kdy kzz ln so be en va) rfl).sub [6, 7, 8, 9, 10] (by decide) rfl).weaken (fun _ _ _ _ => trivial))) RX0 gX4_kindFor_X0_passDays rfl ⟨rfl, rfl⟩ pdX0_passDays rfl ⟨Nat.le_of_ble_eq_true rfl, Nat.le_of_ble_eq_true rfl⟩ (fun _ _ _ _ q => q) (va_recv hE.1 hPc (ci := 0) (q0 := 0) rfl rfl) (fun U hU _ _ => by rw [hU]; exact hPc) hl.1 rfl (Nat.le_of_ble_eq_true rfl) dX4_kindFor_73 ⟨Nat.zero_le _, Nat.zero_le _⟩) hP (hD _ rfl) hS rfl rfl rfl (fun H locs hP hS => ?_)
      refine lv_aload_n hx hb dX4_kindFor_76 rfl (lv_at hl 0 rfl) ?_
      refine va_get (D := D) (ci := 3) (v := .ref a6) (C := RX4) (T := TX4) (N := 7) hx hb hts hinX4 hown hE.1 hP 0 rfl rfl 1 (by decide) (hts _ (List.mem_of_getElem? (i := 4) rfl)) (fun _ h9 => h9) rfl dX4_kindFor_77 ?_
      obtain ⟨z_6, e_7, h⟩ := bds h
      have hPc := hP.sub (ws' := (wX0 cI cS a6 a7 a8 a9 a10 (fX0_become_o0 tpl tsp tsy tsh ppl psp psy psh tsc tnc tdy tzz psc pnc pdy pzz) (fX0_become_o1 tpl tsp tsy tsh ppl psp psy psh tsc tnc tdy tzz psc pnc pdy pzz) z_4.1 z_4.2.1 (fX0_become_o4 tpl tsp tsy tsh ppl psp psy psh tsc tnc tdy tzz psc pnc pdy pzz) (fX0_become_o5 tpl tsp tsy tsh ppl psp psy psh tsc tnc tdy tzz psc pnc pdy pzz) z_4.2.2 (fX0_become_o7 tpl tsp tsy tsh ppl psp psy psh tsc tnc tdy tzz psc pnc pdy pzz))) [6, 7, 8, 9, 10] rfl
      refine kRi (rV C0 (tX0_waitedTogether l D cI cS F a6 a7 a8 a9 a10 (fX0_become_o0 tpl tsp tsy tsh ppl psp psy psh tsc tnc tdy tzz psc pnc pdy pzz) (fX0_become_o1 tpl tsp tsy tsh ppl psp psy psh tsc tnc tdy tzz psc pnc pdy pzz) z_4.1 z_4.2.1 (fX0_become_o4 tpl tsp tsy tsh ppl psp psy psh tsc tnc tdy tzz psc pnc pdy pzz) (fX0_become_o5 tpl tsp tsy tsh ppl psp psy psh tsc tnc tdy tzz psc pnc pdy pzz) z_4.2.2 (fX0_become_o7 tpl tsp tsy tsh ppl psp psy psh tsc tnc tdy tzz psc pnc pdy pzz)  z_6 e_7) RX0 gX4_kindFor_X0_waitedTogether rfl ⟨rfl, rfl⟩ pdX0_waitedTogether rfl ⟨Nat.le_of_ble_eq_true rfl, Nat.le_of_ble_eq_true rfl⟩ (fun _ _ _ _ q => q) (va_recv hE.1 hPc (ci := 0) (q0 := 0) rfl rfl) (fun U hU _ _ => by rw [hU]; exact hPc) hl.1 rfl (Nat.le_of_ble_eq_true rfl) dX4_kindFor_80 ⟨Nat.zero_le _, Nat.zero_le _⟩) ?_
      refine lv_istore (lv' := [(6, .int z_6), (0, .ref a0), (1, .int v1), (2, .int v2), (3, .int v3), (4, .int v4), (5, .int v5)]) hx hb dX4_kindFor_83 hl (by decide) rfl (fun ls hl => ?_)
      refine lv_iload hx hb dX4_kindFor_85 (lv_at hl 0 rfl) ?_
      refine lv_iload hx hb dX4_kindFor_87 (lv_at hl 5 rfl) ?_
      refine lv_icmp_ge (tgt := 99) hx hb dX4_kindFor_89 (by decide) (fun c_8 => ?_) (fun c_8 => ?_)
      · have h := ifp c_8 h
        refine lv_iinc (v := v5 + 1) (lv' := [(5, .int (v5 + 1)), (6, .int z_6), (0, .ref a0), (1, .int v1), (2, .int v2), (3, .int v3), (4, .int v4)]) hx hb dX4_kindFor_99 hl (k := 6) rfl rfl (by decide) rfl (fun ls hl => ?_)
        refine lv_goto (tgt := 37) hx hb dX4_kindFor_102 (by decide) ?_
        exact ih v3 v4 (v5 + 1) (fX0_become_o0 tpl tsp tsy tsh ppl psp psy psh tsc tnc tdy tzz psc pnc pdy pzz) (fX0_become_o1 tpl tsp tsy tsh ppl psp psy psh tsc tnc tdy tzz psc pnc pdy pzz) z_4.1 z_4.2.1 (fX0_become_o4 tpl tsp tsy tsh ppl psp psy psh tsc tnc tdy tzz psc pnc pdy pzz) (fX0_become_o5 tpl tsp tsy tsh ppl psp psy psh tsc tnc tdy tzz psc pnc pdy pzz) z_4.2.2 (fX0_become_o7 tpl tsp tsy tsh ppl psp psy psh tsc tnc tdy tzz psc pnc pdy pzz) _ _ hP hS _ (lv_sub hl [2, 3, 4, 5, 6, 0] rfl) h
      · have h := ifn c_8 h
        refine lv_iload hx hb dX4_kindFor_92 (lv_at hl 0 rfl) ?_
        refine lv_istore (lv' := [(4, .int z_6), (6, .int z_6), (0, .ref a0), (1, .int v1), (2, .int v2), (3, .int v3), (5, .int v5)]) hx hb dX4_kindFor_94 hl (by decide) rfl (fun ls hl => ?_)
        refine lv_iload hx hb dX4_kindFor_96 (lv_at hl 6 rfl) ?_
        refine lv_istore_n (lv' := [(3, .int v5), (4, .int z_6), (6, .int z_6), (0, .ref a0), (1, .int v1), (2, .int v2), (5, .int v5)]) hx hb dX4_kindFor_98 rfl hl (by decide) rfl (fun ls hl => ?_)
        refine lv_iinc (v := v5 + 1) (lv' := [(5, .int (v5 + 1)), (3, .int v5), (4, .int z_6), (6, .int z_6), (0, .ref a0), (1, .int v1), (2, .int v2)]) hx hb dX4_kindFor_99 hl (k := 6) rfl rfl (by decide) rfl (fun ls hl => ?_)
        refine lv_goto (tgt := 37) hx hb dX4_kindFor_102 (by decide) ?_
        exact ih v5 z_6 (v5 + 1) (fX0_become_o0 tpl tsp tsy tsh ppl psp psy psh tsc tnc tdy tzz psc pnc pdy pzz) (fX0_become_o1 tpl tsp tsy tsh ppl psp psy psh tsc tnc tdy tzz psc pnc pdy pzz) z_4.1 z_4.2.1 (fX0_become_o4 tpl tsp tsy tsh ppl psp psy psh tsc tnc tdy tzz psc pnc pdy pzz) (fX0_become_o5 tpl tsp tsy tsh ppl psp psy psh tsc tnc tdy tzz psc pnc pdy pzz) z_4.2.2 (fX0_become_o7 tpl tsp tsy tsh ppl psp psy psh tsc tnc tdy tzz psc pnc pdy pzz) _ _ hP hS _ (lv_sub hl [4, 5, 6, 1, 2, 0] rfl) h
set_option maxHeartbeats 4000000 in
set_option maxRecDepth 100000 in
theorem tX4_kindFor (l : Launch) (D : va_G) (cI cS : ClassId) (F : Nat) (a0 a1 a2 a3 a4 a5 a6 a7 a8 a9 a10 a11 a12 a13 a14 a15 a16 a17 a18 a19 a20 a21 a22 : Nat) (ppl : Nat → Int32) (psp : Nat → Int32) (psy : Nat → Int32) (psh : Nat → Int32) (tpl : Nat → Int32) (tsp : Nat → Int32) (tsy : Nat → Int32) (tsh : Nat → Int32) (kpl : Nat → Int32) (ksp : Nat → Int32) (ksy : Nat → Int32) (ksh : Nat → Int32) (bs : Nat → Int32) (bt : Nat → Int32) (sz : Nat → Int32) (nm : Nat → Int32) (fd : Nat → Int32) (ik : Int32) (psc : Int32) (pnc : Int32) (pdy : Int32) (pzz : Int32) (tsc : Int32) (tnc : Int32) (tdy : Int32) (tzz : Int32) (ksc : Int32) (knc : Int32) (kdy : Int32) (kzz : Int32) (ln : Int32) (so : Int32) (be : Int32) (en : Int32) (va : Int32) (v1 : Int32) (v2 : Int32) (z0 : Int32) (z1 : Nat → Int32) (z2 : Nat → Int32) (z3 : Nat → Int32) (z4 : Nat → Int32) (z5 : Nat → Int32) (z6 : Int32) (z7 : Int32) (z8 : Int32) (z9 : Int32) (h : fX4_kindFor F ppl psp psy psh tpl tsp tsy tsh fd psc pnc pdy pzz tsc tnc tdy tzz v1 v2 = some (z0, z1, z2, z3, z4, z5, z6, z7, z8, z9)) (hD0 : va_D (fun _ => True) (wX4 cI cS a0 a1 a2 a3 a4 a5 a6 a7 a8 a9 a10 a11 a12 a13 a14 a15 a16 a17 a18 a19 a20 a21 a22 ppl psp psy psh tpl tsp tsy tsh kpl ksp ksy ksh bs bt sz nm fd ik psc pnc pdy pzz tsc tnc tdy tzz ksc knc kdy kzz ln so be en va)) : Met l yX4_kindFor wsX4_kindFor rmX4_kindFor (PZ D cI cS [.ref a0, .int v1, .int v2] (fun U => va_P D vwCl (wX4 cI cS a0 a1 a2 a3 a4 a5 a6 a7 a8 a9 a10 a11 a12 a13 a14 a15 a16 a17 a18 a19 a20 a21 a22 ppl psp psy psh tpl tsp tsy tsh kpl ksp ksy ksh bs bt sz nm fd ik psc pnc pdy pzz tsc tnc tdy tzz ksc knc kdy kzz ln so be en va) U.heap)) (qI D (wX4 cI cS a0 a1 a2 a3 a4 a5 a6 a7 a8 a9 a10 a11 a12 a13 a14 a15 a16 a17 a18 a19 a20 a21 a22 ppl psp psy psh tpl tsp tsy tsh kpl ksp ksy ksh bs bt sz nm fd ik psc pnc pdy pzz tsc tnc tdy tzz ksc knc kdy kzz ln so be en va) (wX4 cI cS a0 a1 a2 a3 a4 a5 a6 a7 a8 a9 a10 a11 a12 a13 a14 a15 a16 a17 a18 a19 a20 a21 a22 ppl psp psy psh z1 z2 z3 z4 kpl ksp ksy ksh bs bt sz nm z5 ik psc pnc pdy pzz z6 z7 z8 z9 ksc knc kdy kzz ln so be en va) z0) 0 0 (wA (wX4 cI cS a0 a1 a2 a3 a4 a5 a6 a7 a8 a9 a10 a11 a12 a13 a14 a15 a16 a17 a18 a19 a20 a21 a22 ppl psp psy psh tpl tsp tsy tsh kpl ksp ksy ksh bs bt sz nm fd ik psc pnc pdy pzz tsc tnc tdy tzz ksc knc kdy kzz ln so be en va)) := by
  refine Met.mk RX4 (by decide) rfl rfl (Nat.le_of_ble_eq_true rfl) ?_
  intro p e s m below meth c ls C0 hP hl
  have hl : lv_has ls 7 [(0, .ref a0), (1, .int v1), (2, .int v2)] := hl
  obtain ⟨hx, hb, hr, hml, hown, hts, hlk, hE⟩ := id C0
  have hinX4 : ∀ w ∈ u_ws RX4 TX4 7, w ∈ wsX4_kindFor := by decide +kernel
  have hD : ∀ W : va_W, W.map Prod.fst = [a0, a1, a2, a3, a4, a5, a6, a7, a8, a9, a10, a11, a12, a13, a14, a15, a16, a17, a18, a19, a20, a21, a22] → va_D (wA (wX4 cI cS a0 a1 a2 a3 a4 a5 a6 a7 a8 a9 a10 a11 a12 a13 a14 a15 a16 a17 a18 a19 a20 a21 a22 ppl psp psy psh tpl tsp tsy tsh kpl ksp ksy ksh bs bt sz nm fd ik psc pnc pdy pzz tsc tnc tdy tzz ksc knc kdy kzz ln so be en va)) W := fun W hW => hD0.own.re hW
  have hS : va_S (wA (wX4 cI cS a0 a1 a2 a3 a4 a5 a6 a7 a8 a9 a10 a11 a12 a13 a14 a15 a16 a17 a18 a19 a20 a21 a22 ppl psp psy psh tpl tsp tsy tsh kpl ksp ksy ksh bs bt sz nm fd ik psc pnc pdy pzz tsc tnc tdy tzz ksc knc kdy kzz ln so be en va)) s.heap s.heap [] := va_S.rf
  have hP : va_P D vwCl (wX4 cI cS a0 a1 a2 a3 a4 a5 a6 a7 a8 a9 a10 a11 a12 a13 a14 a15 a16 a17 a18 a19 a20 a21 a22 ppl psp psy psh tpl tsp tsy tsh kpl ksp ksy ksh bs bt sz nm fd ik psc pnc pdy pzz tsc tnc tdy tzz ksc knc kdy kzz ln so be en va) s.heap := hP
  rw [fX4_kindFor] at h
  refine lv_aload_n hx hb dX4_kindFor_0 rfl (lv_at hl 0 rfl) ?_
  refine va_get (D := D) (ci := 3) (v := .ref a1) (C := RX4) (T := TX4) (N := 7) hx hb hts hinX4 hown hE.1 hP 0 rfl rfl 0 (by decide) (hts _ (List.mem_of_getElem? (i := 1) rfl)) (fun _ h9 => h9) rfl dX4_kindFor_1 ?_
  refine lv_iload_n hx hb dX4_kindFor_4 rfl (lv_at hl 1 rfl) ?_
  have hPc := hP.sub (ws' := (wX0 cI cS a1 a2 a3 a4 a5 ppl psp psy psh psc pnc pdy pzz)) [1, 2, 3, 4, 5] rfl
  refine kRi (rV C0 (tX0_hasSaying l D cI cS a1 a2 a3 a4 a5 ppl psp psy psh psc pnc pdy pzz v1 (fX0_hasSaying psc v1) rfl) RX0 gX4_kindFor_X0_hasSaying rfl ⟨rfl, rfl⟩ pdX0_hasSaying rfl ⟨Nat.le_of_ble_eq_true rfl, Nat.le_of_ble_eq_true rfl⟩ (fun _ _ _ _ q => q) (va_recv hE.1 hPc (ci := 0) (q0 := 0) rfl rfl) (fun U hU _ _ => by rw [hU]; exact hPc) hl.1 rfl (Nat.le_of_ble_eq_true rfl) dX4_kindFor_5 ⟨Nat.zero_le _, Nat.zero_le _⟩) ?_
  refine lv_if_eq (tgt := 21) hx hb dX4_kindFor_8 (by decide) (fun c_1 => ?_) (fun c_1 => ?_)
  · have h := ifp c_1 h
    refine lv_aload_n hx hb dX4_kindFor_21 rfl (lv_at hl 0 rfl) ?_
    refine lv_ldc (v := (-1000001)) hx hb hown (hts _ (List.mem_of_getElem? (i := 2) rfl)) dX4_kindFor_22 ?_
    have hPc := hP.sub (ws' := (wX4 cI cS a0 a1 a2 a3 a4 a5 a6 a7 a8 a9 a10 a11 a12 a13 a14 a15 a16 a17 a18 a19 a20 a21 a22 ppl psp psy psh tpl tsp tsy tsh kpl ksp ksy ksh bs bt sz nm fd ik psc pnc pdy pzz tsc tnc tdy tzz ksc knc kdy kzz ln so be en va)) [0, 1, 2, 3, 4, 5, 6, 7, 8, 9, 10, 11, 12, 13, 14, 15, 16, 17, 18, 19, 20, 21, 22] rfl
    refine kMi (wf' := (wX4 cI cS a0 a1 a2 a3 a4 a5 a6 a7 a8 a9 a10 a11 a12 a13 a14 a15 a16 a17 a18 a19 a20 a21 a22 ppl psp psy psh tpl tsp tsy tsh kpl ksp ksy ksh bs bt sz nm (fX4_finding_o1 fd (-1000001)) ik psc pnc pdy pzz tsc tnc tdy tzz ksc knc kdy kzz ln so be en va)) [0, 1, 2, 3, 4, 5, 6, 7, 8, 9, 10, 11, 12, 13, 14, 15, 16, 17, 18, 19, 20, 21, 22] [some 0, some 1, some 2, some 3, some 4, some 5, some 6, some 7, some 8, some 9, some 10, some 11, some 12, some 13, some 14, some 15, some 16, some 17, some 18, some 19, some 20, some 21, some 22] (rV C0 (tX4_finding l D cI cS a0 a1 a2 a3 a4 a5 a6 a7 a8 a9 a10 a11 a12 a13 a14 a15 a16 a17 a18 a19 a20 a21 a22 ppl psp psy psh tpl tsp tsy tsh kpl ksp ksy ksh bs bt sz nm fd ik psc pnc pdy pzz tsc tnc tdy tzz ksc knc kdy kzz ln so be en va (-1000001) (-1000001) (fX4_finding_o1 fd (-1000001)) (eeX4_finding ..) (((hD (wX4 cI cS a0 a1 a2 a3 a4 a5 a6 a7 a8 a9 a10 a11 a12 a13 a14 a15 a16 a17 a18 a19 a20 a21 a22 ppl psp psy psh tpl tsp tsy tsh kpl ksp ksy ksh bs bt sz nm fd ik psc pnc pdy pzz tsc tnc tdy tzz ksc knc kdy kzz ln so be en va) rfl).sub [0, 1, 2, 3, 4, 5, 6, 7, 8, 9, 10, 11, 12, 13, 14, 15, 16, 17, 18, 19, 20, 21, 22] (by decide) rfl).weaken (fun _ _ _ _ => trivial))) RX4 gX4_kindFor_X4_finding rfl ⟨rfl, rfl⟩ pdX4_finding rfl ⟨Nat.le_of_ble_eq_true rfl, Nat.le_of_ble_eq_true rfl⟩ (fun _ _ _ _ q => q) (va_recv hE.1 hPc (ci := 3) (q0 := 0) rfl rfl) (fun U hU _ _ => by rw [hU]; exact hPc) hl.1 rfl (Nat.le_of_ble_eq_true rfl) dX4_kindFor_24 ⟨Nat.zero_le _, Nat.zero_le _⟩) hP (hD _ rfl) hS rfl rfl rfl (fun H locs hP hS => ?_)
    obtain ⟨q0, g0⟩ := Prod.mk.inj (Option.some.inj h)
    obtain ⟨q1, g1⟩ := Prod.mk.inj g0
    obtain ⟨q2, g2⟩ := Prod.mk.inj g1
    obtain ⟨q3, g3⟩ := Prod.mk.inj g2
    obtain ⟨q4, g4⟩ := Prod.mk.inj g3
    obtain ⟨q5, g5⟩ := Prod.mk.inj g4
    obtain ⟨q6, g6⟩ := Prod.mk.inj g5
    obtain ⟨q7, g7⟩ := Prod.mk.inj g6
    obtain ⟨q8, q9⟩ := Prod.mk.inj g7
    subst q0 q1 q2 q3 q4 q5 q6 q7 q8 q9
    exact eMi C0 hP hS rfl rfl dX4_kindFor_27
  · have h := ifn c_1 h
    refine lv_iload_n hx hb dX4_kindFor_11 rfl (lv_at hl 2 rfl) ?_
    refine lv_iconst (v := 0) hx hb dX4_kindFor_12 (by decide) ?_
    refine lv_bipush (v := 40) hx hb dX4_kindFor_13 (by decide) ?_
    refine kRi (rS C0 (tX4_within l D cI cS v2 0 40 (fX4_within v2 0 40) rfl) gX4_kindFor_X4_within rfl ⟨rfl, rfl⟩ pdX4_within rfl ⟨Nat.le_of_ble_eq_true rfl, Nat.le_of_ble_eq_true rfl⟩ (fun _ _ _ _ q => q) (fun _ _ _ _ => vp0) hl.1 rfl (Nat.le_of_ble_eq_true rfl) dX4_kindFor_15 ⟨Nat.zero_le _, Nat.zero_le _⟩) ?_
    refine lv_if_ne (tgt := 28) hx hb dX4_kindFor_18 (by decide) (fun c_2 => ?_) (fun c_2 => ?_)
    · have h := ifn c_2 h
      refine lv_iconst (v := 0) hx hb dX4_kindFor_28 (by decide) ?_
      refine lv_istore_n (lv' := [(3, .int 0), (0, .ref a0), (1, .int v1), (2, .int v2)]) hx hb dX4_kindFor_29 rfl hl (by decide) rfl (fun ls hl => ?_)
      refine lv_ldc (v := 59995) hx hb hown (hts _ (List.mem_of_getElem? (i := 3) rfl)) dX4_kindFor_30 ?_
      refine lv_istore (lv' := [(4, .int 59995), (3, .int 0), (0, .ref a0), (1, .int v1), (2, .int v2)]) hx hb dX4_kindFor_32 hl (by decide) rfl (fun ls hl => ?_)
      refine lv_iconst (v := 0) hx hb dX4_kindFor_34 (by decide) ?_
      refine lv_istore (lv' := [(5, .int 0), (4, .int 59995), (3, .int 0), (0, .ref a0), (1, .int v1), (2, .int v2)]) hx hb dX4_kindFor_35 hl (by decide) rfl (fun ls hl => ?_)
      exact lX4_kindFor_37 (l := l) (e := e) (below := below) C0 F ppl psp psy psh kpl ksp ksy ksh bs bt sz nm fd ik psc pnc pdy pzz ksc knc kdy kzz ln so be en va v1 v2 z0 z1 z2 z3 z4 z5 z6 z7 z8 z9 hD F 0 59995 0 tpl tsp tsy tsh tsc tnc tdy tzz _ _ hP hS _ (lv_sub hl [3, 4, 5, 2, 1, 0] rfl) h
    · have h := ifp c_2 h
      refine lv_aload_n hx hb dX4_kindFor_21 rfl (lv_at hl 0 rfl) ?_
      refine lv_ldc (v := (-1000001)) hx hb hown (hts _ (List.mem_of_getElem? (i := 2) rfl)) dX4_kindFor_22 ?_
      have hPc := hP.sub (ws' := (wX4 cI cS a0 a1 a2 a3 a4 a5 a6 a7 a8 a9 a10 a11 a12 a13 a14 a15 a16 a17 a18 a19 a20 a21 a22 ppl psp psy psh tpl tsp tsy tsh kpl ksp ksy ksh bs bt sz nm fd ik psc pnc pdy pzz tsc tnc tdy tzz ksc knc kdy kzz ln so be en va)) [0, 1, 2, 3, 4, 5, 6, 7, 8, 9, 10, 11, 12, 13, 14, 15, 16, 17, 18, 19, 20, 21, 22] rfl
      refine kMi (wf' := (wX4 cI cS a0 a1 a2 a3 a4 a5 a6 a7 a8 a9 a10 a11 a12 a13 a14 a15 a16 a17 a18 a19 a20 a21 a22 ppl psp psy psh tpl tsp tsy tsh kpl ksp ksy ksh bs bt sz nm (fX4_finding_o1 fd (-1000001)) ik psc pnc pdy pzz tsc tnc tdy tzz ksc knc kdy kzz ln so be en va)) [0, 1, 2, 3, 4, 5, 6, 7, 8, 9, 10, 11, 12, 13, 14, 15, 16, 17, 18, 19, 20, 21, 22] [some 0, some 1, some 2, some 3, some 4, some 5, some 6, some 7, some 8, some 9, some 10, some 11, some 12, some 13, some 14, some 15, some 16, some 17, some 18, some 19, some 20, some 21, some 22] (rV C0 (tX4_finding l D cI cS a0 a1 a2 a3 a4 a5 a6 a7 a8 a9 a10 a11 a12 a13 a14 a15 a16 a17 a18 a19 a20 a21 a22 ppl psp psy psh tpl tsp tsy tsh kpl ksp ksy ksh bs bt sz nm fd ik psc pnc pdy pzz tsc tnc tdy tzz ksc knc kdy kzz ln so be en va (-1000001) (-1000001) (fX4_finding_o1 fd (-1000001)) (eeX4_finding ..) (((hD (wX4 cI cS a0 a1 a2 a3 a4 a5 a6 a7 a8 a9 a10 a11 a12 a13 a14 a15 a16 a17 a18 a19 a20 a21 a22 ppl psp psy psh tpl tsp tsy tsh kpl ksp ksy ksh bs bt sz nm fd ik psc pnc pdy pzz tsc tnc tdy tzz ksc knc kdy kzz ln so be en va) rfl).sub [0, 1, 2, 3, 4, 5, 6, 7, 8, 9, 10, 11, 12, 13, 14, 15, 16, 17, 18, 19, 20, 21, 22] (by decide) rfl).weaken (fun _ _ _ _ => trivial))) RX4 gX4_kindFor_X4_finding rfl ⟨rfl, rfl⟩ pdX4_finding rfl ⟨Nat.le_of_ble_eq_true rfl, Nat.le_of_ble_eq_true rfl⟩ (fun _ _ _ _ q => q) (va_recv hE.1 hPc (ci := 3) (q0 := 0) rfl rfl) (fun U hU _ _ => by rw [hU]; exact hPc) hl.1 rfl (Nat.le_of_ble_eq_true rfl) dX4_kindFor_24 ⟨Nat.zero_le _, Nat.zero_le _⟩) hP (hD _ rfl) hS rfl rfl rfl (fun H locs hP hS => ?_)
      obtain ⟨q0, g0⟩ := Prod.mk.inj (Option.some.inj h)
      obtain ⟨q1, g1⟩ := Prod.mk.inj g0
      obtain ⟨q2, g2⟩ := Prod.mk.inj g1
      obtain ⟨q3, g3⟩ := Prod.mk.inj g2
      obtain ⟨q4, g4⟩ := Prod.mk.inj g3
      obtain ⟨q5, g5⟩ := Prod.mk.inj g4
      obtain ⟨q6, g6⟩ := Prod.mk.inj g5
      obtain ⟨q7, g7⟩ := Prod.mk.inj g6
      obtain ⟨q8, q9⟩ := Prod.mk.inj g7
      subst q0 q1 q2 q3 q4 q5 q6 q7 q8 q9
      exact eMi C0 hP hS rfl rfl dX4_kindFor_27
def fX4_allLandIfFinished_13 (k : (Nat → Int32) → Option (Int32 × (Nat → Int32) × (Nat → Int32) × (Nat → Int32) × (Nat → Int32) × Int32 × Int32 × Int32 × Int32)) (tsc : Int32) (v1 : Int32) : Nat → Int32 → (Nat → Int32) → Option (Int32 × (Nat → Int32) × (Nat → Int32) × (Nat → Int32) × (Nat → Int32) × Int32 × Int32 × Int32 × Int32)
  | 0, _, _ => none
  | n + 1, v3, tsy => (if tsc ≤ v3 then k tsy else (if ((v1 >>> (v3 &&& 31)) &&& 1) = 1 then fX4_allLandIfFinished_13 k tsc v1 n (v3 + 1) (fX0_setOfSaying tsy v3 3 1) else fX4_allLandIfFinished_13 k tsc v1 n (v3 + 1) tsy))
def fX4_allLandIfFinished_51 (F : Nat) (tpl : Nat → Int32) (tsp : Nat → Int32) (tsc : Int32) (tnc : Int32) (tzz : Int32) : Nat → Int32 → (Nat → Int32) → (Nat → Int32) → Int32 → Option (Int32 × (Nat → Int32) × (Nat → Int32) × (Nat → Int32) × (Nat → Int32) × Int32 × Int32 × Int32 × Int32)
  | 0, _, _, _, _ => none
  | n + 1, v3, tsy, tsh, tdy => (if v3 ≤ 0 then Option.bind (fX0_couldAllLand F tsh tnc 0) (fun z_5 => some (z_5, tpl, tsp, tsy, tsh, tsc, tnc, tdy, tzz)) else Option.bind (fX0_couldAllLand F tsh tnc v3) (fun z_7 => (if z_7 = 0 then some (0, tpl, tsp, tsy, tsh, tsc, tnc, tdy, tzz) else Option.bind (fX0_passDays F tpl tsy tsh tsc tnc tdy 1 63) (fun z_10 => fX4_allLandIfFinished_51 F tpl tsp tsc tnc tzz n (v3 + (-1)) z_10.1 z_10.2.1 z_10.2.2))))
def fX4_allLandIfFinished (F : Nat) (ppl : Nat → Int32) (psp : Nat → Int32) (psy : Nat → Int32) (psh : Nat → Int32) (tpl : Nat → Int32) (tsp : Nat → Int32) (tsy : Nat → Int32) (tsh : Nat → Int32) (psc : Int32) (pnc : Int32) (pdy : Int32) (pzz : Int32) (tsc : Int32) (tnc : Int32) (tdy : Int32) (tzz : Int32) (v1 : Int32) (v2 : Int32) : Option (Int32 × (Nat → Int32) × (Nat → Int32) × (Nat → Int32) × (Nat → Int32) × Int32 × Int32 × Int32 × Int32) := fX4_allLandIfFinished_13 (fun tsy__3 => fX4_allLandIfFinished_51 F (fX0_become_o0 tpl tsp tsy tsh ppl psp psy psh tsc tnc tdy tzz psc pnc pdy pzz) (fX0_become_o1 tpl tsp tsy tsh ppl psp psy psh tsc tnc tdy tzz psc pnc pdy pzz) (fX0_become_o4 tpl tsp tsy tsh ppl psp psy psh tsc tnc tdy tzz psc pnc pdy pzz) (fX0_become_o5 tpl tsp tsy tsh ppl psp psy psh tsc tnc tdy tzz psc pnc pdy pzz) (fX0_become_o7 tpl tsp tsy tsh ppl psp psy psh tsc tnc tdy tzz psc pnc pdy pzz) F v2 tsy__3 (fX0_become_o3 tpl tsp tsy tsh ppl psp psy psh tsc tnc tdy tzz psc pnc pdy pzz) (fX0_become_o6 tpl tsp tsy tsh ppl psp psy psh tsc tnc tdy tzz psc pnc pdy pzz)) (fX0_become_o4 tpl tsp tsy tsh ppl psp psy psh tsc tnc tdy tzz psc pnc pdy pzz) v1 F 0 (fX0_become_o2 tpl tsp tsy tsh ppl psp psy psh tsc tnc tdy tzz psc pnc pdy pzz)
abbrev rmX4_allLandIfFinished : Room := { frames := 5, cells := 0, slots := 0, locals := 120 }
theorem pdX4_allLandIfFinished : (yX4_allLandIfFinished.cls = RX4 ∧ yX4_allLandIfFinished.cls ≠ "java/lang/invoke/MethodHandle" ∧ yX4_allLandIfFinished.cls ≠ "java/lang/invoke/VarHandle" ∧ (parseMethodDescriptor yX4_allLandIfFinished.desc).map (fun d => d.parameters.length) = some 2) := by decide +kernel
set_option maxHeartbeats 4000000 in
set_option maxRecDepth 100000 in
theorem lX4_allLandIfFinished_13 {p : Program} {l : Launch} {e : Env} {s : State} {m : MethodId} {av : Array Value} {below : List Frame} {meth : Method} {c : Code} {D : va_G} {cI cS : ClassId} {a0 a1 a2 a3 a4 a5 a6 a7 a8 a9 a10 a11 a12 a13 a14 a15 a16 a17 a18 a19 a20 a21 a22 : Nat} {W0 : va_W} (C0 : CX p s m av meth c RX4 cX4_allLandIfFinished 4 (some .boolean) wsX4_allLandIfFinished D cI cS) (F : Nat) (k : (Nat → Int32) → Option (Int32 × (Nat → Int32) × (Nat → Int32) × (Nat → Int32) × (Nat → Int32) × Int32 × Int32 × Int32 × Int32)) (ppl : Nat → Int32) (psp : Nat → Int32) (psy : Nat → Int32) (psh : Nat → Int32) (tpl : Nat → Int32) (tsp : Nat → Int32) (tsh : Nat → Int32) (kpl : Nat → Int32) (ksp : Nat → Int32) (ksy : Nat → Int32) (ksh : Nat → Int32) (bs : Nat → Int32) (bt : Nat → Int32) (sz : Nat → Int32) (nm : Nat → Int32) (fd : Nat → Int32) (ik : Int32) (psc : Int32) (pnc : Int32) (pdy : Int32) (pzz : Int32) (tsc : Int32) (tnc : Int32) (tdy : Int32) (tzz : Int32) (ksc : Int32) (knc : Int32) (kdy : Int32) (kzz : Int32) (ln : Int32) (so : Int32) (be : Int32) (en : Int32) (va : Int32) (v1 : Int32) (v2 : Int32) (z0 : Int32) (z1 : Nat → Int32) (z2 : Nat → Int32) (z3 : Nat → Int32) (z4 : Nat → Int32) (z5 : Int32) (z6 : Int32) (z7 : Int32) (z8 : Int32) (hD : ∀ W : va_W, W.map Prod.fst = [a0, a1, a2, a3, a4, a5, a6, a7, a8, a9, a10, a11, a12, a13, a14, a15, a16, a17, a18, a19, a20, a21, a22] → va_D (wA W0) W) (kk : ∀ (tsy : Nat → Int32) (H : Heap) (locs : List Loc), va_P D vwCl (wX4 cI cS a0 a1 a2 a3 a4 a5 a6 a7 a8 a9 a10 a11 a12 a13 a14 a15 a16 a17 a18 a19 a20 a21 a22 ppl psp psy psh tpl tsp tsy tsh kpl ksp ksy ksh bs bt sz nm fd ik psc pnc pdy pzz tsc tnc tdy tzz ksc knc kdy kzz ln so be en va) H → va_S (wA W0) s.heap H locs → ∀ (ls : Array Slot), lv_has ls 4 [(0, .ref a0), (2, .int v2)] → k tsy = some (z0, z1, z2, z3, z4, z5, z6, z7, z8) → W p l e rmX4_allLandIfFinished s m av below meth c H locs 0 0 (MQ below (qI D W0 (wX4 cI cS a0 a1 a2 a3 a4 a5 a6 a7 a8 a9 a10 a11 a12 a13 a14 a15 a16 a17 a18 a19 a20 a21 a22 ppl psp psy psh z1 z2 z3 z4 kpl ksp ksy ksh bs bt sz nm fd ik psc pnc pdy pzz z5 z6 z7 z8 ksc knc kdy kzz ln so be en va) z0) av s 0 0 (wA W0)) (F0 m 49 ls [])) : ∀ (n : Nat) (v3 : Int32) (tsy : Nat → Int32) (H : Heap) (locs : List Loc), va_P D vwCl (wX4 cI cS a0 a1 a2 a3 a4 a5 a6 a7 a8 a9 a10 a11 a12 a13 a14 a15 a16 a17 a18 a19 a20 a21 a22 ppl psp psy psh tpl tsp tsy tsh kpl ksp ksy ksh bs bt sz nm fd ik psc pnc pdy pzz tsc tnc tdy tzz ksc knc kdy kzz ln so be en va) H → va_S (wA W0) s.heap H locs → ∀ (ls : Array Slot), lv_has ls 4 [(0, .ref a0), (1, .int v1), (2, .int v2), (3, .int v3)] → fX4_allLandIfFinished_13 k tsc v1 n v3 tsy = some (z0, z1, z2, z3, z4, z5, z6, z7, z8) → W p l e rmX4_allLandIfFinished s m av below meth c H locs 0 0 (MQ below (qI D W0 (wX4 cI cS a0 a1 a2 a3 a4 a5 a6 a7 a8 a9 a10 a11 a12 a13 a14 a15 a16 a17 a18 a19 a20 a21 a22 ppl psp psy psh z1 z2 z3 z4 kpl ksp ksy ksh bs bt sz nm fd ik psc pnc pdy pzz z5 z6 z7 z8 ksc knc kdy kzz ln so be en va) z0) av s 0 0 (wA W0)) (F0 m 13 ls []) := by
  obtain ⟨hx, hb, hr, hml, hown, hts, hlk, hE⟩ := id C0
  have hinX0 : ∀ w ∈ u_ws RX0 TX0 8, w ∈ wsX4_allLandIfFinished := by decide +kernel
  have hinX4 : ∀ w ∈ u_ws RX4 TX4 7, w ∈ wsX4_allLandIfFinished := by decide +kernel
  intro n
  induction n with
  | zero =>
    intro v3 tsy H locs hP hS ls hl h
    cases (show none = some (z0, z1, z2, z3, z4, z5, z6, z7, z8) from h)
  | succ n ih =>
    intro v3 tsy H locs hP hS ls hl h
    rw [fX4_allLandIfFinished_13] at h
    refine lv_iload_n hx hb dX4_allLandIfFinished_13 rfl (lv_at hl 3 rfl) ?_
    refine lv_aload_n hx hb dX4_allLandIfFinished_14 rfl (lv_at hl 0 rfl) ?_
    refine va_get (D := D) (ci := 3) (v := .ref a6) (C := RX4) (T := TX4) (N := 7) hx hb hts hinX4 hown hE.1 hP 0 rfl rfl 1 (by decide) (hts _ (List.mem_of_getElem? (i := 1) rfl)) (fun _ h9 => h9) rfl dX4_allLandIfFinished_15 ?_
    refine va_getN (D := D) (ci := 0) (v := .int tsc) (C := RX0) (T := TX0) (N := 8) hx hb hts hinX0 hown hE.1 hP 6 rfl rfl 4 (by decide) (va_Nw.use rfl (hE.2 _ (List.mem_of_getElem? (i := 0) rfl))) (fun _ h9 => h9) rfl dX4_allLandIfFinished_18 ?_
    refine lv_icmp_ge (tgt := 49) hx hb dX4_allLandIfFinished_21 (by decide) (fun c_1 => ?_) (fun c_1 => ?_)
    · have h := ifp c_1 h
      exact kk tsy _ _ hP hS _ (lv_sub hl [0, 2] rfl) h
    · have h := ifn c_1 h
      refine lv_iload_n hx hb dX4_allLandIfFinished_24 rfl (lv_at hl 1 rfl) ?_
      refine lv_iload_n hx hb dX4_allLandIfFinished_25 rfl (lv_at hl 3 rfl) ?_
      refine lv_ishr hx hb dX4_allLandIfFinished_26 ?_
      refine lv_iconst (v := 1) hx hb dX4_allLandIfFinished_27 (by decide) ?_
      refine lv_iand hx hb dX4_allLandIfFinished_28 ?_
      refine lv_iconst (v := 1) hx hb dX4_allLandIfFinished_29 (by decide) ?_
      refine lv_icmp_ne (tgt := 43) hx hb dX4_allLandIfFinished_30 (by decide) (fun c_2 => ?_) (fun c_2 => ?_)
      · have h := ifn c_2 h
        refine lv_iinc (v := v3 + 1) (lv' := [(3, .int (v3 + 1)), (0, .ref a0), (1, .int v1), (2, .int v2)]) hx hb dX4_allLandIfFinished_43 hl (k := 3) rfl rfl (by decide) rfl (fun ls hl => ?_)
        refine lv_goto (tgt := 13) hx hb dX4_allLandIfFinished_46 (by decide) ?_
        exact ih (v3 + 1) tsy _ _ hP hS _ (lv_sub hl [1, 2, 3, 0] rfl) h
      · have h := ifp c_2 h
        refine lv_aload_n hx hb dX4_allLandIfFinished_33 rfl (lv_at hl 0 rfl) ?_
        refine va_get (D := D) (ci := 3) (v := .ref a6) (C := RX4) (T := TX4) (N := 7) hx hb hts hinX4 hown hE.1 hP 0 rfl rfl 1 (by decide) (hts _ (List.mem_of_getElem? (i := 1) rfl)) (fun _ h9 => h9) rfl dX4_allLandIfFinished_34 ?_
        refine lv_iload_n hx hb dX4_allLandIfFinished_37 rfl (lv_at hl 3 rfl) ?_
        refine lv_iconst (v := 3) hx hb dX4_allLandIfFinished_38 (by decide) ?_
        refine lv_iconst (v := 1) hx hb dX4_allLandIfFinished_39 (by decide) ?_
        have hPc := hP.sub (ws' := (wX0 cI cS a6 a7 a8 a9 a10 tpl tsp tsy tsh tsc tnc tdy tzz)) [6, 7, 8, 9, 10] rfl
        refine kMv (wf' := (wX4 cI cS a0 a1 a2 a3 a4 a5 a6 a7 a8 a9 a10 a11 a12 a13 a14 a15 a16 a17 a18 a19 a20 a21 a22 ppl psp psy psh tpl tsp (fX0_setOfSaying tsy v3 3 1) tsh kpl ksp ksy ksh bs bt sz nm fd ik psc pnc pdy pzz tsc tnc tdy tzz ksc knc kdy kzz ln so be en va)) [6, 7, 8, 9, 10] [none, none, none, none, none, none, some 0, some 1, some 2, some 3, some 4, none, none, none, none, none, none, none, none, none, none, none, none] (rV C0 (tX0_setOfSaying l D cI cS a6 a7 a8 a9 a10 tpl tsp tsy tsh tsc tnc tdy tzz v3 3 1 (fX0_setOfSaying tsy v3 3 1) rfl (((hD (wX4 cI cS a0 a1 a2 a3 a4 a5 a6 a7 a8 a9 a10 a11 a12 a13 a14 a15 a16 a17 a18 a19 a20 a21 a22 ppl psp psy psh tpl tsp tsy tsh kpl ksp ksy ksh bs bt sz nm fd ik psc pnc pdy pzz tsc tnc tdy tzz ksc knc kdy kzz ln so be en va) rfl).sub [6, 7, 8, 9, 10] (by decide) rfl).weaken (fun _ _ _ _ => trivial))) RX0 gX4_allLandIfFinished_X0_setOfSaying rfl ⟨rfl, rfl⟩ pdX0_setOfSaying rfl ⟨Nat.le_of_ble_eq_true rfl, Nat.le_of_ble_eq_true rfl⟩ (fun _ _ _ _ q => q) (va_recv hE.1 hPc (ci := 0) (q0 := 0) rfl rfl) (fun U hU _ _ => by rw [hU]; exact hPc) hl.1 rfl (Nat.le_of_ble_eq_true rfl) dX4_allLandIfFinished_40 ⟨Nat.zero_le _, Nat.zero_le _⟩) hP (hD _ rfl) hS rfl rfl rfl (fun H locs hP hS => ?_)
        refine lv_iinc (v := v3 + 1) (lv' := [(3, .int (v3 + 1)), (0, .ref a0), (1, .int v1), (2, .int v2)]) hx hb dX4_allLandIfFinished_43 hl (k := 3) rfl rfl (by decide) rfl (fun ls hl => ?_)
        refine lv_goto (tgt := 13) hx hb dX4_allLandIfFinished_46 (by decide) ?_
        exact ih (v3 + 1) (fX0_setOfSaying tsy v3 3 1) _ _ hP hS _ (lv_sub hl [1, 2, 3, 0] rfl) h
set_option maxHeartbeats 4000000 in
set_option maxRecDepth 100000 in
theorem lX4_allLandIfFinished_51 {p : Program} {l : Launch} {e : Env} {s : State} {m : MethodId} {av : Array Value} {below : List Frame} {meth : Method} {c : Code} {D : va_G} {cI cS : ClassId} {a0 a1 a2 a3 a4 a5 a6 a7 a8 a9 a10 a11 a12 a13 a14 a15 a16 a17 a18 a19 a20 a21 a22 : Nat} {W0 : va_W} (C0 : CX p s m av meth c RX4 cX4_allLandIfFinished 4 (some .boolean) wsX4_allLandIfFinished D cI cS) (F : Nat) (ppl : Nat → Int32) (psp : Nat → Int32) (psy : Nat → Int32) (psh : Nat → Int32) (tpl : Nat → Int32) (tsp : Nat → Int32) (kpl : Nat → Int32) (ksp : Nat → Int32) (ksy : Nat → Int32) (ksh : Nat → Int32) (bs : Nat → Int32) (bt : Nat → Int32) (sz : Nat → Int32) (nm : Nat → Int32) (fd : Nat → Int32) (ik : Int32) (psc : Int32) (pnc : Int32) (pdy : Int32) (pzz : Int32) (tsc : Int32) (tnc : Int32) (tzz : Int32) (ksc : Int32) (knc : Int32) (kdy : Int32) (kzz : Int32) (ln : Int32) (so : Int32) (be : Int32) (en : Int32) (va : Int32) (z0 : Int32) (z1 : Nat → Int32) (z2 : Nat → Int32) (z3 : Nat → Int32) (z4 : Nat → Int32) (z5 : Int32) (z6 : Int32) (z7 : Int32) (z8 : Int32) (hD : ∀ W : va_W, W.map Prod.fst = [a0, a1, a2, a3, a4, a5, a6, a7, a8, a9, a10, a11, a12, a13, a14, a15, a16, a17, a18, a19, a20, a21, a22] → va_D (wA W0) W) : ∀ (n : Nat) (v3 : Int32) (tsy : Nat → Int32) (tsh : Nat → Int32) (tdy : Int32) (H : Heap) (locs : List Loc), va_P D vwCl (wX4 cI cS a0 a1 a2 a3 a4 a5 a6 a7 a8 a9 a10 a11 a12 a13 a14 a15 a16 a17 a18 a19 a20 a21 a22 ppl psp psy psh tpl tsp tsy tsh kpl ksp ksy ksh bs bt sz nm fd ik psc pnc pdy pzz tsc tnc tdy tzz ksc knc kdy kzz ln so be en va) H → va_S (wA W0) s.heap H locs → ∀ (ls : Array Slot), lv_has ls 4 [(0, .ref a0), (3, .int v3)] → fX4_allLandIfFinished_51 F tpl tsp tsc tnc tzz n v3 tsy tsh tdy = some (z0, z1, z2, z3, z4, z5, z6, z7, z8) → W p l e rmX4_allLandIfFinished s m av below meth c H locs 0 0 (MQ below (qI D W0 (wX4 cI cS a0 a1 a2 a3 a4 a5 a6 a7 a8 a9 a10 a11 a12 a13 a14 a15 a16 a17 a18 a19 a20 a21 a22 ppl psp psy psh z1 z2 z3 z4 kpl ksp ksy ksh bs bt sz nm fd ik psc pnc pdy pzz z5 z6 z7 z8 ksc knc kdy kzz ln so be en va) z0) av s 0 0 (wA W0)) (F0 m 51 ls []) := by
  obtain ⟨hx, hb, hr, hml, hown, hts, hlk, hE⟩ := id C0
  have hinX0 : ∀ w ∈ u_ws RX0 TX0 8, w ∈ wsX4_allLandIfFinished := by decide +kernel
  have hinX4 : ∀ w ∈ u_ws RX4 TX4 7, w ∈ wsX4_allLandIfFinished := by decide +kernel
  intro n
  induction n with
  | zero =>
    intro v3 tsy tsh tdy H locs hP hS ls hl h
    cases (show none = some (z0, z1, z2, z3, z4, z5, z6, z7, z8) from h)
  | succ n ih =>
    intro v3 tsy tsh tdy H locs hP hS ls hl h
    rw [fX4_allLandIfFinished_51] at h
    refine lv_iload_n hx hb dX4_allLandIfFinished_51 rfl (lv_at hl 1 rfl) ?_
    refine lv_if_le (tgt := 84) hx hb dX4_allLandIfFinished_52 (by decide) (fun c_4 => ?_) (fun c_4 => ?_)
    · have h := ifp c_4 h
      refine lv_aload_n hx hb dX4_allLandIfFinished_84 rfl (lv_at hl 0 rfl) ?_
      refine va_get (D := D) (ci := 3) (v := .ref a6) (C := RX4) (T := TX4) (N := 7) hx hb hts hinX4 hown hE.1 hP 0 rfl rfl 1 (by decide) (hts _ (List.mem_of_getElem? (i := 1) rfl)) (fun _ h9 => h9) rfl dX4_allLandIfFinished_85 ?_
      refine lv_iconst (v := 0) hx hb dX4_allLandIfFinished_88 (by decide) ?_
      obtain ⟨z_5, e_6, h⟩ := bds h
      have hPc := hP.sub (ws' := (wX0 cI cS a6 a7 a8 a9 a10 tpl tsp tsy tsh tsc tnc tdy tzz)) [6, 7, 8, 9, 10] rfl
      refine kRi (rV C0 (tX0_couldAllLand l D cI cS F a6 a7 a8 a9 a10 tpl tsp tsy tsh tsc tnc tdy tzz 0 z_5 e_6) RX0 gX4_allLandIfFinished_X0_couldAllLand rfl ⟨rfl, rfl⟩ pdX0_couldAllLand rfl ⟨Nat.le_of_ble_eq_true rfl, Nat.le_of_ble_eq_true rfl⟩ (fun _ _ _ _ q => q) (va_recv hE.1 hPc (ci := 0) (q0 := 0) rfl rfl) (fun U hU _ _ => by rw [hU]; exact hPc) hl.1 rfl (Nat.le_of_ble_eq_true rfl) dX4_allLandIfFinished_89 ⟨Nat.zero_le _, Nat.zero_le _⟩) ?_
      obtain ⟨q0, g0⟩ := Prod.mk.inj (Option.some.inj h)
      obtain ⟨q1, g1⟩ := Prod.mk.inj g0
      obtain ⟨q2, g2⟩ := Prod.mk.inj g1
      obtain ⟨q3, g3⟩ := Prod.mk.inj g2
      obtain ⟨q4, g4⟩ := Prod.mk.inj g3
      obtain ⟨q5, g5⟩ := Prod.mk.inj g4
      obtain ⟨q6, g6⟩ := Prod.mk.inj g5
      obtain ⟨q7, q8⟩ := Prod.mk.inj g6
      subst q0 q1 q2 q3 q4 q5 q6 q7 q8
      exact eMz C0 hP hS (zpX0_couldAllLand e_6) rfl rfl dX4_allLandIfFinished_92
    · have h := ifn c_4 h
      refine lv_aload_n hx hb dX4_allLandIfFinished_55 rfl (lv_at hl 0 rfl) ?_
      refine va_get (D := D) (ci := 3) (v := .ref a6) (C := RX4) (T := TX4) (N := 7) hx hb hts hinX4 hown hE.1 hP 0 rfl rfl 1 (by decide) (hts _ (List.mem_of_getElem? (i := 1) rfl)) (fun _ h9 => h9) rfl dX4_allLandIfFinished_56 ?_
      refine lv_iload_n hx hb dX4_allLandIfFinished_59 rfl (lv_at hl 1 rfl) ?_
      obtain ⟨z_7, e_8, h⟩ := bds h
      have hPc := hP.sub (ws' := (wX0 cI cS a6 a7 a8 a9 a10 tpl tsp tsy tsh tsc tnc tdy tzz)) [6, 7, 8, 9, 10] rfl
      refine kRi (rV C0 (tX0_couldAllLand l D cI cS F a6 a7 a8 a9 a10 tpl tsp tsy tsh tsc tnc tdy tzz v3 z_7 e_8) RX0 gX4_allLandIfFinished_X0_couldAllLand rfl ⟨rfl, rfl⟩ pdX0_couldAllLand rfl ⟨Nat.le_of_ble_eq_true rfl, Nat.le_of_ble_eq_true rfl⟩ (fun _ _ _ _ q => q) (va_recv hE.1 hPc (ci := 0) (q0 := 0) rfl rfl) (fun U hU _ _ => by rw [hU]; exact hPc) hl.1 rfl (Nat.le_of_ble_eq_true rfl) dX4_allLandIfFinished_60 ⟨Nat.zero_le _, Nat.zero_le _⟩) ?_
      refine lv_if_ne (tgt := 68) hx hb dX4_allLandIfFinished_63 (by decide) (fun c_9 => ?_) (fun c_9 => ?_)
      · have h := ifn c_9 h
        refine lv_aload_n hx hb dX4_allLandIfFinished_68 rfl (lv_at hl 0 rfl) ?_
        refine va_get (D := D) (ci := 3) (v := .ref a6) (C := RX4) (T := TX4) (N := 7) hx hb hts hinX4 hown hE.1 hP 0 rfl rfl 1 (by decide) (hts _ (List.mem_of_getElem? (i := 1) rfl)) (fun _ h9 => h9) rfl dX4_allLandIfFinished_69 ?_
        refine lv_iconst (v := 1) hx hb dX4_allLandIfFinished_72 (by decide) ?_
        refine lv_bipush (v := 63) hx hb dX4_allLandIfFinished_73 (by decide) ?_
        obtain ⟨z_10, e_11, h⟩ := bds h
        have hPc := hP.sub (ws' := (wX0 cI cS a6 a7 a8 a9 a10 tpl tsp tsy tsh tsc tnc tdy tzz)) [6, 7, 8, 9, 10] rfl
        refine kMv (wf' := (wX4 cI cS a0 a1 a2 a3 a4 a5 a6 a7 a8 a9 a10 a11 a12 a13 a14 a15 a16 a17 a18 a19 a20 a21 a22 ppl psp psy psh tpl tsp z_10.1 z_10.2.1 kpl ksp ksy ksh bs bt sz nm fd ik psc pnc pdy pzz tsc tnc z_10.2.2 tzz ksc knc kdy kzz ln so be en va)) [6, 7, 8, 9, 10] [none, none, none, none, none, none, some 0, some 1, some 2, some 3, some 4, none, none, none, none, none, none, none, none, none, none, none, none] (rV C0 (tX0_passDays l D cI cS F a6 a7 a8 a9 a10 tpl tsp tsy tsh tsc tnc tdy tzz 1 63 z_10.1 z_10.2.1 z_10.2.2 e_11 (((hD (wX4 cI cS a0 a1 a2 a3 a4 a5 a6 a7 a8 a9 a10 a11 a12 a13 a14 a15 a16 a17 a18 a19 a20 a21 a22 ppl psp psy psh tpl tsp tsy tsh kpl ksp ksy ksh bs bt sz nm fd ik psc pnc pdy pzz tsc tnc tdy tzz ksc knc kdy kzz ln so be en va) rfl).sub [6, 7, 8, 9, 10] (by decide) rfl).weaken (fun _ _ _ _ => trivial))) RX0 gX4_allLandIfFinished_X0_passDays rfl ⟨rfl, rfl⟩ pdX0_passDays rfl ⟨Nat.le_of_ble_eq_true rfl, Nat.le_of_ble_eq_true rfl⟩ (fun _ _ _ _ q => q) (va_recv hE.1 hPc (ci := 0) (q0 := 0) rfl rfl) (fun U hU _ _ => by rw [hU]; exact hPc) hl.1 rfl (Nat.le_of_ble_eq_true rfl) dX4_allLandIfFinished_75 ⟨Nat.zero_le _, Nat.zero_le _⟩) hP (hD _ rfl) hS rfl rfl rfl (fun H locs hP hS => ?_)
        refine lv_iinc (v := v3 + (-1)) (lv' := [(3, .int (v3 + (-1))), (0, .ref a0)]) hx hb dX4_allLandIfFinished_78 hl (k := 1) rfl rfl (by decide) rfl (fun ls hl => ?_)
        refine lv_goto (tgt := 51) hx hb dX4_allLandIfFinished_81 (by decide) ?_
        exact ih (v3 + (-1)) z_10.1 z_10.2.1 z_10.2.2 _ _ hP hS _ (lv_sub hl [1, 0] rfl) h
      · have h := ifp c_9 h
        refine lv_iconst (v := 0) hx hb dX4_allLandIfFinished_66 (by decide) ?_
        obtain ⟨q0, g0⟩ := Prod.mk.inj (Option.some.inj h)
        obtain ⟨q1, g1⟩ := Prod.mk.inj g0
        obtain ⟨q2, g2⟩ := Prod.mk.inj g1
        obtain ⟨q3, g3⟩ := Prod.mk.inj g2
        obtain ⟨q4, g4⟩ := Prod.mk.inj g3
        obtain ⟨q5, g5⟩ := Prod.mk.inj g4
        obtain ⟨q6, g6⟩ := Prod.mk.inj g5
        obtain ⟨q7, q8⟩ := Prod.mk.inj g6
        subst q0 q1 q2 q3 q4 q5 q6 q7 q8
        exact eMz C0 hP hS rfl rfl rfl dX4_allLandIfFinished_67
set_option maxHeartbeats 4000000 in
set_option maxRecDepth 100000 in
theorem tX4_allLandIfFinished (l : Launch) (D : va_G) (cI cS : ClassId) (F : Nat) (a0 a1 a2 a3 a4 a5 a6 a7 a8 a9 a10 a11 a12 a13 a14 a15 a16 a17 a18 a19 a20 a21 a22 : Nat) (ppl : Nat → Int32) (psp : Nat → Int32) (psy : Nat → Int32) (psh : Nat → Int32) (tpl : Nat → Int32) (tsp : Nat → Int32) (tsy : Nat → Int32) (tsh : Nat → Int32) (kpl : Nat → Int32) (ksp : Nat → Int32) (ksy : Nat → Int32) (ksh : Nat → Int32) (bs : Nat → Int32) (bt : Nat → Int32) (sz : Nat → Int32) (nm : Nat → Int32) (fd : Nat → Int32) (ik : Int32) (psc : Int32) (pnc : Int32) (pdy : Int32) (pzz : Int32) (tsc : Int32) (tnc : Int32) (tdy : Int32) (tzz : Int32) (ksc : Int32) (knc : Int32) (kdy : Int32) (kzz : Int32) (ln : Int32) (so : Int32) (be : Int32) (en : Int32) (va : Int32) (v1 : Int32) (v2 : Int32) (z0 : Int32) (z1 : Nat → Int32) (z2 : Nat → Int32) (z3 : Nat → Int32) (z4 : Nat → Int32) (z5 : Int32) (z6 : Int32) (z7 : Int32) (z8 : Int32) (h : fX4_allLandIfFinished F ppl psp psy psh tpl tsp tsy tsh psc pnc pdy pzz tsc tnc tdy tzz v1 v2 = some (z0, z1, z2, z3, z4, z5, z6, z7, z8)) (hD0 : va_D (fun _ => True) (wX4 cI cS a0 a1 a2 a3 a4 a5 a6 a7 a8 a9 a10 a11 a12 a13 a14 a15 a16 a17 a18 a19 a20 a21 a22 ppl psp psy psh tpl tsp tsy tsh kpl ksp ksy ksh bs bt sz nm fd ik psc pnc pdy pzz tsc tnc tdy tzz ksc knc kdy kzz ln so be en va)) : Met l yX4_allLandIfFinished wsX4_allLandIfFinished rmX4_allLandIfFinished (PZ D cI cS [.ref a0, .int v1, .int v2] (fun U => va_P D vwCl (wX4 cI cS a0 a1 a2 a3 a4 a5 a6 a7 a8 a9 a10 a11 a12 a13 a14 a15 a16 a17 a18 a19 a20 a21 a22 ppl psp psy psh tpl tsp tsy tsh kpl ksp ksy ksh bs bt sz nm fd ik psc pnc pdy pzz tsc tnc tdy tzz ksc knc kdy kzz ln so be en va) U.heap)) (qI D (wX4 cI cS a0 a1 a2 a3 a4 a5 a6 a7 a8 a9 a10 a11 a12 a13 a14 a15 a16 a17 a18 a19 a20 a21 a22 ppl psp psy psh tpl tsp tsy tsh kpl ksp ksy ksh bs bt sz nm fd ik psc pnc pdy pzz tsc tnc tdy tzz ksc knc kdy kzz ln so be en va) (wX4 cI cS a0 a1 a2 a3 a4 a5 a6 a7 a8 a9 a10 a11 a12 a13 a14 a15 a16 a17 a18 a19 a20 a21 a22 ppl psp psy psh z1 z2 z3 z4 kpl ksp ksy ksh bs bt sz nm fd ik psc pnc pdy pzz z5 z6 z7 z8 ksc knc kdy kzz ln so be en va) z0) 0 0 (wA (wX4 cI cS a0 a1 a2 a3 a4 a5 a6 a7 a8 a9 a10 a11 a12 a13 a14 a15 a16 a17 a18 a19 a20 a21 a22 ppl psp psy psh tpl tsp tsy tsh kpl ksp ksy ksh bs bt sz nm fd ik psc pnc pdy pzz tsc tnc tdy tzz ksc knc kdy kzz ln so be en va)) := by
  refine Met.mk RX4 (by decide) rfl rfl (Nat.le_of_ble_eq_true rfl) ?_
  intro p e s m below meth c ls C0 hP hl
  have hl : lv_has ls 4 [(0, .ref a0), (1, .int v1), (2, .int v2)] := hl
  obtain ⟨hx, hb, hr, hml, hown, hts, hlk, hE⟩ := id C0
  have hinX0 : ∀ w ∈ u_ws RX0 TX0 8, w ∈ wsX4_allLandIfFinished := by decide +kernel
  have hinX4 : ∀ w ∈ u_ws RX4 TX4 7, w ∈ wsX4_allLandIfFinished := by decide +kernel
  have hD : ∀ W : va_W, W.map Prod.fst = [a0, a1, a2, a3, a4, a5, a6, a7, a8, a9, a10, a11, a12, a13, a14, a15, a16, a17, a18, a19, a20, a21, a22] → va_D (wA (wX4 cI cS a0 a1 a2 a3 a4 a5 a6 a7 a8 a9 a10 a11 a12 a13 a14 a15 a16 a17 a18 a19 a20 a21 a22 ppl psp psy psh tpl tsp tsy tsh kpl ksp ksy ksh bs bt sz nm fd ik psc pnc pdy pzz tsc tnc tdy tzz ksc knc kdy kzz ln so be en va)) W := fun W hW => hD0.own.re hW
  have hS : va_S (wA (wX4 cI cS a0 a1 a2 a3 a4 a5 a6 a7 a8 a9 a10 a11 a12 a13 a14 a15 a16 a17 a18 a19 a20 a21 a22 ppl psp psy psh tpl tsp tsy tsh kpl ksp ksy ksh bs bt sz nm fd ik psc pnc pdy pzz tsc tnc tdy tzz ksc knc kdy kzz ln so be en va)) s.heap s.heap [] := va_S.rf
  have hP : va_P D vwCl (wX4 cI cS a0 a1 a2 a3 a4 a5 a6 a7 a8 a9 a10 a11 a12 a13 a14 a15 a16 a17 a18 a19 a20 a21 a22 ppl psp psy psh tpl tsp tsy tsh kpl ksp ksy ksh bs bt sz nm fd ik psc pnc pdy pzz tsc tnc tdy tzz ksc knc kdy kzz ln so be en va) s.heap := hP
  rw [fX4_allLandIfFinished] at h
  refine lv_aload_n hx hb dX4_allLandIfFinished_0 rfl (lv_at hl 0 rfl) ?_
  refine va_get (D := D) (ci := 3) (v := .ref a6) (C := RX4) (T := TX4) (N := 7) hx hb hts hinX4 hown hE.1 hP 0 rfl rfl 1 (by decide) (hts _ (List.mem_of_getElem? (i := 1) rfl)) (fun _ h9 => h9) rfl dX4_allLandIfFinished_1 ?_
  refine lv_aload_n hx hb dX4_allLandIfFinished_4 rfl (lv_at hl 0 rfl) ?_
  refine va_get (D := D) (ci := 3) (v := .ref a1) (C := RX4) (T := TX4) (N := 7) hx hb hts hinX4 hown hE.1 hP 0 rfl rfl 0 (by decide) (hts _ (List.mem_of_getElem? (i := 2) rfl)) (fun _ h9 => h9) rfl dX4_allLandIfFinished_5 ?_
  have hPc := hP.sub (ws' := (wE2 cI cS a6 a7 a8 a9 a10 a1 a2 a3 a4 a5 tpl tsp tsy tsh ppl psp psy psh tsc tnc tdy tzz psc pnc pdy pzz)) [6, 7, 8, 9, 10, 1, 2, 3, 4, 5] rfl
  refine kMv (wf' := (wX4 cI cS a0 a1 a2 a3 a4 a5 a6 a7 a8 a9 a10 a11 a12 a13 a14 a15 a16 a17 a18 a19 a20 a21 a22 ppl psp psy psh (fX0_become_o0 tpl tsp tsy tsh ppl psp psy psh tsc tnc tdy tzz psc pnc pdy pzz) (fX0_become_o1 tpl tsp tsy tsh ppl psp psy psh tsc tnc tdy tzz psc pnc pdy pzz) (fX0_become_o2 tpl tsp tsy tsh ppl psp psy psh tsc tnc tdy tzz psc pnc pdy pzz) (fX0_become_o3 tpl tsp tsy tsh ppl psp psy psh tsc tnc tdy tzz psc pnc pdy pzz) kpl ksp ksy ksh bs bt sz nm fd ik psc pnc pdy pzz (fX0_become_o4 tpl tsp tsy tsh ppl psp psy psh tsc tnc tdy tzz psc pnc pdy pzz) (fX0_become_o5 tpl tsp tsy tsh ppl psp psy psh tsc tnc tdy tzz psc pnc pdy pzz) (fX0_become_o6 tpl tsp tsy tsh ppl psp psy psh tsc tnc tdy tzz psc pnc pdy pzz) (fX0_become_o7 tpl tsp tsy tsh ppl psp psy psh tsc tnc tdy tzz psc pnc pdy pzz) ksc knc kdy kzz ln so be en va)) [6, 7, 8, 9, 10, 1, 2, 3, 4, 5] [none, some 5, some 6, some 7, some 8, some 9, some 0, some 1, some 2, some 3, some 4, none, none, none, none, none, none, none, none, none, none, none, none] (rV C0 (tX0_become l D cI cS a6 a7 a8 a9 a10 a1 a2 a3 a4 a5 tpl tsp tsy tsh ppl psp psy psh tsc tnc tdy tzz psc pnc pdy pzz  (fX0_become_o0 tpl tsp tsy tsh ppl psp psy psh tsc tnc tdy tzz psc pnc pdy pzz) (fX0_become_o1 tpl tsp tsy tsh ppl psp psy psh tsc tnc tdy tzz psc pnc pdy pzz) (fX0_become_o2 tpl tsp tsy tsh ppl psp psy psh tsc tnc tdy tzz psc pnc pdy pzz) (fX0_become_o3 tpl tsp tsy tsh ppl psp psy psh tsc tnc tdy tzz psc pnc pdy pzz) (fX0_become_o4 tpl tsp tsy tsh ppl psp psy psh tsc tnc tdy tzz psc pnc pdy pzz) (fX0_become_o5 tpl tsp tsy tsh ppl psp psy psh tsc tnc tdy tzz psc pnc pdy pzz) (fX0_become_o6 tpl tsp tsy tsh ppl psp psy psh tsc tnc tdy tzz psc pnc pdy pzz) (fX0_become_o7 tpl tsp tsy tsh ppl psp psy psh tsc tnc tdy tzz psc pnc pdy pzz) (eeX0_become ..) (((hD (wX4 cI cS a0 a1 a2 a3 a4 a5 a6 a7 a8 a9 a10 a11 a12 a13 a14 a15 a16 a17 a18 a19 a20 a21 a22 ppl psp psy psh tpl tsp tsy tsh kpl ksp ksy ksh bs bt sz nm fd ik psc pnc pdy pzz tsc tnc tdy tzz ksc knc kdy kzz ln so be en va) rfl).sub [6, 7, 8, 9, 10, 1, 2, 3, 4, 5] (by decide) rfl).weaken (fun _ _ _ _ => trivial))) RX0 gX4_allLandIfFinished_X0_become rfl ⟨rfl, rfl⟩ pdX0_become rfl ⟨Nat.le_of_ble_eq_true rfl, Nat.le_of_ble_eq_true rfl⟩ (fun _ _ _ _ q => q) (va_recv hE.1 hPc (ci := 0) (q0 := 0) rfl rfl) (fun U hU _ _ => by rw [hU]; exact hPc) hl.1 rfl (Nat.le_of_ble_eq_true rfl) dX4_allLandIfFinished_8 ⟨Nat.zero_le _, Nat.zero_le _⟩) hP (hD _ rfl) hS rfl rfl rfl (fun H locs hP hS => ?_)
  refine lv_iconst (v := 0) hx hb dX4_allLandIfFinished_11 (by decide) ?_
  refine lv_istore_n (lv' := [(3, .int 0), (0, .ref a0), (1, .int v1), (2, .int v2)]) hx hb dX4_allLandIfFinished_12 rfl hl (by decide) rfl (fun ls hl => ?_)
  refine lX4_allLandIfFinished_13 (l := l) (e := e) (below := below) C0 F _ ppl psp psy psh (fX0_become_o0 tpl tsp tsy tsh ppl psp psy psh tsc tnc tdy tzz psc pnc pdy pzz) (fX0_become_o1 tpl tsp tsy tsh ppl psp psy psh tsc tnc tdy tzz psc pnc pdy pzz) (fX0_become_o3 tpl tsp tsy tsh ppl psp psy psh tsc tnc tdy tzz psc pnc pdy pzz) kpl ksp ksy ksh bs bt sz nm fd ik psc pnc pdy pzz (fX0_become_o4 tpl tsp tsy tsh ppl psp psy psh tsc tnc tdy tzz psc pnc pdy pzz) (fX0_become_o5 tpl tsp tsy tsh ppl psp psy psh tsc tnc tdy tzz psc pnc pdy pzz) (fX0_become_o6 tpl tsp tsy tsh ppl psp psy psh tsc tnc tdy tzz psc pnc pdy pzz) (fX0_become_o7 tpl tsp tsy tsh ppl psp psy psh tsc tnc tdy tzz psc pnc pdy pzz) ksc knc kdy kzz ln so be en va v1 v2 z0 z1 z2 z3 z4 z5 z6 z7 z8 hD (fun tsy__3 H locs hP hS ls hl h => ?_) F 0 (fX0_become_o2 tpl tsp tsy tsh ppl psp psy psh tsc tnc tdy tzz psc pnc pdy pzz) _ _ hP hS _ (lv_sub hl [1, 2, 3, 0] rfl) h
  refine lv_iload_n hx hb dX4_allLandIfFinished_49 rfl (lv_at hl 1 rfl) ?_
  refine lv_istore_n (lv' := [(3, .int v2), (0, .ref a0), (2, .int v2)]) hx hb dX4_allLandIfFinished_50 rfl hl (by decide) rfl (fun ls hl => ?_)
  exact lX4_allLandIfFinished_51 (l := l) (e := e) (below := below) C0 F ppl psp psy psh (fX0_become_o0 tpl tsp tsy tsh ppl psp psy psh tsc tnc tdy tzz psc pnc pdy pzz) (fX0_become_o1 tpl tsp tsy tsh ppl psp psy psh tsc tnc tdy tzz psc pnc pdy pzz) kpl ksp ksy ksh bs bt sz nm fd ik psc pnc pdy pzz (fX0_become_o4 tpl tsp tsy tsh ppl psp psy psh tsc tnc tdy tzz psc pnc pdy pzz) (fX0_become_o5 tpl tsp tsy tsh ppl psp psy psh tsc tnc tdy tzz psc pnc pdy pzz) (fX0_become_o7 tpl tsp tsy tsh ppl psp psy psh tsc tnc tdy tzz psc pnc pdy pzz) ksc knc kdy kzz ln so be en va z0 z1 z2 z3 z4 z5 z6 z7 z8 hD F v2 tsy__3 (fX0_become_o3 tpl tsp tsy tsh ppl psp psy psh tsc tnc tdy tzz psc pnc pdy pzz) (fX0_become_o6 tpl tsp tsy tsh ppl psp psy psh tsc tnc tdy tzz psc pnc pdy pzz) _ _ hP hS _ (lv_sub hl [1, 0] rfl) h
def fX4_decide_34 (F : Nat) (ppl : Nat → Int32) (psp : Nat → Int32) (psy : Nat → Int32) (psh : Nat → Int32) (psc : Int32) (pnc : Int32) (pdy : Int32) (pzz : Int32) (v1 : Int32) (v2 : Int32) : Nat → Int32 → Int32 → Int32 → (Nat → Int32) → (Nat → Int32) → (Nat → Int32) → (Nat → Int32) → (Nat → Int32) → Int32 → Int32 → Int32 → Int32 → Option (Int32 × (Nat → Int32) × (Nat → Int32) × (Nat → Int32) × (Nat → Int32) × (Nat → Int32) × Int32 × Int32 × Int32 × Int32)
  | 0, _, _, _, _, _, _, _, _, _, _, _, _ => none
  | n + 1, v3, v4, v5, tpl, tsp, tsy, tsh, fd, tsc, tnc, tdy, tzz => (if (1 <<< (psc &&& 31)) ≤ v5 then (if v3 = (-1) then some ((-1000004), tpl, tsp, tsy, tsh, fX4_finding_o1 fd (-1000004), tsc, tnc, tdy, tzz) else some (v3, tpl, tsp, tsy, tsh, fd, tsc, tnc, tdy, tzz)) else (if (v5 &&& v2) = 0 then (if v4 ≤ (fJ6_bitCount_0f7a4 v5) then fX4_decide_34 F ppl psp psy psh psc pnc pdy pzz v1 v2 n v3 v4 (v5 + 1) tpl tsp tsy tsh fd tsc tnc tdy tzz else Option.bind (fX4_allLandIfFinished F ppl psp psy psh tpl tsp tsy tsh psc pnc pdy pzz tsc tnc tdy tzz v5 v1) (fun z_11 => (if z_11.1 = 0 then fX4_decide_34 F ppl psp psy psh psc pnc pdy pzz v1 v2 n v3 v4 (v5 + 1) z_11.2.1 z_11.2.2.1 z_11.2.2.2.1 z_11.2.2.2.2.1 fd z_11.2.2.2.2.2.1 z_11.2.2.2.2.2.2.1 z_11.2.2.2.2.2.2.2.1 z_11.2.2.2.2.2.2.2.2 else fX4_decide_34 F ppl psp psy psh psc pnc pdy pzz v1 v2 n v5 (fJ6_bitCount_0f7a4 v5) (v5 + 1) z_11.2.1 z_11.2.2.1 z_11.2.2.2.1 z_11.2.2.2.2.1 fd z_11.2.2.2.2.2.1 z_11.2.2.2.2.2.2.1 z_11.2.2.2.2.2.2.2.1 z_11.2.2.2.2.2.2.2.2))) else fX4_decide_34 F ppl psp psy psh psc pnc pdy pzz v1 v2 n v3 v4 (v5 + 1) tpl tsp tsy tsh fd tsc tnc tdy tzz))
def fX4_decide (F : Nat) (ppl : Nat → Int32) (psp : Nat → Int32) (psy : Nat → Int32) (psh : Nat → Int32) (tpl : Nat → Int32) (tsp : Nat → Int32) (tsy : Nat → Int32) (tsh : Nat → Int32) (fd : Nat → Int32) (psc : Int32) (pnc : Int32) (pdy : Int32) (pzz : Int32) (tsc : Int32) (tnc : Int32) (tdy : Int32) (tzz : Int32) (v1 : Int32) : Option (Int32 × (Nat → Int32) × (Nat → Int32) × (Nat → Int32) × (Nat → Int32) × (Nat → Int32) × Int32 × Int32 × Int32 × Int32) := (if (fX4_within v1 0 16) = 0 then some ((-1000001), tpl, tsp, tsy, tsh, fX4_finding_o1 fd (-1000001), tsc, tnc, tdy, tzz) else Option.bind (fX0_finishedSayings F psy psc) (fun z_2 => fX4_decide_34 F ppl psp psy psh psc pnc pdy pzz v1 z_2 F (-1) 9 0 tpl tsp tsy tsh fd tsc tnc tdy tzz))
abbrev rmX4_decide : Room := { frames := 6, cells := 0, slots := 0, locals := 143 }
theorem pdX4_decide : (yX4_decide.cls = RX4 ∧ yX4_decide.cls ≠ "java/lang/invoke/MethodHandle" ∧ yX4_decide.cls ≠ "java/lang/invoke/VarHandle" ∧ (parseMethodDescriptor yX4_decide.desc).map (fun d => d.parameters.length) = some 1) := by decide +kernel
set_option maxHeartbeats 4000000 in
set_option maxRecDepth 100000 in
theorem lX4_decide_34 {p : Program} {l : Launch} {e : Env} {s : State} {m : MethodId} {av : Array Value} {below : List Frame} {meth : Method} {c : Code} {D : va_G} {cI cS : ClassId} {a0 a1 a2 a3 a4 a5 a6 a7 a8 a9 a10 a11 a12 a13 a14 a15 a16 a17 a18 a19 a20 a21 a22 : Nat} {W0 : va_W} (C0 : CX p s m av meth c RX4 cX4_decide 7 (some .int) wsX4_decide D cI cS) (F : Nat) (ppl : Nat → Int32) (psp : Nat → Int32) (psy : Nat → Int32) (psh : Nat → Int32) (kpl : Nat → Int32) (ksp : Nat → Int32) (ksy : Nat → Int32) (ksh : Nat → Int32) (bs : Nat → Int32) (bt : Nat → Int32) (sz : Nat → Int32) (nm : Nat → Int32) (ik : Int32) (psc : Int32) (pnc : Int32) (pdy : Int32) (pzz : Int32) (ksc : Int32) (knc : Int32) (kdy : Int32) (kzz : Int32) (ln : Int32) (so : Int32) (be : Int32) (en : Int32) (va : Int32) (v1 : Int32) (v2 : Int32) (z0 : Int32) (z1 : Nat → Int32) (z2 : Nat → Int32) (z3 : Nat → Int32) (z4 : Nat → Int32) (z5 : Nat → Int32) (z6 : Int32) (z7 : Int32) (z8 : Int32) (z9 : Int32) (hD : ∀ W : va_W, W.map Prod.fst = [a0, a1, a2, a3, a4, a5, a6, a7, a8, a9, a10, a11, a12, a13, a14, a15, a16, a17, a18, a19, a20, a21, a22] → va_D (wA W0) W) : ∀ (n : Nat) (v3 : Int32) (v4 : Int32) (v5 : Int32) (tpl : Nat → Int32) (tsp : Nat → Int32) (tsy : Nat → Int32) (tsh : Nat → Int32) (fd : Nat → Int32) (tsc : Int32) (tnc : Int32) (tdy : Int32) (tzz : Int32) (H : Heap) (locs : List Loc), va_P D vwCl (wX4 cI cS a0 a1 a2 a3 a4 a5 a6 a7 a8 a9 a10 a11 a12 a13 a14 a15 a16 a17 a18 a19 a20 a21 a22 ppl psp psy psh tpl tsp tsy tsh kpl ksp ksy ksh bs bt sz nm fd ik psc pnc pdy pzz tsc tnc tdy tzz ksc knc kdy kzz ln so be en va) H → va_S (wA W0) s.heap H locs → ∀ (ls : Array Slot), lv_has ls 7 [(0, .ref a0), (1, .int v1), (2, .int v2), (3, .int v3), (4, .int v4), (5, .int v5)] → fX4_decide_34 F ppl psp psy psh psc pnc pdy pzz v1 v2 n v3 v4 v5 tpl tsp tsy tsh fd tsc tnc tdy tzz = some (z0, z1, z2, z3, z4, z5, z6, z7, z8, z9) → W p l e rmX4_decide s m av below meth c H locs 0 0 (MQ below (qI D W0 (wX4 cI cS a0 a1 a2 a3 a4 a5 a6 a7 a8 a9 a10 a11 a12 a13 a14 a15 a16 a17 a18 a19 a20 a21 a22 ppl psp psy psh z1 z2 z3 z4 kpl ksp ksy ksh bs bt sz nm z5 ik psc pnc pdy pzz z6 z7 z8 z9 ksc knc kdy kzz ln so be en va) z0) av s 0 0 (wA W0)) (F0 m 34 ls []) := by
  obtain ⟨hx, hb, hr, hml, hown, hts, hlk, hE⟩ := id C0
  have hinX0 : ∀ w ∈ u_ws RX0 TX0 8, w ∈ wsX4_decide := by decide +kernel
  have hinX4 : ∀ w ∈ u_ws RX4 TX4 7, w ∈ wsX4_decide := by decide +kernel
  intro n
  induction n with
  | zero =>
    intro v3 v4 v5 tpl tsp tsy tsh fd tsc tnc tdy tzz H locs hP hS ls hl h
    cases (show none = some (z0, z1, z2, z3, z4, z5, z6, z7, z8, z9) from h)
  | succ n ih =>
    intro v3 v4 v5 tpl tsp tsy tsh fd tsc tnc tdy tzz H locs hP hS ls hl h
    rw [fX4_decide_34] at h
    refine lv_iload hx hb dX4_decide_34 (lv_at hl 5 rfl) ?_
    refine lv_iconst (v := 1) hx hb dX4_decide_36 (by decide) ?_
    refine lv_aload_n hx hb dX4_decide_37 rfl (lv_at hl 0 rfl) ?_
    refine va_get (D := D) (ci := 3) (v := .ref a1) (C := RX4) (T := TX4) (N := 7) hx hb hts hinX4 hown hE.1 hP 0 rfl rfl 0 (by decide) (hts _ (List.mem_of_getElem? (i := 2) rfl)) (fun _ h9 => h9) rfl dX4_decide_38 ?_
    refine va_getN (D := D) (ci := 0) (v := .int psc) (C := RX0) (T := TX0) (N := 8) hx hb hts hinX0 hown hE.1 hP 1 rfl rfl 4 (by decide) (va_Nw.use rfl (hE.2 _ (List.mem_of_getElem? (i := 0) rfl))) (fun _ h9 => h9) rfl dX4_decide_41 ?_
    refine lv_ishl hx hb dX4_decide_44 ?_
    refine lv_icmp_ge (tgt := 103) hx hb dX4_decide_45 (by decide) (fun c_4 => ?_) (fun c_4 => ?_)
    · have h := ifp c_4 h
      refine lv_iload_n hx hb dX4_decide_103 rfl (lv_at hl 3 rfl) ?_
      refine lv_iconst (v := (-1)) hx hb dX4_decide_104 (by decide) ?_
      refine lv_icmp_ne (tgt := 117) hx hb dX4_decide_105 (by decide) (fun c_5 => ?_) (fun c_5 => ?_)
      · have h := ifn c_5 h
        refine lv_iload_n hx hb dX4_decide_117 rfl (lv_at hl 3 rfl) ?_
        obtain ⟨q0, g0⟩ := Prod.mk.inj (Option.some.inj h)
        obtain ⟨q1, g1⟩ := Prod.mk.inj g0
        obtain ⟨q2, g2⟩ := Prod.mk.inj g1
        obtain ⟨q3, g3⟩ := Prod.mk.inj g2
        obtain ⟨q4, g4⟩ := Prod.mk.inj g3
        obtain ⟨q5, g5⟩ := Prod.mk.inj g4
        obtain ⟨q6, g6⟩ := Prod.mk.inj g5
        obtain ⟨q7, g7⟩ := Prod.mk.inj g6
        obtain ⟨q8, q9⟩ := Prod.mk.inj g7
        subst q0 q1 q2 q3 q4 q5 q6 q7 q8 q9
        exact eMi C0 hP hS rfl rfl dX4_decide_118
      · have h := ifp c_5 h
        refine lv_aload_n hx hb dX4_decide_108 rfl (lv_at hl 0 rfl) ?_
        refine lv_ldc (v := (-1000004)) hx hb hown (hts _ (List.mem_of_getElem? (i := 3) rfl)) dX4_decide_109 ?_
        have hPc := hP.sub (ws' := (wX4 cI cS a0 a1 a2 a3 a4 a5 a6 a7 a8 a9 a10 a11 a12 a13 a14 a15 a16 a17 a18 a19 a20 a21 a22 ppl psp psy psh tpl tsp tsy tsh kpl ksp ksy ksh bs bt sz nm fd ik psc pnc pdy pzz tsc tnc tdy tzz ksc knc kdy kzz ln so be en va)) [0, 1, 2, 3, 4, 5, 6, 7, 8, 9, 10, 11, 12, 13, 14, 15, 16, 17, 18, 19, 20, 21, 22] rfl
        refine kMi (wf' := (wX4 cI cS a0 a1 a2 a3 a4 a5 a6 a7 a8 a9 a10 a11 a12 a13 a14 a15 a16 a17 a18 a19 a20 a21 a22 ppl psp psy psh tpl tsp tsy tsh kpl ksp ksy ksh bs bt sz nm (fX4_finding_o1 fd (-1000004)) ik psc pnc pdy pzz tsc tnc tdy tzz ksc knc kdy kzz ln so be en va)) [0, 1, 2, 3, 4, 5, 6, 7, 8, 9, 10, 11, 12, 13, 14, 15, 16, 17, 18, 19, 20, 21, 22] [some 0, some 1, some 2, some 3, some 4, some 5, some 6, some 7, some 8, some 9, some 10, some 11, some 12, some 13, some 14, some 15, some 16, some 17, some 18, some 19, some 20, some 21, some 22] (rV C0 (tX4_finding l D cI cS a0 a1 a2 a3 a4 a5 a6 a7 a8 a9 a10 a11 a12 a13 a14 a15 a16 a17 a18 a19 a20 a21 a22 ppl psp psy psh tpl tsp tsy tsh kpl ksp ksy ksh bs bt sz nm fd ik psc pnc pdy pzz tsc tnc tdy tzz ksc knc kdy kzz ln so be en va (-1000004) (-1000004) (fX4_finding_o1 fd (-1000004)) (eeX4_finding ..) (((hD (wX4 cI cS a0 a1 a2 a3 a4 a5 a6 a7 a8 a9 a10 a11 a12 a13 a14 a15 a16 a17 a18 a19 a20 a21 a22 ppl psp psy psh tpl tsp tsy tsh kpl ksp ksy ksh bs bt sz nm fd ik psc pnc pdy pzz tsc tnc tdy tzz ksc knc kdy kzz ln so be en va) rfl).sub [0, 1, 2, 3, 4, 5, 6, 7, 8, 9, 10, 11, 12, 13, 14, 15, 16, 17, 18, 19, 20, 21, 22] (by decide) rfl).weaken (fun _ _ _ _ => trivial))) RX4 gX4_decide_X4_finding rfl ⟨rfl, rfl⟩ pdX4_finding rfl ⟨Nat.le_of_ble_eq_true rfl, Nat.le_of_ble_eq_true rfl⟩ (fun _ _ _ _ q => q) (va_recv hE.1 hPc (ci := 3) (q0 := 0) rfl rfl) (fun U hU _ _ => by rw [hU]; exact hPc) hl.1 rfl (Nat.le_of_ble_eq_true rfl) dX4_decide_111 ⟨Nat.zero_le _, Nat.zero_le _⟩) hP (hD _ rfl) hS rfl rfl rfl (fun H locs hP hS => ?_)
        refine lv_goto (tgt := 118) hx hb dX4_decide_114 (by decide) ?_
        obtain ⟨q0, g0⟩ := Prod.mk.inj (Option.some.inj h)
        obtain ⟨q1, g1⟩ := Prod.mk.inj g0
        obtain ⟨q2, g2⟩ := Prod.mk.inj g1
        obtain ⟨q3, g3⟩ := Prod.mk.inj g2
        obtain ⟨q4, g4⟩ := Prod.mk.inj g3
        obtain ⟨q5, g5⟩ := Prod.mk.inj g4
        obtain ⟨q6, g6⟩ := Prod.mk.inj g5
        obtain ⟨q7, g7⟩ := Prod.mk.inj g6
        obtain ⟨q8, q9⟩ := Prod.mk.inj g7
        subst q0 q1 q2 q3 q4 q5 q6 q7 q8 q9
        exact eMi C0 hP hS rfl rfl dX4_decide_118
    · have h := ifn c_4 h
      refine lv_iload hx hb dX4_decide_48 (lv_at hl 5 rfl) ?_
      refine lv_iload_n hx hb dX4_decide_50 rfl (lv_at hl 2 rfl) ?_
      refine lv_iand hx hb dX4_decide_51 ?_
      refine lv_if_ne (tgt := 69) hx hb dX4_decide_52 (by decide) (fun c_6 => ?_) (fun c_6 => ?_)
      · have h := ifn c_6 h
        refine lv_iconst (v := 0) hx hb dX4_decide_69 (by decide) ?_
        refine lv_istore (lv' := [(6, .int 0), (0, .ref a0), (1, .int v1), (2, .int v2), (3, .int v3), (4, .int v4), (5, .int v5)]) hx hb dX4_decide_70 hl (by decide) rfl (fun ls hl => ?_)
        refine lv_iload hx hb dX4_decide_72 (lv_at hl 0 rfl) ?_
        refine lv_if_eq (tgt := 97) hx hb dX4_decide_74 (by decide) (fun c_7 => ?_) (fun c_7 => ?_)
        · refine lv_iinc (v := v5 + 1) (lv' := [(5, .int (v5 + 1)), (6, .int 0), (0, .ref a0), (1, .int v1), (2, .int v2), (3, .int v3), (4, .int v4)]) hx hb dX4_decide_97 hl (k := 6) rfl rfl (by decide) rfl (fun ls hl => ?_)
          refine lv_goto (tgt := 34) hx hb dX4_decide_100 (by decide) ?_
          exact ih v3 v4 (v5 + 1) tpl tsp tsy tsh fd tsc tnc tdy tzz _ _ hP hS _ (lv_sub hl [2, 3, 4, 5, 6, 0] rfl) h
        · exact absurd c_7 (by decide)
      · have h := ifp c_6 h
        refine lv_iload hx hb dX4_decide_55 (lv_at hl 5 rfl) ?_
        refine kRi (rS C0 (tJ6_bitCount_0f7a4 l D cI cS v5 (fJ6_bitCount_0f7a4 v5) rfl) gX4_decide_J6_bitCount_0f7a4 rfl ⟨rfl, rfl⟩ pdJ6_bitCount_0f7a4 rfl ⟨Nat.le_of_ble_eq_true rfl, Nat.le_of_ble_eq_true rfl⟩ (fun _ _ _ _ q => q) (fun _ _ _ _ => vp0) hl.1 rfl (Nat.le_of_ble_eq_true rfl) dX4_decide_57 ⟨Nat.zero_le _, Nat.zero_le _⟩) ?_
        refine lv_iload hx hb dX4_decide_60 (lv_at hl 4 rfl) ?_
        refine lv_icmp_ge (tgt := 69) hx hb dX4_decide_62 (by decide) (fun c_8 => ?_) (fun c_8 => ?_)
        · have h := ifp c_8 h
          refine lv_iconst (v := 0) hx hb dX4_decide_69 (by decide) ?_
          refine lv_istore (lv' := [(6, .int 0), (0, .ref a0), (1, .int v1), (2, .int v2), (3, .int v3), (4, .int v4), (5, .int v5)]) hx hb dX4_decide_70 hl (by decide) rfl (fun ls hl => ?_)
          refine lv_iload hx hb dX4_decide_72 (lv_at hl 0 rfl) ?_
          refine lv_if_eq (tgt := 97) hx hb dX4_decide_74 (by decide) (fun c_9 => ?_) (fun c_9 => ?_)
          · refine lv_iinc (v := v5 + 1) (lv' := [(5, .int (v5 + 1)), (6, .int 0), (0, .ref a0), (1, .int v1), (2, .int v2), (3, .int v3), (4, .int v4)]) hx hb dX4_decide_97 hl (k := 6) rfl rfl (by decide) rfl (fun ls hl => ?_)
            refine lv_goto (tgt := 34) hx hb dX4_decide_100 (by decide) ?_
            exact ih v3 v4 (v5 + 1) tpl tsp tsy tsh fd tsc tnc tdy tzz _ _ hP hS _ (lv_sub hl [2, 3, 4, 5, 6, 0] rfl) h
          · exact absurd c_9 (by decide)
        · have h := ifn c_8 h
          refine lv_iconst (v := 1) hx hb dX4_decide_65 (by decide) ?_
          refine lv_goto (tgt := 70) hx hb dX4_decide_66 (by decide) ?_
          refine lv_istore (lv' := [(6, .int 1), (0, .ref a0), (1, .int v1), (2, .int v2), (3, .int v3), (4, .int v4), (5, .int v5)]) hx hb dX4_decide_70 hl (by decide) rfl (fun ls hl => ?_)
          refine lv_iload hx hb dX4_decide_72 (lv_at hl 0 rfl) ?_
          refine lv_if_eq (tgt := 97) hx hb dX4_decide_74 (by decide) (fun c_10 => ?_) (fun c_10 => ?_)
          · exact absurd c_10 (by decide)
          · refine lv_aload_n hx hb dX4_decide_77 rfl (lv_at hl 1 rfl) ?_
            refine lv_iload hx hb dX4_decide_78 (lv_at hl 6 rfl) ?_
            refine lv_iload_n hx hb dX4_decide_80 rfl (lv_at hl 2 rfl) ?_
            obtain ⟨z_11, e_12, h⟩ := bds h
            have hPc := hP.sub (ws' := (wX4 cI cS a0 a1 a2 a3 a4 a5 a6 a7 a8 a9 a10 a11 a12 a13 a14 a15 a16 a17 a18 a19 a20 a21 a22 ppl psp psy psh tpl tsp tsy tsh kpl ksp ksy ksh bs bt sz nm fd ik psc pnc pdy pzz tsc tnc tdy tzz ksc knc kdy kzz ln so be en va)) [0, 1, 2, 3, 4, 5, 6, 7, 8, 9, 10, 11, 12, 13, 14, 15, 16, 17, 18, 19, 20, 21, 22] rfl
            refine kMi (wf' := (wX4 cI cS a0 a1 a2 a3 a4 a5 a6 a7 a8 a9 a10 a11 a12 a13 a14 a15 a16 a17 a18 a19 a20 a21 a22 ppl psp psy psh z_11.2.1 z_11.2.2.1 z_11.2.2.2.1 z_11.2.2.2.2.1 kpl ksp ksy ksh bs bt sz nm fd ik psc pnc pdy pzz z_11.2.2.2.2.2.1 z_11.2.2.2.2.2.2.1 z_11.2.2.2.2.2.2.2.1 z_11.2.2.2.2.2.2.2.2 ksc knc kdy kzz ln so be en va)) [0, 1, 2, 3, 4, 5, 6, 7, 8, 9, 10, 11, 12, 13, 14, 15, 16, 17, 18, 19, 20, 21, 22] [some 0, some 1, some 2, some 3, some 4, some 5, some 6, some 7, some 8, some 9, some 10, some 11, some 12, some 13, some 14, some 15, some 16, some 17, some 18, some 19, some 20, some 21, some 22] (rV C0 (tX4_allLandIfFinished l D cI cS F a0 a1 a2 a3 a4 a5 a6 a7 a8 a9 a10 a11 a12 a13 a14 a15 a16 a17 a18 a19 a20 a21 a22 ppl psp psy psh tpl tsp tsy tsh kpl ksp ksy ksh bs bt sz nm fd ik psc pnc pdy pzz tsc tnc tdy tzz ksc knc kdy kzz ln so be en va v5 v1 z_11.1 z_11.2.1 z_11.2.2.1 z_11.2.2.2.1 z_11.2.2.2.2.1 z_11.2.2.2.2.2.1 z_11.2.2.2.2.2.2.1 z_11.2.2.2.2.2.2.2.1 z_11.2.2.2.2.2.2.2.2 e_12 (((hD (wX4 cI cS a0 a1 a2 a3 a4 a5 a6 a7 a8 a9 a10 a11 a12 a13 a14 a15 a16 a17 a18 a19 a20 a21 a22 ppl psp psy psh tpl tsp tsy tsh kpl ksp ksy ksh bs bt sz nm fd ik psc pnc pdy pzz tsc tnc tdy tzz ksc knc kdy kzz ln so be en va) rfl).sub [0, 1, 2, 3, 4, 5, 6, 7, 8, 9, 10, 11, 12, 13, 14, 15, 16, 17, 18, 19, 20, 21, 22] (by decide) rfl).weaken (fun _ _ _ _ => trivial))) RX4 gX4_decide_X4_allLandIfFinished rfl ⟨rfl, rfl⟩ pdX4_allLandIfFinished rfl ⟨Nat.le_of_ble_eq_true rfl, Nat.le_of_ble_eq_true rfl⟩ (fun _ _ _ _ q => q) (va_recv hE.1 hPc (ci := 3) (q0 := 0) rfl rfl) (fun U hU _ _ => by rw [hU]; exact hPc) hl.1 rfl (Nat.le_of_ble_eq_true rfl) dX4_decide_81 ⟨Nat.zero_le _, Nat.zero_le _⟩) hP (hD _ rfl) hS rfl rfl rfl (fun H locs hP hS => ?_)
            refine lv_if_eq (tgt := 97) hx hb dX4_decide_84 (by decide) (fun c_13 => ?_) (fun c_13 => ?_)
            · have h := ifp c_13 h
              refine lv_iinc (v := v5 + 1) (lv' := [(5, .int (v5 + 1)), (6, .int 1), (0, .ref a0), (1, .int v1), (2, .int v2), (3, .int v3), (4, .int v4)]) hx hb dX4_decide_97 hl (k := 6) rfl rfl (by decide) rfl (fun ls hl => ?_)
              refine lv_goto (tgt := 34) hx hb dX4_decide_100 (by decide) ?_
              exact ih v3 v4 (v5 + 1) z_11.2.1 z_11.2.2.1 z_11.2.2.2.1 z_11.2.2.2.2.1 fd z_11.2.2.2.2.2.1 z_11.2.2.2.2.2.2.1 z_11.2.2.2.2.2.2.2.1 z_11.2.2.2.2.2.2.2.2 _ _ hP hS _ (lv_sub hl [2, 3, 4, 5, 6, 0] rfl) h
            · have h := ifn c_13 h
              refine lv_iload hx hb dX4_decide_87 (lv_at hl 6 rfl) ?_
              refine lv_istore_n (lv' := [(3, .int v5), (6, .int 1), (0, .ref a0), (1, .int v1), (2, .int v2), (4, .int v4), (5, .int v5)]) hx hb dX4_decide_89 rfl hl (by decide) rfl (fun ls hl => ?_)
              refine lv_iload hx hb dX4_decide_90 (lv_at hl 6 rfl) ?_
              refine kRi (rS C0 (tJ6_bitCount_0f7a4 l D cI cS v5 (fJ6_bitCount_0f7a4 v5) rfl) gX4_decide_J6_bitCount_0f7a4 rfl ⟨rfl, rfl⟩ pdJ6_bitCount_0f7a4 rfl ⟨Nat.le_of_ble_eq_true rfl, Nat.le_of_ble_eq_true rfl⟩ (fun _ _ _ _ q => q) (fun _ _ _ _ => vp0) hl.1 rfl (Nat.le_of_ble_eq_true rfl) dX4_decide_92 ⟨Nat.zero_le _, Nat.zero_le _⟩) ?_
              refine lv_istore (lv' := [(4, .int (fJ6_bitCount_0f7a4 v5)), (3, .int v5), (6, .int 1), (0, .ref a0), (1, .int v1), (2, .int v2), (5, .int v5)]) hx hb dX4_decide_95 hl (by decide) rfl (fun ls hl => ?_)
              refine lv_iinc (v := v5 + 1) (lv' := [(5, .int (v5 + 1)), (4, .int (fJ6_bitCount_0f7a4 v5)), (3, .int v5), (6, .int 1), (0, .ref a0), (1, .int v1), (2, .int v2)]) hx hb dX4_decide_97 hl (k := 6) rfl rfl (by decide) rfl (fun ls hl => ?_)
              refine lv_goto (tgt := 34) hx hb dX4_decide_100 (by decide) ?_
              exact ih v5 (fJ6_bitCount_0f7a4 v5) (v5 + 1) z_11.2.1 z_11.2.2.1 z_11.2.2.2.1 z_11.2.2.2.2.1 fd z_11.2.2.2.2.2.1 z_11.2.2.2.2.2.2.1 z_11.2.2.2.2.2.2.2.1 z_11.2.2.2.2.2.2.2.2 _ _ hP hS _ (lv_sub hl [4, 5, 6, 2, 1, 0] rfl) h
set_option maxHeartbeats 4000000 in
set_option maxRecDepth 100000 in
theorem tX4_decide (l : Launch) (D : va_G) (cI cS : ClassId) (F : Nat) (a0 a1 a2 a3 a4 a5 a6 a7 a8 a9 a10 a11 a12 a13 a14 a15 a16 a17 a18 a19 a20 a21 a22 : Nat) (ppl : Nat → Int32) (psp : Nat → Int32) (psy : Nat → Int32) (psh : Nat → Int32) (tpl : Nat → Int32) (tsp : Nat → Int32) (tsy : Nat → Int32) (tsh : Nat → Int32) (kpl : Nat → Int32) (ksp : Nat → Int32) (ksy : Nat → Int32) (ksh : Nat → Int32) (bs : Nat → Int32) (bt : Nat → Int32) (sz : Nat → Int32) (nm : Nat → Int32) (fd : Nat → Int32) (ik : Int32) (psc : Int32) (pnc : Int32) (pdy : Int32) (pzz : Int32) (tsc : Int32) (tnc : Int32) (tdy : Int32) (tzz : Int32) (ksc : Int32) (knc : Int32) (kdy : Int32) (kzz : Int32) (ln : Int32) (so : Int32) (be : Int32) (en : Int32) (va : Int32) (v1 : Int32) (z0 : Int32) (z1 : Nat → Int32) (z2 : Nat → Int32) (z3 : Nat → Int32) (z4 : Nat → Int32) (z5 : Nat → Int32) (z6 : Int32) (z7 : Int32) (z8 : Int32) (z9 : Int32) (h : fX4_decide F ppl psp psy psh tpl tsp tsy tsh fd psc pnc pdy pzz tsc tnc tdy tzz v1 = some (z0, z1, z2, z3, z4, z5, z6, z7, z8, z9)) (hD0 : va_D (fun _ => True) (wX4 cI cS a0 a1 a2 a3 a4 a5 a6 a7 a8 a9 a10 a11 a12 a13 a14 a15 a16 a17 a18 a19 a20 a21 a22 ppl psp psy psh tpl tsp tsy tsh kpl ksp ksy ksh bs bt sz nm fd ik psc pnc pdy pzz tsc tnc tdy tzz ksc knc kdy kzz ln so be en va)) : Met l yX4_decide wsX4_decide rmX4_decide (PZ D cI cS [.ref a0, .int v1] (fun U => va_P D vwCl (wX4 cI cS a0 a1 a2 a3 a4 a5 a6 a7 a8 a9 a10 a11 a12 a13 a14 a15 a16 a17 a18 a19 a20 a21 a22 ppl psp psy psh tpl tsp tsy tsh kpl ksp ksy ksh bs bt sz nm fd ik psc pnc pdy pzz tsc tnc tdy tzz ksc knc kdy kzz ln so be en va) U.heap)) (qI D (wX4 cI cS a0 a1 a2 a3 a4 a5 a6 a7 a8 a9 a10 a11 a12 a13 a14 a15 a16 a17 a18 a19 a20 a21 a22 ppl psp psy psh tpl tsp tsy tsh kpl ksp ksy ksh bs bt sz nm fd ik psc pnc pdy pzz tsc tnc tdy tzz ksc knc kdy kzz ln so be en va) (wX4 cI cS a0 a1 a2 a3 a4 a5 a6 a7 a8 a9 a10 a11 a12 a13 a14 a15 a16 a17 a18 a19 a20 a21 a22 ppl psp psy psh z1 z2 z3 z4 kpl ksp ksy ksh bs bt sz nm z5 ik psc pnc pdy pzz z6 z7 z8 z9 ksc knc kdy kzz ln so be en va) z0) 0 0 (wA (wX4 cI cS a0 a1 a2 a3 a4 a5 a6 a7 a8 a9 a10 a11 a12 a13 a14 a15 a16 a17 a18 a19 a20 a21 a22 ppl psp psy psh tpl tsp tsy tsh kpl ksp ksy ksh bs bt sz nm fd ik psc pnc pdy pzz tsc tnc tdy tzz ksc knc kdy kzz ln so be en va)) := by
  refine Met.mk RX4 (by decide) rfl rfl (Nat.le_of_ble_eq_true rfl) ?_
  intro p e s m below meth c ls C0 hP hl
  have hl : lv_has ls 7 [(0, .ref a0), (1, .int v1)] := hl
  obtain ⟨hx, hb, hr, hml, hown, hts, hlk, hE⟩ := id C0
  have hinX0 : ∀ w ∈ u_ws RX0 TX0 8, w ∈ wsX4_decide := by decide +kernel
  have hinX4 : ∀ w ∈ u_ws RX4 TX4 7, w ∈ wsX4_decide := by decide +kernel
  have hD : ∀ W : va_W, W.map Prod.fst = [a0, a1, a2, a3, a4, a5, a6, a7, a8, a9, a10, a11, a12, a13, a14, a15, a16, a17, a18, a19, a20, a21, a22] → va_D (wA (wX4 cI cS a0 a1 a2 a3 a4 a5 a6 a7 a8 a9 a10 a11 a12 a13 a14 a15 a16 a17 a18 a19 a20 a21 a22 ppl psp psy psh tpl tsp tsy tsh kpl ksp ksy ksh bs bt sz nm fd ik psc pnc pdy pzz tsc tnc tdy tzz ksc knc kdy kzz ln so be en va)) W := fun W hW => hD0.own.re hW
  have hS : va_S (wA (wX4 cI cS a0 a1 a2 a3 a4 a5 a6 a7 a8 a9 a10 a11 a12 a13 a14 a15 a16 a17 a18 a19 a20 a21 a22 ppl psp psy psh tpl tsp tsy tsh kpl ksp ksy ksh bs bt sz nm fd ik psc pnc pdy pzz tsc tnc tdy tzz ksc knc kdy kzz ln so be en va)) s.heap s.heap [] := va_S.rf
  have hP : va_P D vwCl (wX4 cI cS a0 a1 a2 a3 a4 a5 a6 a7 a8 a9 a10 a11 a12 a13 a14 a15 a16 a17 a18 a19 a20 a21 a22 ppl psp psy psh tpl tsp tsy tsh kpl ksp ksy ksh bs bt sz nm fd ik psc pnc pdy pzz tsc tnc tdy tzz ksc knc kdy kzz ln so be en va) s.heap := hP
  rw [fX4_decide] at h
  refine lv_iload_n hx hb dX4_decide_0 rfl (lv_at hl 1 rfl) ?_
  refine lv_iconst (v := 0) hx hb dX4_decide_1 (by decide) ?_
  refine lv_bipush (v := 16) hx hb dX4_decide_2 (by decide) ?_
  refine kRi (rS C0 (tX4_within l D cI cS v1 0 16 (fX4_within v1 0 16) rfl) gX4_decide_X4_within rfl ⟨rfl, rfl⟩ pdX4_within rfl ⟨Nat.le_of_ble_eq_true rfl, Nat.le_of_ble_eq_true rfl⟩ (fun _ _ _ _ q => q) (fun _ _ _ _ => vp0) hl.1 rfl (Nat.le_of_ble_eq_true rfl) dX4_decide_4 ⟨Nat.zero_le _, Nat.zero_le _⟩) ?_
  refine lv_if_ne (tgt := 17) hx hb dX4_decide_7 (by decide) (fun c_1 => ?_) (fun c_1 => ?_)
  · have h := ifn c_1 h
    refine lv_aload_n hx hb dX4_decide_17 rfl (lv_at hl 0 rfl) ?_
    refine va_get (D := D) (ci := 3) (v := .ref a1) (C := RX4) (T := TX4) (N := 7) hx hb hts hinX4 hown hE.1 hP 0 rfl rfl 0 (by decide) (hts _ (List.mem_of_getElem? (i := 2) rfl)) (fun _ h9 => h9) rfl dX4_decide_18 ?_
    obtain ⟨z_2, e_3, h⟩ := bds h
    have hPc := hP.sub (ws' := (wX0 cI cS a1 a2 a3 a4 a5 ppl psp psy psh psc pnc pdy pzz)) [1, 2, 3, 4, 5] rfl
    refine kRi (rV C0 (tX0_finishedSayings l D cI cS F a1 a2 a3 a4 a5 ppl psp psy psh psc pnc pdy pzz  z_2 e_3) RX0 gX4_decide_X0_finishedSayings rfl ⟨rfl, rfl⟩ pdX0_finishedSayings rfl ⟨Nat.le_of_ble_eq_true rfl, Nat.le_of_ble_eq_true rfl⟩ (fun _ _ _ _ q => q) (va_recv hE.1 hPc (ci := 0) (q0 := 0) rfl rfl) (fun U hU _ _ => by rw [hU]; exact hPc) hl.1 rfl (Nat.le_of_ble_eq_true rfl) dX4_decide_21 ⟨Nat.zero_le _, Nat.zero_le _⟩) ?_
    refine lv_istore_n (lv' := [(2, .int z_2), (0, .ref a0), (1, .int v1)]) hx hb dX4_decide_24 rfl hl (by decide) rfl (fun ls hl => ?_)
    refine lv_iconst (v := (-1)) hx hb dX4_decide_25 (by decide) ?_
    refine lv_istore_n (lv' := [(3, .int (-1)), (2, .int z_2), (0, .ref a0), (1, .int v1)]) hx hb dX4_decide_26 rfl hl (by decide) rfl (fun ls hl => ?_)
    refine lv_bipush (v := 9) hx hb dX4_decide_27 (by decide) ?_
    refine lv_istore (lv' := [(4, .int 9), (3, .int (-1)), (2, .int z_2), (0, .ref a0), (1, .int v1)]) hx hb dX4_decide_29 hl (by decide) rfl (fun ls hl => ?_)
    refine lv_iconst (v := 0) hx hb dX4_decide_31 (by decide) ?_
    refine lv_istore (lv' := [(5, .int 0), (4, .int 9), (3, .int (-1)), (2, .int z_2), (0, .ref a0), (1, .int v1)]) hx hb dX4_decide_32 hl (by decide) rfl (fun ls hl => ?_)
    exact lX4_decide_34 (l := l) (e := e) (below := below) C0 F ppl psp psy psh kpl ksp ksy ksh bs bt sz nm ik psc pnc pdy pzz ksc knc kdy kzz ln so be en va v1 z_2 z0 z1 z2 z3 z4 z5 z6 z7 z8 z9 hD F (-1) 9 0 tpl tsp tsy tsh fd tsc tnc tdy tzz _ _ hP hS _ (lv_sub hl [4, 5, 3, 2, 1, 0] rfl) h
  · have h := ifp c_1 h
    refine lv_aload_n hx hb dX4_decide_10 rfl (lv_at hl 0 rfl) ?_
    refine lv_ldc (v := (-1000001)) hx hb hown (hts _ (List.mem_of_getElem? (i := 1) rfl)) dX4_decide_11 ?_
    have hPc := hP.sub (ws' := (wX4 cI cS a0 a1 a2 a3 a4 a5 a6 a7 a8 a9 a10 a11 a12 a13 a14 a15 a16 a17 a18 a19 a20 a21 a22 ppl psp psy psh tpl tsp tsy tsh kpl ksp ksy ksh bs bt sz nm fd ik psc pnc pdy pzz tsc tnc tdy tzz ksc knc kdy kzz ln so be en va)) [0, 1, 2, 3, 4, 5, 6, 7, 8, 9, 10, 11, 12, 13, 14, 15, 16, 17, 18, 19, 20, 21, 22] rfl
    refine kMi (wf' := (wX4 cI cS a0 a1 a2 a3 a4 a5 a6 a7 a8 a9 a10 a11 a12 a13 a14 a15 a16 a17 a18 a19 a20 a21 a22 ppl psp psy psh tpl tsp tsy tsh kpl ksp ksy ksh bs bt sz nm (fX4_finding_o1 fd (-1000001)) ik psc pnc pdy pzz tsc tnc tdy tzz ksc knc kdy kzz ln so be en va)) [0, 1, 2, 3, 4, 5, 6, 7, 8, 9, 10, 11, 12, 13, 14, 15, 16, 17, 18, 19, 20, 21, 22] [some 0, some 1, some 2, some 3, some 4, some 5, some 6, some 7, some 8, some 9, some 10, some 11, some 12, some 13, some 14, some 15, some 16, some 17, some 18, some 19, some 20, some 21, some 22] (rV C0 (tX4_finding l D cI cS a0 a1 a2 a3 a4 a5 a6 a7 a8 a9 a10 a11 a12 a13 a14 a15 a16 a17 a18 a19 a20 a21 a22 ppl psp psy psh tpl tsp tsy tsh kpl ksp ksy ksh bs bt sz nm fd ik psc pnc pdy pzz tsc tnc tdy tzz ksc knc kdy kzz ln so be en va (-1000001) (-1000001) (fX4_finding_o1 fd (-1000001)) (eeX4_finding ..) (((hD (wX4 cI cS a0 a1 a2 a3 a4 a5 a6 a7 a8 a9 a10 a11 a12 a13 a14 a15 a16 a17 a18 a19 a20 a21 a22 ppl psp psy psh tpl tsp tsy tsh kpl ksp ksy ksh bs bt sz nm fd ik psc pnc pdy pzz tsc tnc tdy tzz ksc knc kdy kzz ln so be en va) rfl).sub [0, 1, 2, 3, 4, 5, 6, 7, 8, 9, 10, 11, 12, 13, 14, 15, 16, 17, 18, 19, 20, 21, 22] (by decide) rfl).weaken (fun _ _ _ _ => trivial))) RX4 gX4_decide_X4_finding rfl ⟨rfl, rfl⟩ pdX4_finding rfl ⟨Nat.le_of_ble_eq_true rfl, Nat.le_of_ble_eq_true rfl⟩ (fun _ _ _ _ q => q) (va_recv hE.1 hPc (ci := 3) (q0 := 0) rfl rfl) (fun U hU _ _ => by rw [hU]; exact hPc) hl.1 rfl (Nat.le_of_ble_eq_true rfl) dX4_decide_13 ⟨Nat.zero_le _, Nat.zero_le _⟩) hP (hD _ rfl) hS rfl rfl rfl (fun H locs hP hS => ?_)
    obtain ⟨q0, g0⟩ := Prod.mk.inj (Option.some.inj h)
    obtain ⟨q1, g1⟩ := Prod.mk.inj g0
    obtain ⟨q2, g2⟩ := Prod.mk.inj g1
    obtain ⟨q3, g3⟩ := Prod.mk.inj g2
    obtain ⟨q4, g4⟩ := Prod.mk.inj g3
    obtain ⟨q5, g5⟩ := Prod.mk.inj g4
    obtain ⟨q6, g6⟩ := Prod.mk.inj g5
    obtain ⟨q7, g7⟩ := Prod.mk.inj g6
    obtain ⟨q8, q9⟩ := Prod.mk.inj g7
    subst q0 q1 q2 q3 q4 q5 q6 q7 q8 q9
    exact eMi C0 hP hS rfl rfl dX4_decide_16
def fX4_faultOfSheet (bt : Nat → Int32) (v1 : Int32) : Int32 := (if (fX4_isSheet v1) = 0 then (-1000001) else (if (fX2_isMissing bt v1) = 0 then 0 else (-1000006)))
abbrev rmX4_faultOfSheet : Room := { frames := 3, cells := 0, slots := 0, locals := 63 }
theorem pdX4_faultOfSheet : (yX4_faultOfSheet.cls = RX4 ∧ yX4_faultOfSheet.cls ≠ "java/lang/invoke/MethodHandle" ∧ yX4_faultOfSheet.cls ≠ "java/lang/invoke/VarHandle" ∧ (parseMethodDescriptor yX4_faultOfSheet.desc).map (fun d => d.parameters.length) = some 1) := by decide +kernel
set_option maxHeartbeats 4000000 in
set_option maxRecDepth 100000 in
theorem tX4_faultOfSheet (l : Launch) (D : va_G) (cI cS : ClassId) (a0 a1 a2 a3 a4 a5 a6 a7 a8 a9 a10 a11 a12 a13 a14 a15 a16 a17 a18 a19 a20 a21 a22 : Nat) (ppl : Nat → Int32) (psp : Nat → Int32) (psy : Nat → Int32) (psh : Nat → Int32) (tpl : Nat → Int32) (tsp : Nat → Int32) (tsy : Nat → Int32) (tsh : Nat → Int32) (kpl : Nat → Int32) (ksp : Nat → Int32) (ksy : Nat → Int32) (ksh : Nat → Int32) (bs : Nat → Int32) (bt : Nat → Int32) (sz : Nat → Int32) (nm : Nat → Int32) (fd : Nat → Int32) (ik : Int32) (psc : Int32) (pnc : Int32) (pdy : Int32) (pzz : Int32) (tsc : Int32) (tnc : Int32) (tdy : Int32) (tzz : Int32) (ksc : Int32) (knc : Int32) (kdy : Int32) (kzz : Int32) (ln : Int32) (so : Int32) (be : Int32) (en : Int32) (va : Int32) (v1 : Int32) (z0 : Int32) (h : fX4_faultOfSheet bt v1 = z0) : Met l yX4_faultOfSheet wsX4_faultOfSheet rmX4_faultOfSheet (PZ D cI cS [.ref a0, .int v1] (fun U => va_P D vwCl (wX4 cI cS a0 a1 a2 a3 a4 a5 a6 a7 a8 a9 a10 a11 a12 a13 a14 a15 a16 a17 a18 a19 a20 a21 a22 ppl psp psy psh tpl tsp tsy tsh kpl ksp ksy ksh bs bt sz nm fd ik psc pnc pdy pzz tsc tnc tdy tzz ksc knc kdy kzz ln so be en va) U.heap)) (vp_Si (fun x => x = z0)) 0 0 (fun _ => False) := by
  refine Met.mk RX4 (by decide) rfl rfl (Nat.le_of_ble_eq_true rfl) ?_
  intro p e s m below meth c ls C0 hP hl
  have hl : lv_has ls 2 [(0, .ref a0), (1, .int v1)] := hl
  obtain ⟨hx, hb, hr, hml, hown, hts, hlk, hE⟩ := id C0
  have hinX4 : ∀ w ∈ u_ws RX4 TX4 7, w ∈ wsX4_faultOfSheet := by decide +kernel
  rw [fX4_faultOfSheet] at h
  refine lv_iload_n hx hb dX4_faultOfSheet_0 rfl (lv_at hl 1 rfl) ?_
  refine kRi (rS C0 (tX4_isSheet l D cI cS v1 (fX4_isSheet v1) rfl) gX4_faultOfSheet_X4_isSheet rfl ⟨rfl, rfl⟩ pdX4_isSheet rfl ⟨Nat.le_of_ble_eq_true rfl, Nat.le_of_ble_eq_true rfl⟩ (fun _ _ _ _ q => q) (fun _ _ _ _ => vp0) hl.1 rfl (Nat.le_of_ble_eq_true rfl) dX4_faultOfSheet_1 ⟨Nat.zero_le _, Nat.zero_le _⟩) ?_
  refine lv_if_ne (tgt := 10) hx hb dX4_faultOfSheet_4 (by decide) (fun c_1 => ?_) (fun c_1 => ?_)
  · have h := ifn c_1 h
    refine lv_aload_n hx hb dX4_faultOfSheet_10 rfl (lv_at hl 0 rfl) ?_
    refine va_get (D := D) (ci := 3) (v := .ref a18) (C := RX4) (T := TX4) (N := 7) hx hb hts hinX4 hown hE.1 hP 0 rfl rfl 5 (by decide) (hts _ (List.mem_of_getElem? (i := 2) rfl)) (fun _ h9 => h9) rfl dX4_faultOfSheet_11 ?_
    refine lv_iload_n hx hb dX4_faultOfSheet_14 rfl (lv_at hl 1 rfl) ?_
    have hPc := hP.sub (ws' := (wX2 cI cS a18 a19 a20 a21 bt sz nm)) [18, 19, 20, 21] rfl
    refine kRi (rV C0 (tX2_isMissing l D cI cS a18 a19 a20 a21 bt sz nm v1 (fX2_isMissing bt v1) rfl) RX2 gX4_faultOfSheet_X2_isMissing rfl ⟨rfl, rfl⟩ pdX2_isMissing rfl ⟨Nat.le_of_ble_eq_true rfl, Nat.le_of_ble_eq_true rfl⟩ (fun _ _ _ _ q => q) (va_recv hE.1 hPc (ci := 1) (q0 := 0) rfl rfl) (fun U hU _ _ => by rw [hU]; exact hPc) hl.1 rfl (Nat.le_of_ble_eq_true rfl) dX4_faultOfSheet_15 ⟨Nat.zero_le _, Nat.zero_le _⟩) ?_
    refine lv_if_eq (tgt := 26) hx hb dX4_faultOfSheet_18 (by decide) (fun c_2 => ?_) (fun c_2 => ?_)
    · have h := ifp c_2 h
      refine lv_iconst (v := 0) hx hb dX4_faultOfSheet_26 (by decide) ?_
      exact eRi C0 h dX4_faultOfSheet_27
    · have h := ifn c_2 h
      refine lv_ldc (v := (-1000006)) hx hb hown (hts _ (List.mem_of_getElem? (i := 3) rfl)) dX4_faultOfSheet_21 ?_
      refine lv_goto (tgt := 27) hx hb dX4_faultOfSheet_23 (by decide) ?_
      exact eRi C0 h dX4_faultOfSheet_27
  · have h := ifp c_1 h
    refine lv_ldc (v := (-1000001)) hx hb hown (hts _ (List.mem_of_getElem? (i := 1) rfl)) dX4_faultOfSheet_7 ?_
    exact eRi C0 h dX4_faultOfSheet_9
