def fX4_sheet (F : Nat) (bt : Nat → Int32) (sz : Nat → Int32) (nm : Nat → Int32) (fd : Nat → Int32) (v1 : Int32) (v2 : Int32) (v3 : Int32) : Option (Int32 × (Nat → Int32) × (Nat → Int32) × (Nat → Int32) × (Nat → Int32)) := (if (fX4_isSheet v1) = 0 then some ((-1000001), bt, sz, nm, fX4_finding_o1 fd (-1000001)) else (if v2 = 0 then (if 0 ≤ v3 then (if v3 ≤ 40 then Option.bind (fX2_lay F bt sz nm v1 v2 v3) (fun z_5 => some (z_5.1, z_5.2.1, z_5.2.2.1, z_5.2.2.2, fd)) else some ((-1000001), bt, sz, nm, fX4_finding_o1 fd (-1000001))) else some ((-1000007), bt, sz, nm, fX4_finding_o1 fd (-1000007))) else (if v2 = 8 then (if 0 ≤ v3 then (if v3 ≤ 40 then Option.bind (fX2_lay F bt sz nm v1 v2 v3) (fun z_10 => some (z_10.1, z_10.2.1, z_10.2.2.1, z_10.2.2.2, fd)) else some ((-1000001), bt, sz, nm, fX4_finding_o1 fd (-1000001))) else some ((-1000007), bt, sz, nm, fX4_finding_o1 fd (-1000007))) else (if v2 = 16 then (if 0 ≤ v3 then (if v3 ≤ 40 then Option.bind (fX2_lay F bt sz nm v1 v2 v3) (fun z_15 => some (z_15.1, z_15.2.1, z_15.2.2.1, z_15.2.2.2, fd)) else some ((-1000001), bt, sz, nm, fX4_finding_o1 fd (-1000001))) else some ((-1000007), bt, sz, nm, fX4_finding_o1 fd (-1000007))) else (if v2 = 32 then (if 0 ≤ v3 then (if v3 ≤ 40 then Option.bind (fX2_lay F bt sz nm v1 v2 v3) (fun z_20 => some (z_20.1, z_20.2.1, z_20.2.2.1, z_20.2.2.2, fd)) else some ((-1000001), bt, sz, nm, fX4_finding_o1 fd (-1000001))) else some ((-1000007), bt, sz, nm, fX4_finding_o1 fd (-1000007))) else some ((-1000001), bt, sz, nm, fX4_finding_o1 fd (-1000001)))))))
abbrev rmX4_sheet : Room := { frames := 2, cells := 0, slots := 0, locals := 47 }
theorem pdX4_sheet : (yX4_sheet.cls = RX4 ∧ yX4_sheet.cls ≠ "java/lang/invoke/MethodHandle" ∧ yX4_sheet.cls ≠ "java/lang/invoke/VarHandle" ∧ (parseMethodDescriptor yX4_sheet.desc).map (fun d => d.parameters.length) = some 3) := by decide +kernel
set_option maxHeartbeats 4000000 in
set_option maxRecDepth 100000 in
theorem tX4_sheet (l : Launch) (D : va_G) (cI cS : ClassId) (F : Nat) (a0 a1 a2 a3 a4 a5 a6 a7 a8 a9 a10 a11 a12 a13 a14 a15 a16 a17 a18 a19 a20 a21 a22 : Nat) (ppl : Nat → Int32) (psp : Nat → Int32) (psy : Nat → Int32) (psh : Nat → Int32) (tpl : Nat → Int32) (tsp : Nat → Int32) (tsy : Nat → Int32) (tsh : Nat → Int32) (kpl : Nat → Int32) (ksp : Nat → Int32) (ksy : Nat → Int32) (ksh : Nat → Int32) (bs : Nat → Int32) (bt : Nat → Int32) (sz : Nat → Int32) (nm : Nat → Int32) (fd : Nat → Int32) (ik : Int32) (psc : Int32) (pnc : Int32) (pdy : Int32) (pzz : Int32) (tsc : Int32) (tnc : Int32) (tdy : Int32) (tzz : Int32) (ksc : Int32) (knc : Int32) (kdy : Int32) (kzz : Int32) (ln : Int32) (so : Int32) (be : Int32) (en : Int32) (va : Int32) (v1 : Int32) (v2 : Int32) (v3 : Int32) (z0 : Int32) (z1 : Nat → Int32) (z2 : Nat → Int32) (z3 : Nat → Int32) (z4 : Nat → Int32) (h : fX4_sheet F bt sz nm fd v1 v2 v3 = some (z0, z1, z2, z3, z4)) (hD0 : va_D (fun _ => True) (wX4 cI cS a0 a1 a2 a3 a4 a5 a6 a7 a8 a9 a10 a11 a12 a13 a14 a15 a16 a17 a18 a19 a20 a21 a22 ppl psp psy psh tpl tsp tsy tsh kpl ksp ksy ksh bs bt sz nm fd ik psc pnc pdy pzz tsc tnc tdy tzz ksc knc kdy kzz ln so be en va)) : Met l yX4_sheet wsX4_sheet rmX4_sheet (PZ D cI cS [.ref a0, .int v1, .int v2, .int v3] (fun U => va_P D vwCl (wX4 cI cS a0 a1 a2 a3 a4 a5 a6 a7 a8 a9 a10 a11 a12 a13 a14 a15 a16 a17 a18 a19 a20 a21 a22 ppl psp psy psh tpl tsp tsy tsh kpl ksp ksy ksh bs bt sz nm fd ik psc pnc pdy pzz tsc tnc tdy tzz ksc knc kdy kzz ln so be en va) U.heap)) (qI D (wX4 cI cS a0 a1 a2 a3 a4 a5 a6 a7 a8 a9 a10 a11 a12 a13 a14 a15 a16 a17 a18 a19 a20 a21 a22 ppl psp psy psh tpl tsp tsy tsh kpl ksp ksy ksh bs bt sz nm fd ik psc pnc pdy pzz tsc tnc tdy tzz ksc knc kdy kzz ln so be en va) (wX4 cI cS a0 a1 a2 a3 a4 a5 a6 a7 a8 a9 a10 a11 a12 a13 a14 a15 a16 a17 a18 a19 a20 a21 a22 ppl psp psy psh tpl tsp tsy tsh kpl ksp ksy ksh bs z1 z2 z3 z4 ik psc pnc pdy pzz tsc tnc tdy tzz ksc knc kdy kzz ln so be en va) z0) 0 0 (wA (wX4 cI cS a0 a1 a2 a3 a4 a5 a6 a7 a8 a9 a10 a11 a12 a13 a14 a15 a16 a17 a18 a19 a20 a21 a22 ppl psp psy psh tpl tsp tsy tsh kpl ksp ksy ksh bs bt sz nm fd ik psc pnc pdy pzz tsc tnc tdy tzz ksc knc kdy kzz ln so be en va)) := by
  refine Met.mk RX4 (by decide) rfl rfl (Nat.le_of_ble_eq_true rfl) ?_
  intro p e s m below meth c ls C0 hP hl
  have hl : lv_has ls 4 [(0, .ref a0), (1, .int v1), (2, .int v2), (3, .int v3)] := hl
  obtain ⟨hx, hb, hr, hml, hown, hts, hlk, hE⟩ := id C0
  have hinX4 : ∀ w ∈ u_ws RX4 TX4 7, w ∈ wsX4_sheet := by decide +kernel
  have hD : ∀ W : va_W, W.map Prod.fst = [a0, a1, a2, a3, a4, a5, a6, a7, a8, a9, a10, a11, a12, a13, a14, a15, a16, a17, a18, a19, a20, a21, a22] → va_D (wA (wX4 cI cS a0 a1 a2 a3 a4 a5 a6 a7 a8 a9 a10 a11 a12 a13 a14 a15 a16 a17 a18 a19 a20 a21 a22 ppl psp psy psh tpl tsp tsy tsh kpl ksp ksy ksh bs bt sz nm fd ik psc pnc pdy pzz tsc tnc tdy tzz ksc knc kdy kzz ln so be en va)) W := fun W hW => hD0.own.re hW
  have hS : va_S (wA (wX4 cI cS a0 a1 a2 a3 a4 a5 a6 a7 a8 a9 a10 a11 a12 a13 a14 a15 a16 a17 a18 a19 a20 a21 a22 ppl psp psy psh tpl tsp tsy tsh kpl ksp ksy ksh bs bt sz nm fd ik psc pnc pdy pzz tsc tnc tdy tzz ksc knc kdy kzz ln so be en va)) s.heap s.heap [] := va_S.rf
  have hP : va_P D vwCl (wX4 cI cS a0 a1 a2 a3 a4 a5 a6 a7 a8 a9 a10 a11 a12 a13 a14 a15 a16 a17 a18 a19 a20 a21 a22 ppl psp psy psh tpl tsp tsy tsh kpl ksp ksy ksh bs bt sz nm fd ik psc pnc pdy pzz tsc tnc tdy tzz ksc knc kdy kzz ln so be en va) s.heap := hP
  rw [fX4_sheet] at h
  refine lv_iload_n hx hb dX4_sheet_0 rfl (lv_at hl 1 rfl) ?_
  refine kRi (rS C0 (tX4_isSheet l D cI cS v1 (fX4_isSheet v1) rfl) gX4_sheet_X4_isSheet rfl ⟨rfl, rfl⟩ pdX4_isSheet rfl ⟨Nat.le_of_ble_eq_true rfl, Nat.le_of_ble_eq_true rfl⟩ (fun _ _ _ _ q => q) (fun _ _ _ _ => vp0) hl.1 rfl (Nat.le_of_ble_eq_true rfl) dX4_sheet_1 ⟨Nat.zero_le _, Nat.zero_le _⟩) ?_
  refine lv_if_eq (tgt := 29) hx hb dX4_sheet_4 (by decide) (fun c_1 => ?_) (fun c_1 => ?_)
  · have h := ifp c_1 h
    refine lv_aload_n hx hb dX4_sheet_29 rfl (lv_at hl 0 rfl) ?_
    refine lv_ldc (v := (-1000001)) hx hb hown (hts _ (List.mem_of_getElem? (i := 1) rfl)) dX4_sheet_30 ?_
    have hPc := hP.sub (ws' := (wX4 cI cS a0 a1 a2 a3 a4 a5 a6 a7 a8 a9 a10 a11 a12 a13 a14 a15 a16 a17 a18 a19 a20 a21 a22 ppl psp psy psh tpl tsp tsy tsh kpl ksp ksy ksh bs bt sz nm fd ik psc pnc pdy pzz tsc tnc tdy tzz ksc knc kdy kzz ln so be en va)) [0, 1, 2, 3, 4, 5, 6, 7, 8, 9, 10, 11, 12, 13, 14, 15, 16, 17, 18, 19, 20, 21, 22] rfl
    refine kMi (wf' := (wX4 cI cS a0 a1 a2 a3 a4 a5 a6 a7 a8 a9 a10 a11 a12 a13 a14 a15 a16 a17 a18 a19 a20 a21 a22 ppl psp psy psh tpl tsp tsy tsh kpl ksp ksy ksh bs bt sz nm (fX4_finding_o1 fd (-1000001)) ik psc pnc pdy pzz tsc tnc tdy tzz ksc knc kdy kzz ln so be en va)) [0, 1, 2, 3, 4, 5, 6, 7, 8, 9, 10, 11, 12, 13, 14, 15, 16, 17, 18, 19, 20, 21, 22] [some 0, some 1, some 2, some 3, some 4, some 5, some 6, some 7, some 8, some 9, some 10, some 11, some 12, some 13, some 14, some 15, some 16, some 17, some 18, some 19, some 20, some 21, some 22] (rV C0 (tX4_finding l D cI cS a0 a1 a2 a3 a4 a5 a6 a7 a8 a9 a10 a11 a12 a13 a14 a15 a16 a17 a18 a19 a20 a21 a22 ppl psp psy psh tpl tsp tsy tsh kpl ksp ksy ksh bs bt sz nm fd ik psc pnc pdy pzz tsc tnc tdy tzz ksc knc kdy kzz ln so be en va (-1000001) (-1000001) (fX4_finding_o1 fd (-1000001)) (eeX4_finding ..) (((hD (wX4 cI cS a0 a1 a2 a3 a4 a5 a6 a7 a8 a9 a10 a11 a12 a13 a14 a15 a16 a17 a18 a19 a20 a21 a22 ppl psp psy psh tpl tsp tsy tsh kpl ksp ksy ksh bs bt sz nm fd ik psc pnc pdy pzz tsc tnc tdy tzz ksc knc kdy kzz ln so be en va) rfl).sub [0, 1, 2, 3, 4, 5, 6, 7, 8, 9, 10, 11, 12, 13, 14, 15, 16, 17, 18, 19, 20, 21, 22] (by decide) rfl).weaken (fun _ _ _ _ => trivial))) RX4 gX4_sheet_X4_finding rfl ⟨rfl, rfl⟩ pdX4_finding rfl ⟨Nat.le_of_ble_eq_true rfl, Nat.le_of_ble_eq_true rfl⟩ (fun _ _ _ _ q => q) (va_recv hE.1 hPc (ci := 3) (q0 := 0) rfl rfl) (fun U hU _ _ => by rw [hU]; exact hPc) hl.1 rfl (Nat.le_of_ble_eq_true rfl) dX4_sheet_32 ⟨Nat.zero_le _, Nat.zero_le _⟩) hP (hD _ rfl) hS rfl rfl rfl (fun H locs hP hS => ?_)
    obtain ⟨q0, g0⟩ := Prod.mk.inj (Option.some.inj h)
    obtain ⟨q1, g1⟩ := Prod.mk.inj g0
    obtain ⟨q2, g2⟩ := Prod.mk.inj g1
    obtain ⟨q3, q4⟩ := Prod.mk.inj g2
    subst q0 q1 q2 q3 q4
    exact eMi C0 hP hS rfl rfl dX4_sheet_35
  · have h := ifn c_1 h
    refine lv_iload_n hx hb dX4_sheet_7 rfl (lv_at hl 2 rfl) ?_
    refine lv_if_eq (tgt := 36) hx hb dX4_sheet_8 (by decide) (fun c_2 => ?_) (fun c_2 => ?_)
    · have h := ifp c_2 h
      refine lv_iload_n hx hb dX4_sheet_36 rfl (lv_at hl 3 rfl) ?_
      refine lv_if_ge (tgt := 47) hx hb dX4_sheet_37 (by decide) (fun c_3 => ?_) (fun c_3 => ?_)
      · have h := ifp c_3 h
        refine lv_iload_n hx hb dX4_sheet_47 rfl (lv_at hl 3 rfl) ?_
        refine lv_bipush (v := 40) hx hb dX4_sheet_48 (by decide) ?_
        refine lv_icmp_le (tgt := 60) hx hb dX4_sheet_50 (by decide) (fun c_4 => ?_) (fun c_4 => ?_)
        · have h := ifp c_4 h
          refine lv_aload_n hx hb dX4_sheet_60 rfl (lv_at hl 0 rfl) ?_
          refine va_get (D := D) (ci := 3) (v := .ref a18) (C := RX4) (T := TX4) (N := 7) hx hb hts hinX4 hown hE.1 hP 0 rfl rfl 5 (by decide) (hts _ (List.mem_of_getElem? (i := 3) rfl)) (fun _ h9 => h9) rfl dX4_sheet_61 ?_
          refine lv_iload_n hx hb dX4_sheet_64 rfl (lv_at hl 1 rfl) ?_
          refine lv_iload_n hx hb dX4_sheet_65 rfl (lv_at hl 2 rfl) ?_
          refine lv_iload_n hx hb dX4_sheet_66 rfl (lv_at hl 3 rfl) ?_
          obtain ⟨z_5, e_6, h⟩ := bds h
          have hPc := hP.sub (ws' := (wX2 cI cS a18 a19 a20 a21 bt sz nm)) [18, 19, 20, 21] rfl
          refine kMi (wf' := (wX4 cI cS a0 a1 a2 a3 a4 a5 a6 a7 a8 a9 a10 a11 a12 a13 a14 a15 a16 a17 a18 a19 a20 a21 a22 ppl psp psy psh tpl tsp tsy tsh kpl ksp ksy ksh bs z_5.2.1 z_5.2.2.1 z_5.2.2.2 fd ik psc pnc pdy pzz tsc tnc tdy tzz ksc knc kdy kzz ln so be en va)) [18, 19, 20, 21] [none, none, none, none, none, none, none, none, none, none, none, none, none, none, none, none, none, none, some 0, some 1, some 2, some 3, none] (rV C0 (tX2_lay l D cI cS F a18 a19 a20 a21 bt sz nm v1 v2 v3 z_5.1 z_5.2.1 z_5.2.2.1 z_5.2.2.2 e_6 (((hD (wX4 cI cS a0 a1 a2 a3 a4 a5 a6 a7 a8 a9 a10 a11 a12 a13 a14 a15 a16 a17 a18 a19 a20 a21 a22 ppl psp psy psh tpl tsp tsy tsh kpl ksp ksy ksh bs bt sz nm fd ik psc pnc pdy pzz tsc tnc tdy tzz ksc knc kdy kzz ln so be en va) rfl).sub [18, 19, 20, 21] (by decide) rfl).weaken (fun _ _ _ _ => trivial))) RX2 gX4_sheet_X2_lay rfl ⟨rfl, rfl⟩ pdX2_lay rfl ⟨Nat.le_of_ble_eq_true rfl, Nat.le_of_ble_eq_true rfl⟩ (fun _ _ _ _ q => q) (va_recv hE.1 hPc (ci := 1) (q0 := 0) rfl rfl) (fun U hU _ _ => by rw [hU]; exact hPc) hl.1 rfl (Nat.le_of_ble_eq_true rfl) dX4_sheet_67 ⟨Nat.zero_le _, Nat.zero_le _⟩) hP (hD _ rfl) hS rfl rfl rfl (fun H locs hP hS => ?_)
          obtain ⟨q0, g0⟩ := Prod.mk.inj (Option.some.inj h)
          obtain ⟨q1, g1⟩ := Prod.mk.inj g0
          obtain ⟨q2, g2⟩ := Prod.mk.inj g1
          obtain ⟨q3, q4⟩ := Prod.mk.inj g2
          subst q0 q1 q2 q3 q4
          exact eMi C0 hP hS rfl rfl dX4_sheet_70
        · have h := ifn c_4 h
          refine lv_aload_n hx hb dX4_sheet_53 rfl (lv_at hl 0 rfl) ?_
          refine lv_ldc (v := (-1000001)) hx hb hown (hts _ (List.mem_of_getElem? (i := 1) rfl)) dX4_sheet_54 ?_
          have hPc := hP.sub (ws' := (wX4 cI cS a0 a1 a2 a3 a4 a5 a6 a7 a8 a9 a10 a11 a12 a13 a14 a15 a16 a17 a18 a19 a20 a21 a22 ppl psp psy psh tpl tsp tsy tsh kpl ksp ksy ksh bs bt sz nm fd ik psc pnc pdy pzz tsc tnc tdy tzz ksc knc kdy kzz ln so be en va)) [0, 1, 2, 3, 4, 5, 6, 7, 8, 9, 10, 11, 12, 13, 14, 15, 16, 17, 18, 19, 20, 21, 22] rfl
          refine kMi (wf' := (wX4 cI cS a0 a1 a2 a3 a4 a5 a6 a7 a8 a9 a10 a11 a12 a13 a14 a15 a16 a17 a18 a19 a20 a21 a22 ppl psp psy psh tpl tsp tsy tsh kpl ksp ksy ksh bs bt sz nm (fX4_finding_o1 fd (-1000001)) ik psc pnc pdy pzz tsc tnc tdy tzz ksc knc kdy kzz ln so be en va)) [0, 1, 2, 3, 4, 5, 6, 7, 8, 9, 10, 11, 12, 13, 14, 15, 16, 17, 18, 19, 20, 21, 22] [some 0, some 1, some 2, some 3, some 4, some 5, some 6, some 7, some 8, some 9, some 10, some 11, some 12, some 13, some 14, some 15, some 16, some 17, some 18, some 19, some 20, some 21, some 22] (rV C0 (tX4_finding l D cI cS a0 a1 a2 a3 a4 a5 a6 a7 a8 a9 a10 a11 a12 a13 a14 a15 a16 a17 a18 a19 a20 a21 a22 ppl psp psy psh tpl tsp tsy tsh kpl ksp ksy ksh bs bt sz nm fd ik psc pnc pdy pzz tsc tnc tdy tzz ksc knc kdy kzz ln so be en va (-1000001) (-1000001) (fX4_finding_o1 fd (-1000001)) (eeX4_finding ..) (((hD (wX4 cI cS a0 a1 a2 a3 a4 a5 a6 a7 a8 a9 a10 a11 a12 a13 a14 a15 a16 a17 a18 a19 a20 a21 a22 ppl psp psy psh tpl tsp tsy tsh kpl ksp ksy ksh bs bt sz nm fd ik psc pnc pdy pzz tsc tnc tdy tzz ksc knc kdy kzz ln so be en va) rfl).sub [0, 1, 2, 3, 4, 5, 6, 7, 8, 9, 10, 11, 12, 13, 14, 15, 16, 17, 18, 19, 20, 21, 22] (by decide) rfl).weaken (fun _ _ _ _ => trivial))) RX4 gX4_sheet_X4_finding rfl ⟨rfl, rfl⟩ pdX4_finding rfl ⟨Nat.le_of_ble_eq_true rfl, Nat.le_of_ble_eq_true rfl⟩ (fun _ _ _ _ q => q) (va_recv hE.1 hPc (ci := 3) (q0 := 0) rfl rfl) (fun U hU _ _ => by rw [hU]; exact hPc) hl.1 rfl (Nat.le_of_ble_eq_true rfl) dX4_sheet_56 ⟨Nat.zero_le _, Nat.zero_le _⟩) hP (hD _ rfl) hS rfl rfl rfl (fun H locs hP hS => ?_)
          obtain ⟨q0, g0⟩ := Prod.mk.inj (Option.some.inj h)
          obtain ⟨q1, g1⟩ := Prod.mk.inj g0
          obtain ⟨q2, g2⟩ := Prod.mk.inj g1
          obtain ⟨q3, q4⟩ := Prod.mk.inj g2
          subst q0 q1 q2 q3 q4
          exact eMi C0 hP hS rfl rfl dX4_sheet_59
      · have h := ifn c_3 h
        refine lv_aload_n hx hb dX4_sheet_40 rfl (lv_at hl 0 rfl) ?_
        refine lv_ldc (v := (-1000007)) hx hb hown (hts _ (List.mem_of_getElem? (i := 2) rfl)) dX4_sheet_41 ?_
        have hPc := hP.sub (ws' := (wX4 cI cS a0 a1 a2 a3 a4 a5 a6 a7 a8 a9 a10 a11 a12 a13 a14 a15 a16 a17 a18 a19 a20 a21 a22 ppl psp psy psh tpl tsp tsy tsh kpl ksp ksy ksh bs bt sz nm fd ik psc pnc pdy pzz tsc tnc tdy tzz ksc knc kdy kzz ln so be en va)) [0, 1, 2, 3, 4, 5, 6, 7, 8, 9, 10, 11, 12, 13, 14, 15, 16, 17, 18, 19, 20, 21, 22] rfl
        refine kMi (wf' := (wX4 cI cS a0 a1 a2 a3 a4 a5 a6 a7 a8 a9 a10 a11 a12 a13 a14 a15 a16 a17 a18 a19 a20 a21 a22 ppl psp psy psh tpl tsp tsy tsh kpl ksp ksy ksh bs bt sz nm (fX4_finding_o1 fd (-1000007)) ik psc pnc pdy pzz tsc tnc tdy tzz ksc knc kdy kzz ln so be en va)) [0, 1, 2, 3, 4, 5, 6, 7, 8, 9, 10, 11, 12, 13, 14, 15, 16, 17, 18, 19, 20, 21, 22] [some 0, some 1, some 2, some 3, some 4, some 5, some 6, some 7, some 8, some 9, some 10, some 11, some 12, some 13, some 14, some 15, some 16, some 17, some 18, some 19, some 20, some 21, some 22] (rV C0 (tX4_finding l D cI cS a0 a1 a2 a3 a4 a5 a6 a7 a8 a9 a10 a11 a12 a13 a14 a15 a16 a17 a18 a19 a20 a21 a22 ppl psp psy psh tpl tsp tsy tsh kpl ksp ksy ksh bs bt sz nm fd ik psc pnc pdy pzz tsc tnc tdy tzz ksc knc kdy kzz ln so be en va (-1000007) (-1000007) (fX4_finding_o1 fd (-1000007)) (eeX4_finding ..) (((hD (wX4 cI cS a0 a1 a2 a3 a4 a5 a6 a7 a8 a9 a10 a11 a12 a13 a14 a15 a16 a17 a18 a19 a20 a21 a22 ppl psp psy psh tpl tsp tsy tsh kpl ksp ksy ksh bs bt sz nm fd ik psc pnc pdy pzz tsc tnc tdy tzz ksc knc kdy kzz ln so be en va) rfl).sub [0, 1, 2, 3, 4, 5, 6, 7, 8, 9, 10, 11, 12, 13, 14, 15, 16, 17, 18, 19, 20, 21, 22] (by decide) rfl).weaken (fun _ _ _ _ => trivial))) RX4 gX4_sheet_X4_finding rfl ⟨rfl, rfl⟩ pdX4_finding rfl ⟨Nat.le_of_ble_eq_true rfl, Nat.le_of_ble_eq_true rfl⟩ (fun _ _ _ _ q => q) (va_recv hE.1 hPc (ci := 3) (q0 := 0) rfl rfl) (fun U hU _ _ => by rw [hU]; exact hPc) hl.1 rfl (Nat.le_of_ble_eq_true rfl) dX4_sheet_43 ⟨Nat.zero_le _, Nat.zero_le _⟩) hP (hD _ rfl) hS rfl rfl rfl (fun H locs hP hS => ?_)
        obtain ⟨q0, g0⟩ := Prod.mk.inj (Option.some.inj h)
        obtain ⟨q1, g1⟩ := Prod.mk.inj g0
        obtain ⟨q2, g2⟩ := Prod.mk.inj g1
        obtain ⟨q3, q4⟩ := Prod.mk.inj g2
        subst q0 q1 q2 q3 q4
        exact eMi C0 hP hS rfl rfl dX4_sheet_46
    · have h := ifn c_2 h
      refine lv_iload_n hx hb dX4_sheet_11 rfl (lv_at hl 2 rfl) ?_
      refine lv_bipush (v := 8) hx hb dX4_sheet_12 (by decide) ?_
      refine lv_icmp_eq (tgt := 36) hx hb dX4_sheet_14 (by decide) (fun c_7 => ?_) (fun c_7 => ?_)
      · have h := ifp c_7 h
        refine lv_iload_n hx hb dX4_sheet_36 rfl (lv_at hl 3 rfl) ?_
        refine lv_if_ge (tgt := 47) hx hb dX4_sheet_37 (by decide) (fun c_8 => ?_) (fun c_8 => ?_)
        · have h := ifp c_8 h
          refine lv_iload_n hx hb dX4_sheet_47 rfl (lv_at hl 3 rfl) ?_
          refine lv_bipush (v := 40) hx hb dX4_sheet_48 (by decide) ?_
          refine lv_icmp_le (tgt := 60) hx hb dX4_sheet_50 (by decide) (fun c_9 => ?_) (fun c_9 => ?_)
          · have h := ifp c_9 h
            refine lv_aload_n hx hb dX4_sheet_60 rfl (lv_at hl 0 rfl) ?_
            refine va_get (D := D) (ci := 3) (v := .ref a18) (C := RX4) (T := TX4) (N := 7) hx hb hts hinX4 hown hE.1 hP 0 rfl rfl 5 (by decide) (hts _ (List.mem_of_getElem? (i := 3) rfl)) (fun _ h9 => h9) rfl dX4_sheet_61 ?_
            refine lv_iload_n hx hb dX4_sheet_64 rfl (lv_at hl 1 rfl) ?_
            refine lv_iload_n hx hb dX4_sheet_65 rfl (lv_at hl 2 rfl) ?_
            refine lv_iload_n hx hb dX4_sheet_66 rfl (lv_at hl 3 rfl) ?_
            obtain ⟨z_10, e_11, h⟩ := bds h
            have hPc := hP.sub (ws' := (wX2 cI cS a18 a19 a20 a21 bt sz nm)) [18, 19, 20, 21] rfl
            refine kMi (wf' := (wX4 cI cS a0 a1 a2 a3 a4 a5 a6 a7 a8 a9 a10 a11 a12 a13 a14 a15 a16 a17 a18 a19 a20 a21 a22 ppl psp psy psh tpl tsp tsy tsh kpl ksp ksy ksh bs z_10.2.1 z_10.2.2.1 z_10.2.2.2 fd ik psc pnc pdy pzz tsc tnc tdy tzz ksc knc kdy kzz ln so be en va)) [18, 19, 20, 21] [none, none, none, none, none, none, none, none, none, none, none, none, none, none, none, none, none, none, some 0, some 1, some 2, some 3, none] (rV C0 (tX2_lay l D cI cS F a18 a19 a20 a21 bt sz nm v1 v2 v3 z_10.1 z_10.2.1 z_10.2.2.1 z_10.2.2.2 e_11 (((hD (wX4 cI cS a0 a1 a2 a3 a4 a5 a6 a7 a8 a9 a10 a11 a12 a13 a14 a15 a16 a17 a18 a19 a20 a21 a22 ppl psp psy psh tpl tsp tsy tsh kpl ksp ksy ksh bs bt sz nm fd ik psc pnc pdy pzz tsc tnc tdy tzz ksc knc kdy kzz ln so be en va) rfl).sub [18, 19, 20, 21] (by decide) rfl).weaken (fun _ _ _ _ => trivial))) RX2 gX4_sheet_X2_lay rfl ⟨rfl, rfl⟩ pdX2_lay rfl ⟨Nat.le_of_ble_eq_true rfl, Nat.le_of_ble_eq_true rfl⟩ (fun _ _ _ _ q => q) (va_recv hE.1 hPc (ci := 1) (q0 := 0) rfl rfl) (fun U hU _ _ => by rw [hU]; exact hPc) hl.1 rfl (Nat.le_of_ble_eq_true rfl) dX4_sheet_67 ⟨Nat.zero_le _, Nat.zero_le _⟩) hP (hD _ rfl) hS rfl rfl rfl (fun H locs hP hS => ?_)
            obtain ⟨q0, g0⟩ := Prod.mk.inj (Option.some.inj h)
            obtain ⟨q1, g1⟩ := Prod.mk.inj g0
            obtain ⟨q2, g2⟩ := Prod.mk.inj g1
            obtain ⟨q3, q4⟩ := Prod.mk.inj g2
            subst q0 q1 q2 q3 q4
            exact eMi C0 hP hS rfl rfl dX4_sheet_70
          · have h := ifn c_9 h
            refine lv_aload_n hx hb dX4_sheet_53 rfl (lv_at hl 0 rfl) ?_
            refine lv_ldc (v := (-1000001)) hx hb hown (hts _ (List.mem_of_getElem? (i := 1) rfl)) dX4_sheet_54 ?_
            have hPc := hP.sub (ws' := (wX4 cI cS a0 a1 a2 a3 a4 a5 a6 a7 a8 a9 a10 a11 a12 a13 a14 a15 a16 a17 a18 a19 a20 a21 a22 ppl psp psy psh tpl tsp tsy tsh kpl ksp ksy ksh bs bt sz nm fd ik psc pnc pdy pzz tsc tnc tdy tzz ksc knc kdy kzz ln so be en va)) [0, 1, 2, 3, 4, 5, 6, 7, 8, 9, 10, 11, 12, 13, 14, 15, 16, 17, 18, 19, 20, 21, 22] rfl
            refine kMi (wf' := (wX4 cI cS a0 a1 a2 a3 a4 a5 a6 a7 a8 a9 a10 a11 a12 a13 a14 a15 a16 a17 a18 a19 a20 a21 a22 ppl psp psy psh tpl tsp tsy tsh kpl ksp ksy ksh bs bt sz nm (fX4_finding_o1 fd (-1000001)) ik psc pnc pdy pzz tsc tnc tdy tzz ksc knc kdy kzz ln so be en va)) [0, 1, 2, 3, 4, 5, 6, 7, 8, 9, 10, 11, 12, 13, 14, 15, 16, 17, 18, 19, 20, 21, 22] [some 0, some 1, some 2, some 3, some 4, some 5, some 6, some 7, some 8, some 9, some 10, some 11, some 12, some 13, some 14, some 15, some 16, some 17, some 18, some 19, some 20, some 21, some 22] (rV C0 (tX4_finding l D cI cS a0 a1 a2 a3 a4 a5 a6 a7 a8 a9 a10 a11 a12 a13 a14 a15 a16 a17 a18 a19 a20 a21 a22 ppl psp psy psh tpl tsp tsy tsh kpl ksp ksy ksh bs bt sz nm fd ik psc pnc pdy pzz tsc tnc tdy tzz ksc knc kdy kzz ln so be en va (-1000001) (-1000001) (fX4_finding_o1 fd (-1000001)) (eeX4_finding ..) (((hD (wX4 cI cS a0 a1 a2 a3 a4 a5 a6 a7 a8 a9 a10 a11 a12 a13 a14 a15 a16 a17 a18 a19 a20 a21 a22 ppl psp psy psh tpl tsp tsy tsh kpl ksp ksy ksh bs bt sz nm fd ik psc pnc pdy pzz tsc tnc tdy tzz ksc knc kdy kzz ln so be en va) rfl).sub [0, 1, 2, 3, 4, 5, 6, 7, 8, 9, 10, 11, 12, 13, 14, 15, 16, 17, 18, 19, 20, 21, 22] (by decide) rfl).weaken (fun _ _ _ _ => trivial))) RX4 gX4_sheet_X4_finding rfl ⟨rfl, rfl⟩ pdX4_finding rfl ⟨Nat.le_of_ble_eq_true rfl, Nat.le_of_ble_eq_true rfl⟩ (fun _ _ _ _ q => q) (va_recv hE.1 hPc (ci := 3) (q0 := 0) rfl rfl) (fun U hU _ _ => by rw [hU]; exact hPc) hl.1 rfl (Nat.le_of_ble_eq_true rfl) dX4_sheet_56 ⟨Nat.zero_le _, Nat.zero_le _⟩) hP (hD _ rfl) hS rfl rfl rfl (fun H locs hP hS => ?_)
            obtain ⟨q0, g0⟩ := Prod.mk.inj (Option.some.inj h)
            obtain ⟨q1, g1⟩ := Prod.mk.inj g0
            obtain ⟨q2, g2⟩ := Prod.mk.inj g1
            obtain ⟨q3, q4⟩ := Prod.mk.inj g2
            subst q0 q1 q2 q3 q4
            exact eMi C0 hP hS rfl rfl dX4_sheet_59
        · have h := ifn c_8 h
          refine lv_aload_n hx hb dX4_sheet_40 rfl (lv_at hl 0 rfl) ?_
          refine lv_ldc (v := (-1000007)) hx hb hown (hts _ (List.mem_of_getElem? (i := 2) rfl)) dX4_sheet_41 ?_
          have hPc := hP.sub (ws' := (wX4 cI cS a0 a1 a2 a3 a4 a5 a6 a7 a8 a9 a10 a11 a12 a13 a14 a15 a16 a17 a18 a19 a20 a21 a22 ppl psp psy psh tpl tsp tsy tsh kpl ksp ksy ksh bs bt sz nm fd ik psc pnc pdy pzz tsc tnc tdy tzz ksc knc kdy kzz ln so be en va)) [0, 1, 2, 3, 4, 5, 6, 7, 8, 9, 10, 11, 12, 13, 14, 15, 16, 17, 18, 19, 20, 21, 22] rfl
          refine kMi (wf' := (wX4 cI cS a0 a1 a2 a3 a4 a5 a6 a7 a8 a9 a10 a11 a12 a13 a14 a15 a16 a17 a18 a19 a20 a21 a22 ppl psp psy psh tpl tsp tsy tsh kpl ksp ksy ksh bs bt sz nm (fX4_finding_o1 fd (-1000007)) ik psc pnc pdy pzz tsc tnc tdy tzz ksc knc kdy kzz ln so be en va)) [0, 1, 2, 3, 4, 5, 6, 7, 8, 9, 10, 11, 12, 13, 14, 15, 16, 17, 18, 19, 20, 21, 22] [some 0, some 1, some 2, some 3, some 4, some 5, some 6, some 7, some 8, some 9, some 10, some 11, some 12, some 13, some 14, some 15, some 16, some 17, some 18, some 19, some 20, some 21, some 22] (rV C0 (tX4_finding l D cI cS a0 a1 a2 a3 a4 a5 a6 a7 a8 a9 a10 a11 a12 a13 a14 a15 a16 a17 a18 a19 a20 a21 a22 ppl psp psy psh tpl tsp tsy tsh kpl ksp ksy ksh bs bt sz nm fd ik psc pnc pdy pzz tsc tnc tdy tzz ksc knc kdy kzz ln so be en va (-1000007) (-1000007) (fX4_finding_o1 fd (-1000007)) (eeX4_finding ..) (((hD (wX4 cI cS a0 a1 a2 a3 a4 a5 a6 a7 a8 a9 a10 a11 a12 a13 a14 a15 a16 a17 a18 a19 a20 a21 a22 ppl psp psy psh tpl tsp tsy tsh kpl ksp ksy ksh bs bt sz nm fd ik psc pnc pdy pzz tsc tnc tdy tzz ksc knc kdy kzz ln so be en va) rfl).sub [0, 1, 2, 3, 4, 5, 6, 7, 8, 9, 10, 11, 12, 13, 14, 15, 16, 17, 18, 19, 20, 21, 22] (by decide) rfl).weaken (fun _ _ _ _ => trivial))) RX4 gX4_sheet_X4_finding rfl ⟨rfl, rfl⟩ pdX4_finding rfl ⟨Nat.le_of_ble_eq_true rfl, Nat.le_of_ble_eq_true rfl⟩ (fun _ _ _ _ q => q) (va_recv hE.1 hPc (ci := 3) (q0 := 0) rfl rfl) (fun U hU _ _ => by rw [hU]; exact hPc) hl.1 rfl (Nat.le_of_ble_eq_true rfl) dX4_sheet_43 ⟨Nat.zero_le _, Nat.zero_le _⟩) hP (hD _ rfl) hS rfl rfl rfl (fun H locs hP hS => ?_)
          obtain ⟨q0, g0⟩ := Prod.mk.inj (Option.some.inj h)
          obtain ⟨q1, g1⟩ := Prod.mk.inj g0
          obtain ⟨q2, g2⟩ := Prod.mk.inj g1
          obtain ⟨q3, q4⟩ := Prod.mk.inj g2
          subst q0 q1 q2 q3 q4
          exact eMi C0 hP hS rfl rfl dX4_sheet_46
      · have h := ifn c_7 h
        refine lv_iload_n hx hb dX4_sheet_17 rfl (lv_at hl 2 rfl) ?_
        refine lv_bipush (v := 16) hx hb dX4_sheet_18 (by decide) ?_
        refine lv_icmp_eq (tgt := 36) hx hb dX4_sheet_20 (by decide) (fun c_12 => ?_) (fun c_12 => ?_)
        · have h := ifp c_12 h
          refine lv_iload_n hx hb dX4_sheet_36 rfl (lv_at hl 3 rfl) ?_
          refine lv_if_ge (tgt := 47) hx hb dX4_sheet_37 (by decide) (fun c_13 => ?_) (fun c_13 => ?_)
          · have h := ifp c_13 h
            refine lv_iload_n hx hb dX4_sheet_47 rfl (lv_at hl 3 rfl) ?_
            refine lv_bipush (v := 40) hx hb dX4_sheet_48 (by decide) ?_
            refine lv_icmp_le (tgt := 60) hx hb dX4_sheet_50 (by decide) (fun c_14 => ?_) (fun c_14 => ?_)
            · have h := ifp c_14 h
              refine lv_aload_n hx hb dX4_sheet_60 rfl (lv_at hl 0 rfl) ?_
              refine va_get (D := D) (ci := 3) (v := .ref a18) (C := RX4) (T := TX4) (N := 7) hx hb hts hinX4 hown hE.1 hP 0 rfl rfl 5 (by decide) (hts _ (List.mem_of_getElem? (i := 3) rfl)) (fun _ h9 => h9) rfl dX4_sheet_61 ?_
              refine lv_iload_n hx hb dX4_sheet_64 rfl (lv_at hl 1 rfl) ?_
              refine lv_iload_n hx hb dX4_sheet_65 rfl (lv_at hl 2 rfl) ?_
              refine lv_iload_n hx hb dX4_sheet_66 rfl (lv_at hl 3 rfl) ?_
              obtain ⟨z_15, e_16, h⟩ := bds h
              have hPc := hP.sub (ws' := (wX2 cI cS a18 a19 a20 a21 bt sz nm)) [18, 19, 20, 21] rfl
              refine kMi (wf' := (wX4 cI cS a0 a1 a2 a3 a4 a5 a6 a7 a8 a9 a10 a11 a12 a13 a14 a15 a16 a17 a18 a19 a20 a21 a22 ppl psp psy psh tpl tsp tsy tsh kpl ksp ksy ksh bs z_15.2.1 z_15.2.2.1 z_15.2.2.2 fd ik psc pnc pdy pzz tsc tnc tdy tzz ksc knc kdy kzz ln so be en va)) [18, 19, 20, 21] [none, none, none, none, none, none, none, none, none, none, none, none, none, none, none, none, none, none, some 0, some 1, some 2, some 3, none] (rV C0 (tX2_lay l D cI cS F a18 a19 a20 a21 bt sz nm v1 v2 v3 z_15.1 z_15.2.1 z_15.2.2.1 z_15.2.2.2 e_16 (((hD (wX4 cI cS a0 a1 a2 a3 a4 a5 a6 a7 a8 a9 a10 a11 a12 a13 a14 a15 a16 a17 a18 a19 a20 a21 a22 ppl psp psy psh tpl tsp tsy tsh kpl ksp ksy ksh bs bt sz nm fd ik psc pnc pdy pzz tsc tnc tdy tzz ksc knc kdy kzz ln so be en va) rfl).sub [18, 19, 20, 21] (by decide) rfl).weaken (fun _ _ _ _ => trivial))) RX2 gX4_sheet_X2_lay rfl ⟨rfl, rfl⟩ pdX2_lay rfl ⟨Nat.le_of_ble_eq_true rfl, Nat.le_of_ble_eq_true rfl⟩ (fun _ _ _ _ q => q) (va_recv hE.1 hPc (ci := 1) (q0 := 0) rfl rfl) (fun U hU _ _ => by rw [hU]; exact hPc) hl.1 rfl (Nat.le_of_ble_eq_true rfl) dX4_sheet_67 ⟨Nat.zero_le _, Nat.zero_le _⟩) hP (hD _ rfl) hS rfl rfl rfl (fun H locs hP hS => ?_)
              obtain ⟨q0, g0⟩ := Prod.mk.inj (Option.some.inj h)
              obtain ⟨q1, g1⟩ := Prod.mk.inj g0
              obtain ⟨q2, g2⟩ := Prod.mk.inj g1
              obtain ⟨q3, q4⟩ := Prod.mk.inj g2
              subst q0 q1 q2 q3 q4
              exact eMi C0 hP hS rfl rfl dX4_sheet_70
            · have h := ifn c_14 h
              refine lv_aload_n hx hb dX4_sheet_53 rfl (lv_at hl 0 rfl) ?_
              refine lv_ldc (v := (-1000001)) hx hb hown (hts _ (List.mem_of_getElem? (i := 1) rfl)) dX4_sheet_54 ?_
              have hPc := hP.sub (ws' := (wX4 cI cS a0 a1 a2 a3 a4 a5 a6 a7 a8 a9 a10 a11 a12 a13 a14 a15 a16 a17 a18 a19 a20 a21 a22 ppl psp psy psh tpl tsp tsy tsh kpl ksp ksy ksh bs bt sz nm fd ik psc pnc pdy pzz tsc tnc tdy tzz ksc knc kdy kzz ln so be en va)) [0, 1, 2, 3, 4, 5, 6, 7, 8, 9, 10, 11, 12, 13, 14, 15, 16, 17, 18, 19, 20, 21, 22] rfl
              refine kMi (wf' := (wX4 cI cS a0 a1 a2 a3 a4 a5 a6 a7 a8 a9 a10 a11 a12 a13 a14 a15 a16 a17 a18 a19 a20 a21 a22 ppl psp psy psh tpl tsp tsy tsh kpl ksp ksy ksh bs bt sz nm (fX4_finding_o1 fd (-1000001)) ik psc pnc pdy pzz tsc tnc tdy tzz ksc knc kdy kzz ln so be en va)) [0, 1, 2, 3, 4, 5, 6, 7, 8, 9, 10, 11, 12, 13, 14, 15, 16, 17, 18, 19, 20, 21, 22] [some 0, some 1, some 2, some 3, some 4, some 5, some 6, some 7, some 8, some 9, some 10, some 11, some 12, some 13, some 14, some 15, some 16, some 17, some 18, some 19, some 20, some 21, some 22] (rV C0 (tX4_finding l D cI cS a0 a1 a2 a3 a4 a5 a6 a7 a8 a9 a10 a11 a12 a13 a14 a15 a16 a17 a18 a19 a20 a21 a22 ppl psp psy psh tpl tsp tsy tsh kpl ksp ksy ksh bs bt sz nm fd ik psc pnc pdy pzz tsc tnc tdy tzz ksc knc kdy kzz ln so be en va (-1000001) (-1000001) (fX4_finding_o1 fd (-1000001)) (eeX4_finding ..) (((hD (wX4 cI cS a0 a1 a2 a3 a4 a5 a6 a7 a8 a9 a10 a11 a12 a13 a14 a15 a16 a17 a18 a19 a20 a21 a22 ppl psp psy psh tpl tsp tsy tsh kpl ksp ksy ksh bs bt sz nm fd ik psc pnc pdy pzz tsc tnc tdy tzz ksc knc kdy kzz ln so be en va) rfl).sub [0, 1, 2, 3, 4, 5, 6, 7, 8, 9, 10, 11, 12, 13, 14, 15, 16, 17, 18, 19, 20, 21, 22] (by decide) rfl).weaken (fun _ _ _ _ => trivial))) RX4 gX4_sheet_X4_finding rfl ⟨rfl, rfl⟩ pdX4_finding rfl ⟨Nat.le_of_ble_eq_true rfl, Nat.le_of_ble_eq_true rfl⟩ (fun _ _ _ _ q => q) (va_recv hE.1 hPc (ci := 3) (q0 := 0) rfl rfl) (fun U hU _ _ => by rw [hU]; exact hPc) hl.1 rfl (Nat.le_of_ble_eq_true rfl) dX4_sheet_56 ⟨Nat.zero_le _, Nat.zero_le _⟩) hP (hD _ rfl) hS rfl rfl rfl (fun H locs hP hS => ?_)
              obtain ⟨q0, g0⟩ := Prod.mk.inj (Option.some.inj h)
              obtain ⟨q1, g1⟩ := Prod.mk.inj g0
              obtain ⟨q2, g2⟩ := Prod.mk.inj g1
              obtain ⟨q3, q4⟩ := Prod.mk.inj g2
              subst q0 q1 q2 q3 q4
              exact eMi C0 hP hS rfl rfl dX4_sheet_59
          · have h := ifn c_13 h
            refine lv_aload_n hx hb dX4_sheet_40 rfl (lv_at hl 0 rfl) ?_
            refine lv_ldc (v := (-1000007)) hx hb hown (hts _ (List.mem_of_getElem? (i := 2) rfl)) dX4_sheet_41 ?_
            have hPc := hP.sub (ws' := (wX4 cI cS a0 a1 a2 a3 a4 a5 a6 a7 a8 a9 a10 a11 a12 a13 a14 a15 a16 a17 a18 a19 a20 a21 a22 ppl psp psy psh tpl tsp tsy tsh kpl ksp ksy ksh bs bt sz nm fd ik psc pnc pdy pzz tsc tnc tdy tzz ksc knc kdy kzz ln so be en va)) [0, 1, 2, 3, 4, 5, 6, 7, 8, 9, 10, 11, 12, 13, 14, 15, 16, 17, 18, 19, 20, 21, 22] rfl
            refine kMi (wf' := (wX4 cI cS a0 a1 a2 a3 a4 a5 a6 a7 a8 a9 a10 a11 a12 a13 a14 a15 a16 a17 a18 a19 a20 a21 a22 ppl psp psy psh tpl tsp tsy tsh kpl ksp ksy ksh bs bt sz nm (fX4_finding_o1 fd (-1000007)) ik psc pnc pdy pzz tsc tnc tdy tzz ksc knc kdy kzz ln so be en va)) [0, 1, 2, 3, 4, 5, 6, 7, 8, 9, 10, 11, 12, 13, 14, 15, 16, 17, 18, 19, 20, 21, 22] [some 0, some 1, some 2, some 3, some 4, some 5, some 6, some 7, some 8, some 9, some 10, some 11, some 12, some 13, some 14, some 15, some 16, some 17, some 18, some 19, some 20, some 21, some 22] (rV C0 (tX4_finding l D cI cS a0 a1 a2 a3 a4 a5 a6 a7 a8 a9 a10 a11 a12 a13 a14 a15 a16 a17 a18 a19 a20 a21 a22 ppl psp psy psh tpl tsp tsy tsh kpl ksp ksy ksh bs bt sz nm fd ik psc pnc pdy pzz tsc tnc tdy tzz ksc knc kdy kzz ln so be en va (-1000007) (-1000007) (fX4_finding_o1 fd (-1000007)) (eeX4_finding ..) (((hD (wX4 cI cS a0 a1 a2 a3 a4 a5 a6 a7 a8 a9 a10 a11 a12 a13 a14 a15 a16 a17 a18 a19 a20 a21 a22 ppl psp psy psh tpl tsp tsy tsh kpl ksp ksy ksh bs bt sz nm fd ik psc pnc pdy pzz tsc tnc tdy tzz ksc knc kdy kzz ln so be en va) rfl).sub [0, 1, 2, 3, 4, 5, 6, 7, 8, 9, 10, 11, 12, 13, 14, 15, 16, 17, 18, 19, 20, 21, 22] (by decide) rfl).weaken (fun _ _ _ _ => trivial))) RX4 gX4_sheet_X4_finding rfl ⟨rfl, rfl⟩ pdX4_finding rfl ⟨Nat.le_of_ble_eq_true rfl, Nat.le_of_ble_eq_true rfl⟩ (fun _ _ _ _ q => q) (va_recv hE.1 hPc (ci := 3) (q0 := 0) rfl rfl) (fun U hU _ _ => by rw [hU]; exact hPc) hl.1 rfl (Nat.le_of_ble_eq_true rfl) dX4_sheet_43 ⟨Nat.zero_le _, Nat.zero_le _⟩) hP (hD _ rfl) hS rfl rfl rfl (fun H locs hP hS => ?_)
            obtain ⟨q0, g0⟩ := Prod.mk.inj (Option.some.inj h)
            obtain ⟨q1, g1⟩ := Prod.mk.inj g0
            obtain ⟨q2, g2⟩ := Prod.mk.inj g1
            obtain ⟨q3, q4⟩ := Prod.mk.inj g2
            subst q0 q1 q2 q3 q4
            exact eMi C0 hP hS rfl rfl dX4_sheet_46
        · have h := ifn c_12 h
          refine lv_iload_n hx hb dX4_sheet_23 rfl (lv_at hl 2 rfl) ?_
          refine lv_bipush (v := 32) hx hb dX4_sheet_24 (by decide) ?_
          refine lv_icmp_eq (tgt := 36) hx hb dX4_sheet_26 (by decide) (fun c_17 => ?_) (fun c_17 => ?_)
          · have h := ifp c_17 h
            refine lv_iload_n hx hb dX4_sheet_36 rfl (lv_at hl 3 rfl) ?_
            refine lv_if_ge (tgt := 47) hx hb dX4_sheet_37 (by decide) (fun c_18 => ?_) (fun c_18 => ?_)
            · have h := ifp c_18 h
              refine lv_iload_n hx hb dX4_sheet_47 rfl (lv_at hl 3 rfl) ?_
              refine lv_bipush (v := 40) hx hb dX4_sheet_48 (by decide) ?_
              refine lv_icmp_le (tgt := 60) hx hb dX4_sheet_50 (by decide) (fun c_19 => ?_) (fun c_19 => ?_)
              · have h := ifp c_19 h
                refine lv_aload_n hx hb dX4_sheet_60 rfl (lv_at hl 0 rfl) ?_
                refine va_get (D := D) (ci := 3) (v := .ref a18) (C := RX4) (T := TX4) (N := 7) hx hb hts hinX4 hown hE.1 hP 0 rfl rfl 5 (by decide) (hts _ (List.mem_of_getElem? (i := 3) rfl)) (fun _ h9 => h9) rfl dX4_sheet_61 ?_
                refine lv_iload_n hx hb dX4_sheet_64 rfl (lv_at hl 1 rfl) ?_
                refine lv_iload_n hx hb dX4_sheet_65 rfl (lv_at hl 2 rfl) ?_
                refine lv_iload_n hx hb dX4_sheet_66 rfl (lv_at hl 3 rfl) ?_
                obtain ⟨z_20, e_21, h⟩ := bds h
                have hPc := hP.sub (ws' := (wX2 cI cS a18 a19 a20 a21 bt sz nm)) [18, 19, 20, 21] rfl
                refine kMi (wf' := (wX4 cI cS a0 a1 a2 a3 a4 a5 a6 a7 a8 a9 a10 a11 a12 a13 a14 a15 a16 a17 a18 a19 a20 a21 a22 ppl psp psy psh tpl tsp tsy tsh kpl ksp ksy ksh bs z_20.2.1 z_20.2.2.1 z_20.2.2.2 fd ik psc pnc pdy pzz tsc tnc tdy tzz ksc knc kdy kzz ln so be en va)) [18, 19, 20, 21] [none, none, none, none, none, none, none, none, none, none, none, none, none, none, none, none, none, none, some 0, some 1, some 2, some 3, none] (rV C0 (tX2_lay l D cI cS F a18 a19 a20 a21 bt sz nm v1 v2 v3 z_20.1 z_20.2.1 z_20.2.2.1 z_20.2.2.2 e_21 (((hD (wX4 cI cS a0 a1 a2 a3 a4 a5 a6 a7 a8 a9 a10 a11 a12 a13 a14 a15 a16 a17 a18 a19 a20 a21 a22 ppl psp psy psh tpl tsp tsy tsh kpl ksp ksy ksh bs bt sz nm fd ik psc pnc pdy pzz tsc tnc tdy tzz ksc knc kdy kzz ln so be en va) rfl).sub [18, 19, 20, 21] (by decide) rfl).weaken (fun _ _ _ _ => trivial))) RX2 gX4_sheet_X2_lay rfl ⟨rfl, rfl⟩ pdX2_lay rfl ⟨Nat.le_of_ble_eq_true rfl, Nat.le_of_ble_eq_true rfl⟩ (fun _ _ _ _ q => q) (va_recv hE.1 hPc (ci := 1) (q0 := 0) rfl rfl) (fun U hU _ _ => by rw [hU]; exact hPc) hl.1 rfl (Nat.le_of_ble_eq_true rfl) dX4_sheet_67 ⟨Nat.zero_le _, Nat.zero_le _⟩) hP (hD _ rfl) hS rfl rfl rfl (fun H locs hP hS => ?_)
                obtain ⟨q0, g0⟩ := Prod.mk.inj (Option.some.inj h)
                obtain ⟨q1, g1⟩ := Prod.mk.inj g0
                obtain ⟨q2, g2⟩ := Prod.mk.inj g1
                obtain ⟨q3, q4⟩ := Prod.mk.inj g2
                subst q0 q1 q2 q3 q4
                exact eMi C0 hP hS rfl rfl dX4_sheet_70
              · have h := ifn c_19 h
                refine lv_aload_n hx hb dX4_sheet_53 rfl (lv_at hl 0 rfl) ?_
                refine lv_ldc (v := (-1000001)) hx hb hown (hts _ (List.mem_of_getElem? (i := 1) rfl)) dX4_sheet_54 ?_
                have hPc := hP.sub (ws' := (wX4 cI cS a0 a1 a2 a3 a4 a5 a6 a7 a8 a9 a10 a11 a12 a13 a14 a15 a16 a17 a18 a19 a20 a21 a22 ppl psp psy psh tpl tsp tsy tsh kpl ksp ksy ksh bs bt sz nm fd ik psc pnc pdy pzz tsc tnc tdy tzz ksc knc kdy kzz ln so be en va)) [0, 1, 2, 3, 4, 5, 6, 7, 8, 9, 10, 11, 12, 13, 14, 15, 16, 17, 18, 19, 20, 21, 22] rfl
                refine kMi (wf' := (wX4 cI cS a0 a1 a2 a3 a4 a5 a6 a7 a8 a9 a10 a11 a12 a13 a14 a15 a16 a17 a18 a19 a20 a21 a22 ppl psp psy psh tpl tsp tsy tsh kpl ksp ksy ksh bs bt sz nm (fX4_finding_o1 fd (-1000001)) ik psc pnc pdy pzz tsc tnc tdy tzz ksc knc kdy kzz ln so be en va)) [0, 1, 2, 3, 4, 5, 6, 7, 8, 9, 10, 11, 12, 13, 14, 15, 16, 17, 18, 19, 20, 21, 22] [some 0, some 1, some 2, some 3, some 4, some 5, some 6, some 7, some 8, some 9, some 10, some 11, some 12, some 13, some 14, some 15, some 16, some 17, some 18, some 19, some 20, some 21, some 22] (rV C0 (tX4_finding l D cI cS a0 a1 a2 a3 a4 a5 a6 a7 a8 a9 a10 a11 a12 a13 a14 a15 a16 a17 a18 a19 a20 a21 a22 ppl psp psy psh tpl tsp tsy tsh kpl ksp ksy ksh bs bt sz nm fd ik psc pnc pdy pzz tsc tnc tdy tzz ksc knc kdy kzz ln so be en va (-1000001) (-1000001) (fX4_finding_o1 fd (-1000001)) (eeX4_finding ..) (((hD (wX4 cI cS a0 a1 a2 a3 a4 a5 a6 a7 a8 a9 a10 a11 a12 a13 a14 a15 a16 a17 a18 a19 a20 a21 a22 ppl psp psy psh tpl tsp tsy tsh kpl ksp ksy ksh bs bt sz nm fd ik psc pnc pdy pzz tsc tnc tdy tzz ksc knc kdy kzz ln so be en va) rfl).sub [0, 1, 2, 3, 4, 5, 6, 7, 8, 9, 10, 11, 12, 13, 14, 15, 16, 17, 18, 19, 20, 21, 22] (by decide) rfl).weaken (fun _ _ _ _ => trivial))) RX4 gX4_sheet_X4_finding rfl ⟨rfl, rfl⟩ pdX4_finding rfl ⟨Nat.le_of_ble_eq_true rfl, Nat.le_of_ble_eq_true rfl⟩ (fun _ _ _ _ q => q) (va_recv hE.1 hPc (ci := 3) (q0 := 0) rfl rfl) (fun U hU _ _ => by rw [hU]; exact hPc) hl.1 rfl (Nat.le_of_ble_eq_true rfl) dX4_sheet_56 ⟨Nat.zero_le _, Nat.zero_le _⟩) hP (hD _ rfl) hS rfl rfl rfl (fun H locs hP hS => ?_)
                obtain ⟨q0, g0⟩ := Prod.mk.inj (Option.some.inj h)
                obtain ⟨q1, g1⟩ := Prod.mk.inj g0
                obtain ⟨q2, g2⟩ := Prod.mk.inj g1
                obtain ⟨q3, q4⟩ := Prod.mk.inj g2
                subst q0 q1 q2 q3 q4
                exact eMi C0 hP hS rfl rfl dX4_sheet_59
            · have h := ifn c_18 h
              refine lv_aload_n hx hb dX4_sheet_40 rfl (lv_at hl 0 rfl) ?_
              refine lv_ldc (v := (-1000007)) hx hb hown (hts _ (List.mem_of_getElem? (i := 2) rfl)) dX4_sheet_41 ?_
              have hPc := hP.sub (ws' := (wX4 cI cS a0 a1 a2 a3 a4 a5 a6 a7 a8 a9 a10 a11 a12 a13 a14 a15 a16 a17 a18 a19 a20 a21 a22 ppl psp psy psh tpl tsp tsy tsh kpl ksp ksy ksh bs bt sz nm fd ik psc pnc pdy pzz tsc tnc tdy tzz ksc knc kdy kzz ln so be en va)) [0, 1, 2, 3, 4, 5, 6, 7, 8, 9, 10, 11, 12, 13, 14, 15, 16, 17, 18, 19, 20, 21, 22] rfl
              refine kMi (wf' := (wX4 cI cS a0 a1 a2 a3 a4 a5 a6 a7 a8 a9 a10 a11 a12 a13 a14 a15 a16 a17 a18 a19 a20 a21 a22 ppl psp psy psh tpl tsp tsy tsh kpl ksp ksy ksh bs bt sz nm (fX4_finding_o1 fd (-1000007)) ik psc pnc pdy pzz tsc tnc tdy tzz ksc knc kdy kzz ln so be en va)) [0, 1, 2, 3, 4, 5, 6, 7, 8, 9, 10, 11, 12, 13, 14, 15, 16, 17, 18, 19, 20, 21, 22] [some 0, some 1, some 2, some 3, some 4, some 5, some 6, some 7, some 8, some 9, some 10, some 11, some 12, some 13, some 14, some 15, some 16, some 17, some 18, some 19, some 20, some 21, some 22] (rV C0 (tX4_finding l D cI cS a0 a1 a2 a3 a4 a5 a6 a7 a8 a9 a10 a11 a12 a13 a14 a15 a16 a17 a18 a19 a20 a21 a22 ppl psp psy psh tpl tsp tsy tsh kpl ksp ksy ksh bs bt sz nm fd ik psc pnc pdy pzz tsc tnc tdy tzz ksc knc kdy kzz ln so be en va (-1000007) (-1000007) (fX4_finding_o1 fd (-1000007)) (eeX4_finding ..) (((hD (wX4 cI cS a0 a1 a2 a3 a4 a5 a6 a7 a8 a9 a10 a11 a12 a13 a14 a15 a16 a17 a18 a19 a20 a21 a22 ppl psp psy psh tpl tsp tsy tsh kpl ksp ksy ksh bs bt sz nm fd ik psc pnc pdy pzz tsc tnc tdy tzz ksc knc kdy kzz ln so be en va) rfl).sub [0, 1, 2, 3, 4, 5, 6, 7, 8, 9, 10, 11, 12, 13, 14, 15, 16, 17, 18, 19, 20, 21, 22] (by decide) rfl).weaken (fun _ _ _ _ => trivial))) RX4 gX4_sheet_X4_finding rfl ⟨rfl, rfl⟩ pdX4_finding rfl ⟨Nat.le_of_ble_eq_true rfl, Nat.le_of_ble_eq_true rfl⟩ (fun _ _ _ _ q => q) (va_recv hE.1 hPc (ci := 3) (q0 := 0) rfl rfl) (fun U hU _ _ => by rw [hU]; exact hPc) hl.1 rfl (Nat.le_of_ble_eq_true rfl) dX4_sheet_43 ⟨Nat.zero_le _, Nat.zero_le _⟩) hP (hD _ rfl) hS rfl rfl rfl (fun H locs hP hS => ?_)
              obtain ⟨q0, g0⟩ := Prod.mk.inj (Option.some.inj h)
              obtain ⟨q1, g1⟩ := Prod.mk.inj g0
              obtain ⟨q2, g2⟩ := Prod.mk.inj g1
              obtain ⟨q3, q4⟩ := Prod.mk.inj g2
              subst q0 q1 q2 q3 q4
              exact eMi C0 hP hS rfl rfl dX4_sheet_46
          · have h := ifn c_17 h
            refine lv_aload_n hx hb dX4_sheet_29 rfl (lv_at hl 0 rfl) ?_
            refine lv_ldc (v := (-1000001)) hx hb hown (hts _ (List.mem_of_getElem? (i := 1) rfl)) dX4_sheet_30 ?_
            have hPc := hP.sub (ws' := (wX4 cI cS a0 a1 a2 a3 a4 a5 a6 a7 a8 a9 a10 a11 a12 a13 a14 a15 a16 a17 a18 a19 a20 a21 a22 ppl psp psy psh tpl tsp tsy tsh kpl ksp ksy ksh bs bt sz nm fd ik psc pnc pdy pzz tsc tnc tdy tzz ksc knc kdy kzz ln so be en va)) [0, 1, 2, 3, 4, 5, 6, 7, 8, 9, 10, 11, 12, 13, 14, 15, 16, 17, 18, 19, 20, 21, 22] rfl
            refine kMi (wf' := (wX4 cI cS a0 a1 a2 a3 a4 a5 a6 a7 a8 a9 a10 a11 a12 a13 a14 a15 a16 a17 a18 a19 a20 a21 a22 ppl psp psy psh tpl tsp tsy tsh kpl ksp ksy ksh bs bt sz nm (fX4_finding_o1 fd (-1000001)) ik psc pnc pdy pzz tsc tnc tdy tzz ksc knc kdy kzz ln so be en va)) [0, 1, 2, 3, 4, 5, 6, 7, 8, 9, 10, 11, 12, 13, 14, 15, 16, 17, 18, 19, 20, 21, 22] [some 0, some 1, some 2, some 3, some 4, some 5, some 6, some 7, some 8, some 9, some 10, some 11, some 12, some 13, some 14, some 15, some 16, some 17, some 18, some 19, some 20, some 21, some 22] (rV C0 (tX4_finding l D cI cS a0 a1 a2 a3 a4 a5 a6 a7 a8 a9 a10 a11 a12 a13 a14 a15 a16 a17 a18 a19 a20 a21 a22 ppl psp psy psh tpl tsp tsy tsh kpl ksp ksy ksh bs bt sz nm fd ik psc pnc pdy pzz tsc tnc tdy tzz ksc knc kdy kzz ln so be en va (-1000001) (-1000001) (fX4_finding_o1 fd (-1000001)) (eeX4_finding ..) (((hD (wX4 cI cS a0 a1 a2 a3 a4 a5 a6 a7 a8 a9 a10 a11 a12 a13 a14 a15 a16 a17 a18 a19 a20 a21 a22 ppl psp psy psh tpl tsp tsy tsh kpl ksp ksy ksh bs bt sz nm fd ik psc pnc pdy pzz tsc tnc tdy tzz ksc knc kdy kzz ln so be en va) rfl).sub [0, 1, 2, 3, 4, 5, 6, 7, 8, 9, 10, 11, 12, 13, 14, 15, 16, 17, 18, 19, 20, 21, 22] (by decide) rfl).weaken (fun _ _ _ _ => trivial))) RX4 gX4_sheet_X4_finding rfl ⟨rfl, rfl⟩ pdX4_finding rfl ⟨Nat.le_of_ble_eq_true rfl, Nat.le_of_ble_eq_true rfl⟩ (fun _ _ _ _ q => q) (va_recv hE.1 hPc (ci := 3) (q0 := 0) rfl rfl) (fun U hU _ _ => by rw [hU]; exact hPc) hl.1 rfl (Nat.le_of_ble_eq_true rfl) dX4_sheet_32 ⟨Nat.zero_le _, Nat.zero_le _⟩) hP (hD _ rfl) hS rfl rfl rfl (fun H locs hP hS => ?_)
            obtain ⟨q0, g0⟩ := Prod.mk.inj (Option.some.inj h)
            obtain ⟨q1, g1⟩ := Prod.mk.inj g0
            obtain ⟨q2, g2⟩ := Prod.mk.inj g1
            obtain ⟨q3, q4⟩ := Prod.mk.inj g2
            subst q0 q1 q2 q3 q4
            exact eMi C0 hP hS rfl rfl dX4_sheet_35
def fX4_write (bt : Nat → Int32) (sz : Nat → Int32) (nm : Nat → Int32) (fd : Nat → Int32) (v1 : Int32) (v2 : Int32) (v3 : Int32) : Int32 × (Nat → Int32) × (Nat → Int32) := (if (fX4_faultOfSheet bt v1) = 0 then (if (fX4_within v2 0 ((fX2_sizeOf sz v1) - 1)) = 0 then ((-1000001), nm, fX4_finding_o1 fd (-1000001)) else (1, (fX2_put bt nm v1 v2 v3), fd)) else ((fX4_faultOfSheet bt v1), nm, fX4_finding_o1 fd (fX4_faultOfSheet bt v1)))
def fX4_write_o0 (bt : Nat → Int32) (sz : Nat → Int32) (nm : Nat → Int32) (fd : Nat → Int32) (v1 : Int32) (v2 : Int32) (v3 : Int32) : Int32 := (fX4_write bt sz nm fd v1 v2 v3).1
def fX4_write_o1 (bt : Nat → Int32) (sz : Nat → Int32) (nm : Nat → Int32) (fd : Nat → Int32) (v1 : Int32) (v2 : Int32) (v3 : Int32) : Nat → Int32 := (fX4_write bt sz nm fd v1 v2 v3).2.1
def fX4_write_o2 (bt : Nat → Int32) (sz : Nat → Int32) (nm : Nat → Int32) (fd : Nat → Int32) (v1 : Int32) (v2 : Int32) (v3 : Int32) : Nat → Int32 := (fX4_write bt sz nm fd v1 v2 v3).2.2
theorem eeX4_write (bt : Nat → Int32) (sz : Nat → Int32) (nm : Nat → Int32) (fd : Nat → Int32) (v1 : Int32) (v2 : Int32) (v3 : Int32) : fX4_write bt sz nm fd v1 v2 v3 = (fX4_write_o0 bt sz nm fd v1 v2 v3, fX4_write_o1 bt sz nm fd v1 v2 v3, fX4_write_o2 bt sz nm fd v1 v2 v3) := rfl
abbrev rmX4_write : Room := { frames := 4, cells := 0, slots := 0, locals := 84 }
theorem pdX4_write : (yX4_write.cls = RX4 ∧ yX4_write.cls ≠ "java/lang/invoke/MethodHandle" ∧ yX4_write.cls ≠ "java/lang/invoke/VarHandle" ∧ (parseMethodDescriptor yX4_write.desc).map (fun d => d.parameters.length) = some 3) := by decide +kernel
set_option maxHeartbeats 4000000 in
set_option maxRecDepth 100000 in
theorem tX4_write (l : Launch) (D : va_G) (cI cS : ClassId) (a0 a1 a2 a3 a4 a5 a6 a7 a8 a9 a10 a11 a12 a13 a14 a15 a16 a17 a18 a19 a20 a21 a22 : Nat) (ppl : Nat → Int32) (psp : Nat → Int32) (psy : Nat → Int32) (psh : Nat → Int32) (tpl : Nat → Int32) (tsp : Nat → Int32) (tsy : Nat → Int32) (tsh : Nat → Int32) (kpl : Nat → Int32) (ksp : Nat → Int32) (ksy : Nat → Int32) (ksh : Nat → Int32) (bs : Nat → Int32) (bt : Nat → Int32) (sz : Nat → Int32) (nm : Nat → Int32) (fd : Nat → Int32) (ik : Int32) (psc : Int32) (pnc : Int32) (pdy : Int32) (pzz : Int32) (tsc : Int32) (tnc : Int32) (tdy : Int32) (tzz : Int32) (ksc : Int32) (knc : Int32) (kdy : Int32) (kzz : Int32) (ln : Int32) (so : Int32) (be : Int32) (en : Int32) (va : Int32) (v1 : Int32) (v2 : Int32) (v3 : Int32) (z0 : Int32) (z1 : Nat → Int32) (z2 : Nat → Int32) (h : fX4_write bt sz nm fd v1 v2 v3 = (z0, z1, z2)) (hD0 : va_D (fun _ => True) (wX4 cI cS a0 a1 a2 a3 a4 a5 a6 a7 a8 a9 a10 a11 a12 a13 a14 a15 a16 a17 a18 a19 a20 a21 a22 ppl psp psy psh tpl tsp tsy tsh kpl ksp ksy ksh bs bt sz nm fd ik psc pnc pdy pzz tsc tnc tdy tzz ksc knc kdy kzz ln so be en va)) : Met l yX4_write wsX4_write rmX4_write (PZ D cI cS [.ref a0, .int v1, .int v2, .int v3] (fun U => va_P D vwCl (wX4 cI cS a0 a1 a2 a3 a4 a5 a6 a7 a8 a9 a10 a11 a12 a13 a14 a15 a16 a17 a18 a19 a20 a21 a22 ppl psp psy psh tpl tsp tsy tsh kpl ksp ksy ksh bs bt sz nm fd ik psc pnc pdy pzz tsc tnc tdy tzz ksc knc kdy kzz ln so be en va) U.heap)) (qI D (wX4 cI cS a0 a1 a2 a3 a4 a5 a6 a7 a8 a9 a10 a11 a12 a13 a14 a15 a16 a17 a18 a19 a20 a21 a22 ppl psp psy psh tpl tsp tsy tsh kpl ksp ksy ksh bs bt sz nm fd ik psc pnc pdy pzz tsc tnc tdy tzz ksc knc kdy kzz ln so be en va) (wX4 cI cS a0 a1 a2 a3 a4 a5 a6 a7 a8 a9 a10 a11 a12 a13 a14 a15 a16 a17 a18 a19 a20 a21 a22 ppl psp psy psh tpl tsp tsy tsh kpl ksp ksy ksh bs bt sz z1 z2 ik psc pnc pdy pzz tsc tnc tdy tzz ksc knc kdy kzz ln so be en va) z0) 0 0 (wA (wX4 cI cS a0 a1 a2 a3 a4 a5 a6 a7 a8 a9 a10 a11 a12 a13 a14 a15 a16 a17 a18 a19 a20 a21 a22 ppl psp psy psh tpl tsp tsy tsh kpl ksp ksy ksh bs bt sz nm fd ik psc pnc pdy pzz tsc tnc tdy tzz ksc knc kdy kzz ln so be en va)) := by
  refine Met.mk RX4 (by decide) rfl rfl (Nat.le_of_ble_eq_true rfl) ?_
  intro p e s m below meth c ls C0 hP hl
  have hl : lv_has ls 5 [(0, .ref a0), (1, .int v1), (2, .int v2), (3, .int v3)] := hl
  obtain ⟨hx, hb, hr, hml, hown, hts, hlk, hE⟩ := id C0
  have hinX4 : ∀ w ∈ u_ws RX4 TX4 7, w ∈ wsX4_write := by decide +kernel
  have hD : ∀ W : va_W, W.map Prod.fst = [a0, a1, a2, a3, a4, a5, a6, a7, a8, a9, a10, a11, a12, a13, a14, a15, a16, a17, a18, a19, a20, a21, a22] → va_D (wA (wX4 cI cS a0 a1 a2 a3 a4 a5 a6 a7 a8 a9 a10 a11 a12 a13 a14 a15 a16 a17 a18 a19 a20 a21 a22 ppl psp psy psh tpl tsp tsy tsh kpl ksp ksy ksh bs bt sz nm fd ik psc pnc pdy pzz tsc tnc tdy tzz ksc knc kdy kzz ln so be en va)) W := fun W hW => hD0.own.re hW
  have hS : va_S (wA (wX4 cI cS a0 a1 a2 a3 a4 a5 a6 a7 a8 a9 a10 a11 a12 a13 a14 a15 a16 a17 a18 a19 a20 a21 a22 ppl psp psy psh tpl tsp tsy tsh kpl ksp ksy ksh bs bt sz nm fd ik psc pnc pdy pzz tsc tnc tdy tzz ksc knc kdy kzz ln so be en va)) s.heap s.heap [] := va_S.rf
  have hP : va_P D vwCl (wX4 cI cS a0 a1 a2 a3 a4 a5 a6 a7 a8 a9 a10 a11 a12 a13 a14 a15 a16 a17 a18 a19 a20 a21 a22 ppl psp psy psh tpl tsp tsy tsh kpl ksp ksy ksh bs bt sz nm fd ik psc pnc pdy pzz tsc tnc tdy tzz ksc knc kdy kzz ln so be en va) s.heap := hP
  rw [fX4_write] at h
  refine lv_aload_n hx hb dX4_write_0 rfl (lv_at hl 0 rfl) ?_
  refine lv_iload_n hx hb dX4_write_1 rfl (lv_at hl 1 rfl) ?_
  have hPc := hP.sub (ws' := (wX4 cI cS a0 a1 a2 a3 a4 a5 a6 a7 a8 a9 a10 a11 a12 a13 a14 a15 a16 a17 a18 a19 a20 a21 a22 ppl psp psy psh tpl tsp tsy tsh kpl ksp ksy ksh bs bt sz nm fd ik psc pnc pdy pzz tsc tnc tdy tzz ksc knc kdy kzz ln so be en va)) [0, 1, 2, 3, 4, 5, 6, 7, 8, 9, 10, 11, 12, 13, 14, 15, 16, 17, 18, 19, 20, 21, 22] rfl
  refine kRi (rV C0 (tX4_faultOfSheet l D cI cS a0 a1 a2 a3 a4 a5 a6 a7 a8 a9 a10 a11 a12 a13 a14 a15 a16 a17 a18 a19 a20 a21 a22 ppl psp psy psh tpl tsp tsy tsh kpl ksp ksy ksh bs bt sz nm fd ik psc pnc pdy pzz tsc tnc tdy tzz ksc knc kdy kzz ln so be en va v1 (fX4_faultOfSheet bt v1) rfl) RX4 gX4_write_X4_faultOfSheet rfl ⟨rfl, rfl⟩ pdX4_faultOfSheet rfl ⟨Nat.le_of_ble_eq_true rfl, Nat.le_of_ble_eq_true rfl⟩ (fun _ _ _ _ q => q) (va_recv hE.1 hPc (ci := 3) (q0 := 0) rfl rfl) (fun U hU _ _ => by rw [hU]; exact hPc) hl.1 rfl (Nat.le_of_ble_eq_true rfl) dX4_write_2 ⟨Nat.zero_le _, Nat.zero_le _⟩) ?_
  refine lv_istore (lv' := [(4, .int (fX4_faultOfSheet bt v1)), (0, .ref a0), (1, .int v1), (2, .int v2), (3, .int v3)]) hx hb dX4_write_5 hl (by decide) rfl (fun ls hl => ?_)
  refine lv_iload hx hb dX4_write_7 (lv_at hl 0 rfl) ?_
  refine lv_if_eq (tgt := 19) hx hb dX4_write_9 (by decide) (fun c_1 => ?_) (fun c_1 => ?_)
  · have h := ifp c_1 h
    refine lv_iload_n hx hb dX4_write_19 rfl (lv_at hl 3 rfl) ?_
    refine lv_iconst (v := 0) hx hb dX4_write_20 (by decide) ?_
    refine lv_aload_n hx hb dX4_write_21 rfl (lv_at hl 1 rfl) ?_
    refine va_get (D := D) (ci := 3) (v := .ref a18) (C := RX4) (T := TX4) (N := 7) hx hb hts hinX4 hown hE.1 hP 0 rfl rfl 5 (by decide) (hts _ (List.mem_of_getElem? (i := 1) rfl)) (fun _ h9 => h9) rfl dX4_write_22 ?_
    refine lv_iload_n hx hb dX4_write_25 rfl (lv_at hl 2 rfl) ?_
    have hPc := hP.sub (ws' := (wX2 cI cS a18 a19 a20 a21 bt sz nm)) [18, 19, 20, 21] rfl
    refine kRi (rV C0 (tX2_sizeOf l D cI cS a18 a19 a20 a21 bt sz nm v1 (fX2_sizeOf sz v1) rfl) RX2 gX4_write_X2_sizeOf rfl ⟨rfl, rfl⟩ pdX2_sizeOf rfl ⟨Nat.le_of_ble_eq_true rfl, Nat.le_of_ble_eq_true rfl⟩ (fun _ _ _ _ q => q) (va_recv hE.1 hPc (ci := 1) (q0 := 0) rfl rfl) (fun U hU _ _ => by rw [hU]; exact hPc) hl.1 rfl (Nat.le_of_ble_eq_true rfl) dX4_write_26 ⟨Nat.zero_le _, Nat.zero_le _⟩) ?_
    refine lv_iconst (v := 1) hx hb dX4_write_29 (by decide) ?_
    refine lv_isub hx hb dX4_write_30 ?_
    refine kRi (rS C0 (tX4_within l D cI cS v2 0 ((fX2_sizeOf sz v1) - 1) (fX4_within v2 0 ((fX2_sizeOf sz v1) - 1)) rfl) gX4_write_X4_within rfl ⟨rfl, rfl⟩ pdX4_within rfl ⟨Nat.le_of_ble_eq_true rfl, Nat.le_of_ble_eq_true rfl⟩ (fun _ _ _ _ q => q) (fun _ _ _ _ => vp0) hl.1 rfl (Nat.le_of_ble_eq_true rfl) dX4_write_31 ⟨Nat.zero_le _, Nat.zero_le _⟩) ?_
    refine lv_if_ne (tgt := 44) hx hb dX4_write_34 (by decide) (fun c_2 => ?_) (fun c_2 => ?_)
    · have h := ifn c_2 h
      refine lv_aload_n hx hb dX4_write_44 rfl (lv_at hl 1 rfl) ?_
      refine va_get (D := D) (ci := 3) (v := .ref a18) (C := RX4) (T := TX4) (N := 7) hx hb hts hinX4 hown hE.1 hP 0 rfl rfl 5 (by decide) (hts _ (List.mem_of_getElem? (i := 1) rfl)) (fun _ h9 => h9) rfl dX4_write_45 ?_
      refine lv_iload_n hx hb dX4_write_48 rfl (lv_at hl 2 rfl) ?_
      refine lv_iload_n hx hb dX4_write_49 rfl (lv_at hl 3 rfl) ?_
      refine lv_iload_n hx hb dX4_write_50 rfl (lv_at hl 4 rfl) ?_
      have hPc := hP.sub (ws' := (wX2 cI cS a18 a19 a20 a21 bt sz nm)) [18, 19, 20, 21] rfl
      refine kMv (wf' := (wX4 cI cS a0 a1 a2 a3 a4 a5 a6 a7 a8 a9 a10 a11 a12 a13 a14 a15 a16 a17 a18 a19 a20 a21 a22 ppl psp psy psh tpl tsp tsy tsh kpl ksp ksy ksh bs bt sz (fX2_put bt nm v1 v2 v3) fd ik psc pnc pdy pzz tsc tnc tdy tzz ksc knc kdy kzz ln so be en va)) [18, 19, 20, 21] [none, none, none, none, none, none, none, none, none, none, none, none, none, none, none, none, none, none, some 0, some 1, some 2, some 3, none] (rV C0 (tX2_put l D cI cS a18 a19 a20 a21 bt sz nm v1 v2 v3 (fX2_put bt nm v1 v2 v3) rfl (((hD (wX4 cI cS a0 a1 a2 a3 a4 a5 a6 a7 a8 a9 a10 a11 a12 a13 a14 a15 a16 a17 a18 a19 a20 a21 a22 ppl psp psy psh tpl tsp tsy tsh kpl ksp ksy ksh bs bt sz nm fd ik psc pnc pdy pzz tsc tnc tdy tzz ksc knc kdy kzz ln so be en va) rfl).sub [18, 19, 20, 21] (by decide) rfl).weaken (fun _ _ _ _ => trivial))) RX2 gX4_write_X2_put rfl ⟨rfl, rfl⟩ pdX2_put rfl ⟨Nat.le_of_ble_eq_true rfl, Nat.le_of_ble_eq_true rfl⟩ (fun _ _ _ _ q => q) (va_recv hE.1 hPc (ci := 1) (q0 := 0) rfl rfl) (fun U hU _ _ => by rw [hU]; exact hPc) hl.1 rfl (Nat.le_of_ble_eq_true rfl) dX4_write_51 ⟨Nat.zero_le _, Nat.zero_le _⟩) hP (hD _ rfl) hS rfl rfl rfl (fun H locs hP hS => ?_)
      refine lv_iconst (v := 1) hx hb dX4_write_54 (by decide) ?_
      obtain ⟨q0, g0⟩ := Prod.mk.inj (h)
      obtain ⟨q1, q2⟩ := Prod.mk.inj g0
      subst q0 q1 q2
      exact eMi C0 hP hS rfl rfl dX4_write_55
    · have h := ifp c_2 h
      refine lv_aload_n hx hb dX4_write_37 rfl (lv_at hl 1 rfl) ?_
      refine lv_ldc (v := (-1000001)) hx hb hown (hts _ (List.mem_of_getElem? (i := 2) rfl)) dX4_write_38 ?_
      have hPc := hP.sub (ws' := (wX4 cI cS a0 a1 a2 a3 a4 a5 a6 a7 a8 a9 a10 a11 a12 a13 a14 a15 a16 a17 a18 a19 a20 a21 a22 ppl psp psy psh tpl tsp tsy tsh kpl ksp ksy ksh bs bt sz nm fd ik psc pnc pdy pzz tsc tnc tdy tzz ksc knc kdy kzz ln so be en va)) [0, 1, 2, 3, 4, 5, 6, 7, 8, 9, 10, 11, 12, 13, 14, 15, 16, 17, 18, 19, 20, 21, 22] rfl
      refine kMi (wf' := (wX4 cI cS a0 a1 a2 a3 a4 a5 a6 a7 a8 a9 a10 a11 a12 a13 a14 a15 a16 a17 a18 a19 a20 a21 a22 ppl psp psy psh tpl tsp tsy tsh kpl ksp ksy ksh bs bt sz nm (fX4_finding_o1 fd (-1000001)) ik psc pnc pdy pzz tsc tnc tdy tzz ksc knc kdy kzz ln so be en va)) [0, 1, 2, 3, 4, 5, 6, 7, 8, 9, 10, 11, 12, 13, 14, 15, 16, 17, 18, 19, 20, 21, 22] [some 0, some 1, some 2, some 3, some 4, some 5, some 6, some 7, some 8, some 9, some 10, some 11, some 12, some 13, some 14, some 15, some 16, some 17, some 18, some 19, some 20, some 21, some 22] (rV C0 (tX4_finding l D cI cS a0 a1 a2 a3 a4 a5 a6 a7 a8 a9 a10 a11 a12 a13 a14 a15 a16 a17 a18 a19 a20 a21 a22 ppl psp psy psh tpl tsp tsy tsh kpl ksp ksy ksh bs bt sz nm fd ik psc pnc pdy pzz tsc tnc tdy tzz ksc knc kdy kzz ln so be en va (-1000001) (-1000001) (fX4_finding_o1 fd (-1000001)) (eeX4_finding ..) (((hD (wX4 cI cS a0 a1 a2 a3 a4 a5 a6 a7 a8 a9 a10 a11 a12 a13 a14 a15 a16 a17 a18 a19 a20 a21 a22 ppl psp psy psh tpl tsp tsy tsh kpl ksp ksy ksh bs bt sz nm fd ik psc pnc pdy pzz tsc tnc tdy tzz ksc knc kdy kzz ln so be en va) rfl).sub [0, 1, 2, 3, 4, 5, 6, 7, 8, 9, 10, 11, 12, 13, 14, 15, 16, 17, 18, 19, 20, 21, 22] (by decide) rfl).weaken (fun _ _ _ _ => trivial))) RX4 gX4_write_X4_finding rfl ⟨rfl, rfl⟩ pdX4_finding rfl ⟨Nat.le_of_ble_eq_true rfl, Nat.le_of_ble_eq_true rfl⟩ (fun _ _ _ _ q => q) (va_recv hE.1 hPc (ci := 3) (q0 := 0) rfl rfl) (fun U hU _ _ => by rw [hU]; exact hPc) hl.1 rfl (Nat.le_of_ble_eq_true rfl) dX4_write_40 ⟨Nat.zero_le _, Nat.zero_le _⟩) hP (hD _ rfl) hS rfl rfl rfl (fun H locs hP hS => ?_)
      obtain ⟨q0, g0⟩ := Prod.mk.inj (h)
      obtain ⟨q1, q2⟩ := Prod.mk.inj g0
      subst q0 q1 q2
      exact eMi C0 hP hS rfl rfl dX4_write_43
  · have h := ifn c_1 h
    refine lv_aload_n hx hb dX4_write_12 rfl (lv_at hl 1 rfl) ?_
    refine lv_iload hx hb dX4_write_13 (lv_at hl 0 rfl) ?_
    have hPc := hP.sub (ws' := (wX4 cI cS a0 a1 a2 a3 a4 a5 a6 a7 a8 a9 a10 a11 a12 a13 a14 a15 a16 a17 a18 a19 a20 a21 a22 ppl psp psy psh tpl tsp tsy tsh kpl ksp ksy ksh bs bt sz nm fd ik psc pnc pdy pzz tsc tnc tdy tzz ksc knc kdy kzz ln so be en va)) [0, 1, 2, 3, 4, 5, 6, 7, 8, 9, 10, 11, 12, 13, 14, 15, 16, 17, 18, 19, 20, 21, 22] rfl
    refine kMi (wf' := (wX4 cI cS a0 a1 a2 a3 a4 a5 a6 a7 a8 a9 a10 a11 a12 a13 a14 a15 a16 a17 a18 a19 a20 a21 a22 ppl psp psy psh tpl tsp tsy tsh kpl ksp ksy ksh bs bt sz nm (fX4_finding_o1 fd (fX4_faultOfSheet bt v1)) ik psc pnc pdy pzz tsc tnc tdy tzz ksc knc kdy kzz ln so be en va)) [0, 1, 2, 3, 4, 5, 6, 7, 8, 9, 10, 11, 12, 13, 14, 15, 16, 17, 18, 19, 20, 21, 22] [some 0, some 1, some 2, some 3, some 4, some 5, some 6, some 7, some 8, some 9, some 10, some 11, some 12, some 13, some 14, some 15, some 16, some 17, some 18, some 19, some 20, some 21, some 22] (rV C0 (tX4_finding l D cI cS a0 a1 a2 a3 a4 a5 a6 a7 a8 a9 a10 a11 a12 a13 a14 a15 a16 a17 a18 a19 a20 a21 a22 ppl psp psy psh tpl tsp tsy tsh kpl ksp ksy ksh bs bt sz nm fd ik psc pnc pdy pzz tsc tnc tdy tzz ksc knc kdy kzz ln so be en va (fX4_faultOfSheet bt v1) (fX4_faultOfSheet bt v1) (fX4_finding_o1 fd (fX4_faultOfSheet bt v1)) (eeX4_finding ..) (((hD (wX4 cI cS a0 a1 a2 a3 a4 a5 a6 a7 a8 a9 a10 a11 a12 a13 a14 a15 a16 a17 a18 a19 a20 a21 a22 ppl psp psy psh tpl tsp tsy tsh kpl ksp ksy ksh bs bt sz nm fd ik psc pnc pdy pzz tsc tnc tdy tzz ksc knc kdy kzz ln so be en va) rfl).sub [0, 1, 2, 3, 4, 5, 6, 7, 8, 9, 10, 11, 12, 13, 14, 15, 16, 17, 18, 19, 20, 21, 22] (by decide) rfl).weaken (fun _ _ _ _ => trivial))) RX4 gX4_write_X4_finding rfl ⟨rfl, rfl⟩ pdX4_finding rfl ⟨Nat.le_of_ble_eq_true rfl, Nat.le_of_ble_eq_true rfl⟩ (fun _ _ _ _ q => q) (va_recv hE.1 hPc (ci := 3) (q0 := 0) rfl rfl) (fun U hU _ _ => by rw [hU]; exact hPc) hl.1 rfl (Nat.le_of_ble_eq_true rfl) dX4_write_15 ⟨Nat.zero_le _, Nat.zero_le _⟩) hP (hD _ rfl) hS rfl rfl rfl (fun H locs hP hS => ?_)
    obtain ⟨q0, g0⟩ := Prod.mk.inj (h)
    obtain ⟨q1, q2⟩ := Prod.mk.inj g0
    subst q0 q1 q2
    exact eMi C0 hP hS rfl rfl dX4_write_18
def fX4_copy (bt : Nat → Int32) (sz : Nat → Int32) (nm : Nat → Int32) (fd : Nat → Int32) (v1 : Int32) (v2 : Int32) (v3 : Int32) (v4 : Int32) (v5 : Int32) : Option (Int32 × (Nat → Int32) × (Nat → Int32)) := (if (fX4_isSheet v1) = 0 then some ((-1000001), nm, fX4_finding_o1 fd (-1000001)) else (if (fX4_isSheet v3) = 0 then some ((-1000001), nm, fX4_finding_o1 fd (-1000001)) else (if (fX2_isMissing bt v1) = 0 then (if (fX2_isMissing bt v3) = 0 then (if (fX2_bitsOf bt v1) = (fX2_bitsOf bt v3) then (if (fX2_hasSoMany sz v1 v2 v5) = 0 then some ((-1000001), nm, fX4_finding_o1 fd (-1000001)) else (if (fX2_hasSoMany sz v3 v4 v5) = 0 then some ((-1000001), nm, fX4_finding_o1 fd (-1000001)) else Option.bind (fX2_carry sz nm v1 v2 v3 v4 v5) (fun z_8 => some (v5, z_8, fd)))) else some ((-1000003), nm, fX4_finding_o1 fd (-1000003))) else some ((-1000006), nm, fX4_finding_o1 fd (-1000006))) else some ((-1000006), nm, fX4_finding_o1 fd (-1000006)))))
abbrev rmX4_copy : Room := { frames := 4, cells := 0, slots := 0, locals := 90 }
theorem pdX4_copy : (yX4_copy.cls = RX4 ∧ yX4_copy.cls ≠ "java/lang/invoke/MethodHandle" ∧ yX4_copy.cls ≠ "java/lang/invoke/VarHandle" ∧ (parseMethodDescriptor yX4_copy.desc).map (fun d => d.parameters.length) = some 5) := by decide +kernel
set_option maxHeartbeats 4000000 in
set_option maxRecDepth 100000 in
theorem tX4_copy (l : Launch) (D : va_G) (cI cS : ClassId) (a0 a1 a2 a3 a4 a5 a6 a7 a8 a9 a10 a11 a12 a13 a14 a15 a16 a17 a18 a19 a20 a21 a22 : Nat) (ppl : Nat → Int32) (psp : Nat → Int32) (psy : Nat → Int32) (psh : Nat → Int32) (tpl : Nat → Int32) (tsp : Nat → Int32) (tsy : Nat → Int32) (tsh : Nat → Int32) (kpl : Nat → Int32) (ksp : Nat → Int32) (ksy : Nat → Int32) (ksh : Nat → Int32) (bs : Nat → Int32) (bt : Nat → Int32) (sz : Nat → Int32) (nm : Nat → Int32) (fd : Nat → Int32) (ik : Int32) (psc : Int32) (pnc : Int32) (pdy : Int32) (pzz : Int32) (tsc : Int32) (tnc : Int32) (tdy : Int32) (tzz : Int32) (ksc : Int32) (knc : Int32) (kdy : Int32) (kzz : Int32) (ln : Int32) (so : Int32) (be : Int32) (en : Int32) (va : Int32) (v1 : Int32) (v2 : Int32) (v3 : Int32) (v4 : Int32) (v5 : Int32) (z0 : Int32) (z1 : Nat → Int32) (z2 : Nat → Int32) (h : fX4_copy bt sz nm fd v1 v2 v3 v4 v5 = some (z0, z1, z2)) (hD0 : va_D (fun _ => True) (wX4 cI cS a0 a1 a2 a3 a4 a5 a6 a7 a8 a9 a10 a11 a12 a13 a14 a15 a16 a17 a18 a19 a20 a21 a22 ppl psp psy psh tpl tsp tsy tsh kpl ksp ksy ksh bs bt sz nm fd ik psc pnc pdy pzz tsc tnc tdy tzz ksc knc kdy kzz ln so be en va)) : Met l yX4_copy wsX4_copy rmX4_copy (PZ D cI cS [.ref a0, .int v1, .int v2, .int v3, .int v4, .int v5] (fun U => va_P D vwCl (wX4 cI cS a0 a1 a2 a3 a4 a5 a6 a7 a8 a9 a10 a11 a12 a13 a14 a15 a16 a17 a18 a19 a20 a21 a22 ppl psp psy psh tpl tsp tsy tsh kpl ksp ksy ksh bs bt sz nm fd ik psc pnc pdy pzz tsc tnc tdy tzz ksc knc kdy kzz ln so be en va) U.heap)) (qI D (wX4 cI cS a0 a1 a2 a3 a4 a5 a6 a7 a8 a9 a10 a11 a12 a13 a14 a15 a16 a17 a18 a19 a20 a21 a22 ppl psp psy psh tpl tsp tsy tsh kpl ksp ksy ksh bs bt sz nm fd ik psc pnc pdy pzz tsc tnc tdy tzz ksc knc kdy kzz ln so be en va) (wX4 cI cS a0 a1 a2 a3 a4 a5 a6 a7 a8 a9 a10 a11 a12 a13 a14 a15 a16 a17 a18 a19 a20 a21 a22 ppl psp psy psh tpl tsp tsy tsh kpl ksp ksy ksh bs bt sz z1 z2 ik psc pnc pdy pzz tsc tnc tdy tzz ksc knc kdy kzz ln so be en va) z0) 0 0 (wA (wX4 cI cS a0 a1 a2 a3 a4 a5 a6 a7 a8 a9 a10 a11 a12 a13 a14 a15 a16 a17 a18 a19 a20 a21 a22 ppl psp psy psh tpl tsp tsy tsh kpl ksp ksy ksh bs bt sz nm fd ik psc pnc pdy pzz tsc tnc tdy tzz ksc knc kdy kzz ln so be en va)) := by
  refine Met.mk RX4 (by decide) rfl rfl (Nat.le_of_ble_eq_true rfl) ?_
  intro p e s m below meth c ls C0 hP hl
  have hl : lv_has ls 6 [(0, .ref a0), (1, .int v1), (2, .int v2), (3, .int v3), (4, .int v4), (5, .int v5)] := hl
  obtain ⟨hx, hb, hr, hml, hown, hts, hlk, hE⟩ := id C0
  have hinX4 : ∀ w ∈ u_ws RX4 TX4 7, w ∈ wsX4_copy := by decide +kernel
  have hD : ∀ W : va_W, W.map Prod.fst = [a0, a1, a2, a3, a4, a5, a6, a7, a8, a9, a10, a11, a12, a13, a14, a15, a16, a17, a18, a19, a20, a21, a22] → va_D (wA (wX4 cI cS a0 a1 a2 a3 a4 a5 a6 a7 a8 a9 a10 a11 a12 a13 a14 a15 a16 a17 a18 a19 a20 a21 a22 ppl psp psy psh tpl tsp tsy tsh kpl ksp ksy ksh bs bt sz nm fd ik psc pnc pdy pzz tsc tnc tdy tzz ksc knc kdy kzz ln so be en va)) W := fun W hW => hD0.own.re hW
  have hS : va_S (wA (wX4 cI cS a0 a1 a2 a3 a4 a5 a6 a7 a8 a9 a10 a11 a12 a13 a14 a15 a16 a17 a18 a19 a20 a21 a22 ppl psp psy psh tpl tsp tsy tsh kpl ksp ksy ksh bs bt sz nm fd ik psc pnc pdy pzz tsc tnc tdy tzz ksc knc kdy kzz ln so be en va)) s.heap s.heap [] := va_S.rf
  have hP : va_P D vwCl (wX4 cI cS a0 a1 a2 a3 a4 a5 a6 a7 a8 a9 a10 a11 a12 a13 a14 a15 a16 a17 a18 a19 a20 a21 a22 ppl psp psy psh tpl tsp tsy tsh kpl ksp ksy ksh bs bt sz nm fd ik psc pnc pdy pzz tsc tnc tdy tzz ksc knc kdy kzz ln so be en va) s.heap := hP
  rw [fX4_copy] at h
  refine lv_iload_n hx hb dX4_copy_0 rfl (lv_at hl 1 rfl) ?_
  refine kRi (rS C0 (tX4_isSheet l D cI cS v1 (fX4_isSheet v1) rfl) gX4_copy_X4_isSheet rfl ⟨rfl, rfl⟩ pdX4_isSheet rfl ⟨Nat.le_of_ble_eq_true rfl, Nat.le_of_ble_eq_true rfl⟩ (fun _ _ _ _ q => q) (fun _ _ _ _ => vp0) hl.1 rfl (Nat.le_of_ble_eq_true rfl) dX4_copy_1 ⟨Nat.zero_le _, Nat.zero_le _⟩) ?_
  refine lv_if_eq (tgt := 14) hx hb dX4_copy_4 (by decide) (fun c_1 => ?_) (fun c_1 => ?_)
  · have h := ifp c_1 h
    refine lv_aload_n hx hb dX4_copy_14 rfl (lv_at hl 0 rfl) ?_
    refine lv_ldc (v := (-1000001)) hx hb hown (hts _ (List.mem_of_getElem? (i := 1) rfl)) dX4_copy_15 ?_
    have hPc := hP.sub (ws' := (wX4 cI cS a0 a1 a2 a3 a4 a5 a6 a7 a8 a9 a10 a11 a12 a13 a14 a15 a16 a17 a18 a19 a20 a21 a22 ppl psp psy psh tpl tsp tsy tsh kpl ksp ksy ksh bs bt sz nm fd ik psc pnc pdy pzz tsc tnc tdy tzz ksc knc kdy kzz ln so be en va)) [0, 1, 2, 3, 4, 5, 6, 7, 8, 9, 10, 11, 12, 13, 14, 15, 16, 17, 18, 19, 20, 21, 22] rfl
    refine kMi (wf' := (wX4 cI cS a0 a1 a2 a3 a4 a5 a6 a7 a8 a9 a10 a11 a12 a13 a14 a15 a16 a17 a18 a19 a20 a21 a22 ppl psp psy psh tpl tsp tsy tsh kpl ksp ksy ksh bs bt sz nm (fX4_finding_o1 fd (-1000001)) ik psc pnc pdy pzz tsc tnc tdy tzz ksc knc kdy kzz ln so be en va)) [0, 1, 2, 3, 4, 5, 6, 7, 8, 9, 10, 11, 12, 13, 14, 15, 16, 17, 18, 19, 20, 21, 22] [some 0, some 1, some 2, some 3, some 4, some 5, some 6, some 7, some 8, some 9, some 10, some 11, some 12, some 13, some 14, some 15, some 16, some 17, some 18, some 19, some 20, some 21, some 22] (rV C0 (tX4_finding l D cI cS a0 a1 a2 a3 a4 a5 a6 a7 a8 a9 a10 a11 a12 a13 a14 a15 a16 a17 a18 a19 a20 a21 a22 ppl psp psy psh tpl tsp tsy tsh kpl ksp ksy ksh bs bt sz nm fd ik psc pnc pdy pzz tsc tnc tdy tzz ksc knc kdy kzz ln so be en va (-1000001) (-1000001) (fX4_finding_o1 fd (-1000001)) (eeX4_finding ..) (((hD (wX4 cI cS a0 a1 a2 a3 a4 a5 a6 a7 a8 a9 a10 a11 a12 a13 a14 a15 a16 a17 a18 a19 a20 a21 a22 ppl psp psy psh tpl tsp tsy tsh kpl ksp ksy ksh bs bt sz nm fd ik psc pnc pdy pzz tsc tnc tdy tzz ksc knc kdy kzz ln so be en va) rfl).sub [0, 1, 2, 3, 4, 5, 6, 7, 8, 9, 10, 11, 12, 13, 14, 15, 16, 17, 18, 19, 20, 21, 22] (by decide) rfl).weaken (fun _ _ _ _ => trivial))) RX4 gX4_copy_X4_finding rfl ⟨rfl, rfl⟩ pdX4_finding rfl ⟨Nat.le_of_ble_eq_true rfl, Nat.le_of_ble_eq_true rfl⟩ (fun _ _ _ _ q => q) (va_recv hE.1 hPc (ci := 3) (q0 := 0) rfl rfl) (fun U hU _ _ => by rw [hU]; exact hPc) hl.1 rfl (Nat.le_of_ble_eq_true rfl) dX4_copy_17 ⟨Nat.zero_le _, Nat.zero_le _⟩) hP (hD _ rfl) hS rfl rfl rfl (fun H locs hP hS => ?_)
    obtain ⟨q0, g0⟩ := Prod.mk.inj (Option.some.inj h)
    obtain ⟨q1, q2⟩ := Prod.mk.inj g0
    subst q0 q1 q2
    exact eMi C0 hP hS rfl rfl dX4_copy_20
  · have h := ifn c_1 h
    refine lv_iload_n hx hb dX4_copy_7 rfl (lv_at hl 3 rfl) ?_
    refine kRi (rS C0 (tX4_isSheet l D cI cS v3 (fX4_isSheet v3) rfl) gX4_copy_X4_isSheet rfl ⟨rfl, rfl⟩ pdX4_isSheet rfl ⟨Nat.le_of_ble_eq_true rfl, Nat.le_of_ble_eq_true rfl⟩ (fun _ _ _ _ q => q) (fun _ _ _ _ => vp0) hl.1 rfl (Nat.le_of_ble_eq_true rfl) dX4_copy_8 ⟨Nat.zero_le _, Nat.zero_le _⟩) ?_
    refine lv_if_ne (tgt := 21) hx hb dX4_copy_11 (by decide) (fun c_2 => ?_) (fun c_2 => ?_)
    · have h := ifn c_2 h
      refine lv_aload_n hx hb dX4_copy_21 rfl (lv_at hl 0 rfl) ?_
      refine va_get (D := D) (ci := 3) (v := .ref a18) (C := RX4) (T := TX4) (N := 7) hx hb hts hinX4 hown hE.1 hP 0 rfl rfl 5 (by decide) (hts _ (List.mem_of_getElem? (i := 2) rfl)) (fun _ h9 => h9) rfl dX4_copy_22 ?_
      refine lv_iload_n hx hb dX4_copy_25 rfl (lv_at hl 1 rfl) ?_
      have hPc := hP.sub (ws' := (wX2 cI cS a18 a19 a20 a21 bt sz nm)) [18, 19, 20, 21] rfl
      refine kRi (rV C0 (tX2_isMissing l D cI cS a18 a19 a20 a21 bt sz nm v1 (fX2_isMissing bt v1) rfl) RX2 gX4_copy_X2_isMissing rfl ⟨rfl, rfl⟩ pdX2_isMissing rfl ⟨Nat.le_of_ble_eq_true rfl, Nat.le_of_ble_eq_true rfl⟩ (fun _ _ _ _ q => q) (va_recv hE.1 hPc (ci := 1) (q0 := 0) rfl rfl) (fun U hU _ _ => by rw [hU]; exact hPc) hl.1 rfl (Nat.le_of_ble_eq_true rfl) dX4_copy_26 ⟨Nat.zero_le _, Nat.zero_le _⟩) ?_
      refine lv_if_ne (tgt := 43) hx hb dX4_copy_29 (by decide) (fun c_3 => ?_) (fun c_3 => ?_)
      · have h := ifn c_3 h
        refine lv_aload_n hx hb dX4_copy_43 rfl (lv_at hl 0 rfl) ?_
        refine lv_ldc (v := (-1000006)) hx hb hown (hts _ (List.mem_of_getElem? (i := 3) rfl)) dX4_copy_44 ?_
        have hPc := hP.sub (ws' := (wX4 cI cS a0 a1 a2 a3 a4 a5 a6 a7 a8 a9 a10 a11 a12 a13 a14 a15 a16 a17 a18 a19 a20 a21 a22 ppl psp psy psh tpl tsp tsy tsh kpl ksp ksy ksh bs bt sz nm fd ik psc pnc pdy pzz tsc tnc tdy tzz ksc knc kdy kzz ln so be en va)) [0, 1, 2, 3, 4, 5, 6, 7, 8, 9, 10, 11, 12, 13, 14, 15, 16, 17, 18, 19, 20, 21, 22] rfl
        refine kMi (wf' := (wX4 cI cS a0 a1 a2 a3 a4 a5 a6 a7 a8 a9 a10 a11 a12 a13 a14 a15 a16 a17 a18 a19 a20 a21 a22 ppl psp psy psh tpl tsp tsy tsh kpl ksp ksy ksh bs bt sz nm (fX4_finding_o1 fd (-1000006)) ik psc pnc pdy pzz tsc tnc tdy tzz ksc knc kdy kzz ln so be en va)) [0, 1, 2, 3, 4, 5, 6, 7, 8, 9, 10, 11, 12, 13, 14, 15, 16, 17, 18, 19, 20, 21, 22] [some 0, some 1, some 2, some 3, some 4, some 5, some 6, some 7, some 8, some 9, some 10, some 11, some 12, some 13, some 14, some 15, some 16, some 17, some 18, some 19, some 20, some 21, some 22] (rV C0 (tX4_finding l D cI cS a0 a1 a2 a3 a4 a5 a6 a7 a8 a9 a10 a11 a12 a13 a14 a15 a16 a17 a18 a19 a20 a21 a22 ppl psp psy psh tpl tsp tsy tsh kpl ksp ksy ksh bs bt sz nm fd ik psc pnc pdy pzz tsc tnc tdy tzz ksc knc kdy kzz ln so be en va (-1000006) (-1000006) (fX4_finding_o1 fd (-1000006)) (eeX4_finding ..) (((hD (wX4 cI cS a0 a1 a2 a3 a4 a5 a6 a7 a8 a9 a10 a11 a12 a13 a14 a15 a16 a17 a18 a19 a20 a21 a22 ppl psp psy psh tpl tsp tsy tsh kpl ksp ksy ksh bs bt sz nm fd ik psc pnc pdy pzz tsc tnc tdy tzz ksc knc kdy kzz ln so be en va) rfl).sub [0, 1, 2, 3, 4, 5, 6, 7, 8, 9, 10, 11, 12, 13, 14, 15, 16, 17, 18, 19, 20, 21, 22] (by decide) rfl).weaken (fun _ _ _ _ => trivial))) RX4 gX4_copy_X4_finding rfl ⟨rfl, rfl⟩ pdX4_finding rfl ⟨Nat.le_of_ble_eq_true rfl, Nat.le_of_ble_eq_true rfl⟩ (fun _ _ _ _ q => q) (va_recv hE.1 hPc (ci := 3) (q0 := 0) rfl rfl) (fun U hU _ _ => by rw [hU]; exact hPc) hl.1 rfl (Nat.le_of_ble_eq_true rfl) dX4_copy_46 ⟨Nat.zero_le _, Nat.zero_le _⟩) hP (hD _ rfl) hS rfl rfl rfl (fun H locs hP hS => ?_)
        obtain ⟨q0, g0⟩ := Prod.mk.inj (Option.some.inj h)
        obtain ⟨q1, q2⟩ := Prod.mk.inj g0
        subst q0 q1 q2
        exact eMi C0 hP hS rfl rfl dX4_copy_49
      · have h := ifp c_3 h
        refine lv_aload_n hx hb dX4_copy_32 rfl (lv_at hl 0 rfl) ?_
        refine va_get (D := D) (ci := 3) (v := .ref a18) (C := RX4) (T := TX4) (N := 7) hx hb hts hinX4 hown hE.1 hP 0 rfl rfl 5 (by decide) (hts _ (List.mem_of_getElem? (i := 2) rfl)) (fun _ h9 => h9) rfl dX4_copy_33 ?_
        refine lv_iload_n hx hb dX4_copy_36 rfl (lv_at hl 3 rfl) ?_
        have hPc := hP.sub (ws' := (wX2 cI cS a18 a19 a20 a21 bt sz nm)) [18, 19, 20, 21] rfl
        refine kRi (rV C0 (tX2_isMissing l D cI cS a18 a19 a20 a21 bt sz nm v3 (fX2_isMissing bt v3) rfl) RX2 gX4_copy_X2_isMissing rfl ⟨rfl, rfl⟩ pdX2_isMissing rfl ⟨Nat.le_of_ble_eq_true rfl, Nat.le_of_ble_eq_true rfl⟩ (fun _ _ _ _ q => q) (va_recv hE.1 hPc (ci := 1) (q0 := 0) rfl rfl) (fun U hU _ _ => by rw [hU]; exact hPc) hl.1 rfl (Nat.le_of_ble_eq_true rfl) dX4_copy_37 ⟨Nat.zero_le _, Nat.zero_le _⟩) ?_
        refine lv_if_eq (tgt := 50) hx hb dX4_copy_40 (by decide) (fun c_4 => ?_) (fun c_4 => ?_)
        · have h := ifp c_4 h
          refine lv_aload_n hx hb dX4_copy_50 rfl (lv_at hl 0 rfl) ?_
          refine va_get (D := D) (ci := 3) (v := .ref a18) (C := RX4) (T := TX4) (N := 7) hx hb hts hinX4 hown hE.1 hP 0 rfl rfl 5 (by decide) (hts _ (List.mem_of_getElem? (i := 2) rfl)) (fun _ h9 => h9) rfl dX4_copy_51 ?_
          refine lv_iload_n hx hb dX4_copy_54 rfl (lv_at hl 1 rfl) ?_
          have hPc := hP.sub (ws' := (wX2 cI cS a18 a19 a20 a21 bt sz nm)) [18, 19, 20, 21] rfl
          refine kRi (rV C0 (tX2_bitsOf l D cI cS a18 a19 a20 a21 bt sz nm v1 (fX2_bitsOf bt v1) rfl) RX2 gX4_copy_X2_bitsOf rfl ⟨rfl, rfl⟩ pdX2_bitsOf rfl ⟨Nat.le_of_ble_eq_true rfl, Nat.le_of_ble_eq_true rfl⟩ (fun _ _ _ _ q => q) (va_recv hE.1 hPc (ci := 1) (q0 := 0) rfl rfl) (fun U hU _ _ => by rw [hU]; exact hPc) hl.1 rfl (Nat.le_of_ble_eq_true rfl) dX4_copy_55 ⟨Nat.zero_le _, Nat.zero_le _⟩) ?_
          refine lv_aload_n hx hb dX4_copy_58 rfl (lv_at hl 0 rfl) ?_
          refine va_get (D := D) (ci := 3) (v := .ref a18) (C := RX4) (T := TX4) (N := 7) hx hb hts hinX4 hown hE.1 hP 0 rfl rfl 5 (by decide) (hts _ (List.mem_of_getElem? (i := 2) rfl)) (fun _ h9 => h9) rfl dX4_copy_59 ?_
          refine lv_iload_n hx hb dX4_copy_62 rfl (lv_at hl 3 rfl) ?_
          have hPc := hP.sub (ws' := (wX2 cI cS a18 a19 a20 a21 bt sz nm)) [18, 19, 20, 21] rfl
          refine kRi (rV C0 (tX2_bitsOf l D cI cS a18 a19 a20 a21 bt sz nm v3 (fX2_bitsOf bt v3) rfl) RX2 gX4_copy_X2_bitsOf rfl ⟨rfl, rfl⟩ pdX2_bitsOf rfl ⟨Nat.le_of_ble_eq_true rfl, Nat.le_of_ble_eq_true rfl⟩ (fun _ _ _ _ q => q) (va_recv hE.1 hPc (ci := 1) (q0 := 0) rfl rfl) (fun U hU _ _ => by rw [hU]; exact hPc) hl.1 rfl (Nat.le_of_ble_eq_true rfl) dX4_copy_63 ⟨Nat.zero_le _, Nat.zero_le _⟩) ?_
          refine lv_icmp_eq (tgt := 76) hx hb dX4_copy_66 (by decide) (fun c_5 => ?_) (fun c_5 => ?_)
          · have h := ifp c_5 h
            refine lv_aload_n hx hb dX4_copy_76 rfl (lv_at hl 0 rfl) ?_
            refine va_get (D := D) (ci := 3) (v := .ref a18) (C := RX4) (T := TX4) (N := 7) hx hb hts hinX4 hown hE.1 hP 0 rfl rfl 5 (by decide) (hts _ (List.mem_of_getElem? (i := 2) rfl)) (fun _ h9 => h9) rfl dX4_copy_77 ?_
            refine lv_iload_n hx hb dX4_copy_80 rfl (lv_at hl 1 rfl) ?_
            refine lv_iload_n hx hb dX4_copy_81 rfl (lv_at hl 2 rfl) ?_
            refine lv_iload hx hb dX4_copy_82 (lv_at hl 5 rfl) ?_
            have hPc := hP.sub (ws' := (wX2 cI cS a18 a19 a20 a21 bt sz nm)) [18, 19, 20, 21] rfl
            refine kRi (rV C0 (tX2_hasSoMany l D cI cS a18 a19 a20 a21 bt sz nm v1 v2 v5 (fX2_hasSoMany sz v1 v2 v5) rfl) RX2 gX4_copy_X2_hasSoMany rfl ⟨rfl, rfl⟩ pdX2_hasSoMany rfl ⟨Nat.le_of_ble_eq_true rfl, Nat.le_of_ble_eq_true rfl⟩ (fun _ _ _ _ q => q) (va_recv hE.1 hPc (ci := 1) (q0 := 0) rfl rfl) (fun U hU _ _ => by rw [hU]; exact hPc) hl.1 rfl (Nat.le_of_ble_eq_true rfl) dX4_copy_84 ⟨Nat.zero_le _, Nat.zero_le _⟩) ?_
            refine lv_if_eq (tgt := 105) hx hb dX4_copy_87 (by decide) (fun c_6 => ?_) (fun c_6 => ?_)
            · have h := ifp c_6 h
              refine lv_aload_n hx hb dX4_copy_105 rfl (lv_at hl 0 rfl) ?_
              refine lv_ldc (v := (-1000001)) hx hb hown (hts _ (List.mem_of_getElem? (i := 1) rfl)) dX4_copy_106 ?_
              have hPc := hP.sub (ws' := (wX4 cI cS a0 a1 a2 a3 a4 a5 a6 a7 a8 a9 a10 a11 a12 a13 a14 a15 a16 a17 a18 a19 a20 a21 a22 ppl psp psy psh tpl tsp tsy tsh kpl ksp ksy ksh bs bt sz nm fd ik psc pnc pdy pzz tsc tnc tdy tzz ksc knc kdy kzz ln so be en va)) [0, 1, 2, 3, 4, 5, 6, 7, 8, 9, 10, 11, 12, 13, 14, 15, 16, 17, 18, 19, 20, 21, 22] rfl
              refine kMi (wf' := (wX4 cI cS a0 a1 a2 a3 a4 a5 a6 a7 a8 a9 a10 a11 a12 a13 a14 a15 a16 a17 a18 a19 a20 a21 a22 ppl psp psy psh tpl tsp tsy tsh kpl ksp ksy ksh bs bt sz nm (fX4_finding_o1 fd (-1000001)) ik psc pnc pdy pzz tsc tnc tdy tzz ksc knc kdy kzz ln so be en va)) [0, 1, 2, 3, 4, 5, 6, 7, 8, 9, 10, 11, 12, 13, 14, 15, 16, 17, 18, 19, 20, 21, 22] [some 0, some 1, some 2, some 3, some 4, some 5, some 6, some 7, some 8, some 9, some 10, some 11, some 12, some 13, some 14, some 15, some 16, some 17, some 18, some 19, some 20, some 21, some 22] (rV C0 (tX4_finding l D cI cS a0 a1 a2 a3 a4 a5 a6 a7 a8 a9 a10 a11 a12 a13 a14 a15 a16 a17 a18 a19 a20 a21 a22 ppl psp psy psh tpl tsp tsy tsh kpl ksp ksy ksh bs bt sz nm fd ik psc pnc pdy pzz tsc tnc tdy tzz ksc knc kdy kzz ln so be en va (-1000001) (-1000001) (fX4_finding_o1 fd (-1000001)) (eeX4_finding ..) (((hD (wX4 cI cS a0 a1 a2 a3 a4 a5 a6 a7 a8 a9 a10 a11 a12 a13 a14 a15 a16 a17 a18 a19 a20 a21 a22 ppl psp psy psh tpl tsp tsy tsh kpl ksp ksy ksh bs bt sz nm fd ik psc pnc pdy pzz tsc tnc tdy tzz ksc knc kdy kzz ln so be en va) rfl).sub [0, 1, 2, 3, 4, 5, 6, 7, 8, 9, 10, 11, 12, 13, 14, 15, 16, 17, 18, 19, 20, 21, 22] (by decide) rfl).weaken (fun _ _ _ _ => trivial))) RX4 gX4_copy_X4_finding rfl ⟨rfl, rfl⟩ pdX4_finding rfl ⟨Nat.le_of_ble_eq_true rfl, Nat.le_of_ble_eq_true rfl⟩ (fun _ _ _ _ q => q) (va_recv hE.1 hPc (ci := 3) (q0 := 0) rfl rfl) (fun U hU _ _ => by rw [hU]; exact hPc) hl.1 rfl (Nat.le_of_ble_eq_true rfl) dX4_copy_108 ⟨Nat.zero_le _, Nat.zero_le _⟩) hP (hD _ rfl) hS rfl rfl rfl (fun H locs hP hS => ?_)
              obtain ⟨q0, g0⟩ := Prod.mk.inj (Option.some.inj h)
              obtain ⟨q1, q2⟩ := Prod.mk.inj g0
              subst q0 q1 q2
              exact eMi C0 hP hS rfl rfl dX4_copy_111
            · have h := ifn c_6 h
              refine lv_aload_n hx hb dX4_copy_90 rfl (lv_at hl 0 rfl) ?_
              refine va_get (D := D) (ci := 3) (v := .ref a18) (C := RX4) (T := TX4) (N := 7) hx hb hts hinX4 hown hE.1 hP 0 rfl rfl 5 (by decide) (hts _ (List.mem_of_getElem? (i := 2) rfl)) (fun _ h9 => h9) rfl dX4_copy_91 ?_
              refine lv_iload_n hx hb dX4_copy_94 rfl (lv_at hl 3 rfl) ?_
              refine lv_iload hx hb dX4_copy_95 (lv_at hl 4 rfl) ?_
              refine lv_iload hx hb dX4_copy_97 (lv_at hl 5 rfl) ?_
              have hPc := hP.sub (ws' := (wX2 cI cS a18 a19 a20 a21 bt sz nm)) [18, 19, 20, 21] rfl
              refine kRi (rV C0 (tX2_hasSoMany l D cI cS a18 a19 a20 a21 bt sz nm v3 v4 v5 (fX2_hasSoMany sz v3 v4 v5) rfl) RX2 gX4_copy_X2_hasSoMany rfl ⟨rfl, rfl⟩ pdX2_hasSoMany rfl ⟨Nat.le_of_ble_eq_true rfl, Nat.le_of_ble_eq_true rfl⟩ (fun _ _ _ _ q => q) (va_recv hE.1 hPc (ci := 1) (q0 := 0) rfl rfl) (fun U hU _ _ => by rw [hU]; exact hPc) hl.1 rfl (Nat.le_of_ble_eq_true rfl) dX4_copy_99 ⟨Nat.zero_le _, Nat.zero_le _⟩) ?_
              refine lv_if_ne (tgt := 112) hx hb dX4_copy_102 (by decide) (fun c_7 => ?_) (fun c_7 => ?_)
              · have h := ifn c_7 h
                refine lv_aload_n hx hb dX4_copy_112 rfl (lv_at hl 0 rfl) ?_
                refine va_get (D := D) (ci := 3) (v := .ref a18) (C := RX4) (T := TX4) (N := 7) hx hb hts hinX4 hown hE.1 hP 0 rfl rfl 5 (by decide) (hts _ (List.mem_of_getElem? (i := 2) rfl)) (fun _ h9 => h9) rfl dX4_copy_113 ?_
                refine lv_iload_n hx hb dX4_copy_116 rfl (lv_at hl 1 rfl) ?_
                refine lv_iload_n hx hb dX4_copy_117 rfl (lv_at hl 2 rfl) ?_
                refine lv_iload_n hx hb dX4_copy_118 rfl (lv_at hl 3 rfl) ?_
                refine lv_iload hx hb dX4_copy_119 (lv_at hl 4 rfl) ?_
                refine lv_iload hx hb dX4_copy_121 (lv_at hl 5 rfl) ?_
                obtain ⟨z_8, e_9, h⟩ := bds h
                have hPc := hP.sub (ws' := (wX2 cI cS a18 a19 a20 a21 bt sz nm)) [18, 19, 20, 21] rfl
                refine kMv (wf' := (wX4 cI cS a0 a1 a2 a3 a4 a5 a6 a7 a8 a9 a10 a11 a12 a13 a14 a15 a16 a17 a18 a19 a20 a21 a22 ppl psp psy psh tpl tsp tsy tsh kpl ksp ksy ksh bs bt sz z_8 fd ik psc pnc pdy pzz tsc tnc tdy tzz ksc knc kdy kzz ln so be en va)) [18, 19, 20, 21] [none, none, none, none, none, none, none, none, none, none, none, none, none, none, none, none, none, none, some 0, some 1, some 2, some 3, none] (rV C0 (tX2_carry l D cI cS a18 a19 a20 a21 bt sz nm v1 v2 v3 v4 v5 z_8 e_9 (((hD (wX4 cI cS a0 a1 a2 a3 a4 a5 a6 a7 a8 a9 a10 a11 a12 a13 a14 a15 a16 a17 a18 a19 a20 a21 a22 ppl psp psy psh tpl tsp tsy tsh kpl ksp ksy ksh bs bt sz nm fd ik psc pnc pdy pzz tsc tnc tdy tzz ksc knc kdy kzz ln so be en va) rfl).sub [18, 19, 20, 21] (by decide) rfl).weaken (fun _ _ _ _ => trivial))) RX2 gX4_copy_X2_carry rfl ⟨rfl, rfl⟩ pdX2_carry rfl ⟨Nat.le_of_ble_eq_true rfl, Nat.le_of_ble_eq_true rfl⟩ (fun _ _ _ _ q => q) (va_recv hE.1 hPc (ci := 1) (q0 := 0) rfl rfl) (fun U hU _ _ => by rw [hU]; exact hPc) hl.1 rfl (Nat.le_of_ble_eq_true rfl) dX4_copy_123 ⟨Nat.zero_le _, Nat.zero_le _⟩) hP (hD _ rfl) hS rfl rfl rfl (fun H locs hP hS => ?_)
                refine lv_iload hx hb dX4_copy_126 (lv_at hl 5 rfl) ?_
                obtain ⟨q0, g0⟩ := Prod.mk.inj (Option.some.inj h)
                obtain ⟨q1, q2⟩ := Prod.mk.inj g0
                subst q0 q1 q2
                exact eMi C0 hP hS rfl rfl dX4_copy_128
              · have h := ifp c_7 h
                refine lv_aload_n hx hb dX4_copy_105 rfl (lv_at hl 0 rfl) ?_
                refine lv_ldc (v := (-1000001)) hx hb hown (hts _ (List.mem_of_getElem? (i := 1) rfl)) dX4_copy_106 ?_
                have hPc := hP.sub (ws' := (wX4 cI cS a0 a1 a2 a3 a4 a5 a6 a7 a8 a9 a10 a11 a12 a13 a14 a15 a16 a17 a18 a19 a20 a21 a22 ppl psp psy psh tpl tsp tsy tsh kpl ksp ksy ksh bs bt sz nm fd ik psc pnc pdy pzz tsc tnc tdy tzz ksc knc kdy kzz ln so be en va)) [0, 1, 2, 3, 4, 5, 6, 7, 8, 9, 10, 11, 12, 13, 14, 15, 16, 17, 18, 19, 20, 21, 22] rfl
                refine kMi (wf' := (wX4 cI cS a0 a1 a2 a3 a4 a5 a6 a7 a8 a9 a10 a11 a12 a13 a14 a15 a16 a17 a18 a19 a20 a21 a22 ppl psp psy psh tpl tsp tsy tsh kpl ksp ksy ksh bs bt sz nm (fX4_finding_o1 fd (-1000001)) ik psc pnc pdy pzz tsc tnc tdy tzz ksc knc kdy kzz ln so be en va)) [0, 1, 2, 3, 4, 5, 6, 7, 8, 9, 10, 11, 12, 13, 14, 15, 16, 17, 18, 19, 20, 21, 22] [some 0, some 1, some 2, some 3, some 4, some 5, some 6, some 7, some 8, some 9, some 10, some 11, some 12, some 13, some 14, some 15, some 16, some 17, some 18, some 19, some 20, some 21, some 22] (rV C0 (tX4_finding l D cI cS a0 a1 a2 a3 a4 a5 a6 a7 a8 a9 a10 a11 a12 a13 a14 a15 a16 a17 a18 a19 a20 a21 a22 ppl psp psy psh tpl tsp tsy tsh kpl ksp ksy ksh bs bt sz nm fd ik psc pnc pdy pzz tsc tnc tdy tzz ksc knc kdy kzz ln so be en va (-1000001) (-1000001) (fX4_finding_o1 fd (-1000001)) (eeX4_finding ..) (((hD (wX4 cI cS a0 a1 a2 a3 a4 a5 a6 a7 a8 a9 a10 a11 a12 a13 a14 a15 a16 a17 a18 a19 a20 a21 a22 ppl psp psy psh tpl tsp tsy tsh kpl ksp ksy ksh bs bt sz nm fd ik psc pnc pdy pzz tsc tnc tdy tzz ksc knc kdy kzz ln so be en va) rfl).sub [0, 1, 2, 3, 4, 5, 6, 7, 8, 9, 10, 11, 12, 13, 14, 15, 16, 17, 18, 19, 20, 21, 22] (by decide) rfl).weaken (fun _ _ _ _ => trivial))) RX4 gX4_copy_X4_finding rfl ⟨rfl, rfl⟩ pdX4_finding rfl ⟨Nat.le_of_ble_eq_true rfl, Nat.le_of_ble_eq_true rfl⟩ (fun _ _ _ _ q => q) (va_recv hE.1 hPc (ci := 3) (q0 := 0) rfl rfl) (fun U hU _ _ => by rw [hU]; exact hPc) hl.1 rfl (Nat.le_of_ble_eq_true rfl) dX4_copy_108 ⟨Nat.zero_le _, Nat.zero_le _⟩) hP (hD _ rfl) hS rfl rfl rfl (fun H locs hP hS => ?_)
                obtain ⟨q0, g0⟩ := Prod.mk.inj (Option.some.inj h)
                obtain ⟨q1, q2⟩ := Prod.mk.inj g0
                subst q0 q1 q2
                exact eMi C0 hP hS rfl rfl dX4_copy_111
          · have h := ifn c_5 h
            refine lv_aload_n hx hb dX4_copy_69 rfl (lv_at hl 0 rfl) ?_
            refine lv_ldc (v := (-1000003)) hx hb hown (hts _ (List.mem_of_getElem? (i := 4) rfl)) dX4_copy_70 ?_
            have hPc := hP.sub (ws' := (wX4 cI cS a0 a1 a2 a3 a4 a5 a6 a7 a8 a9 a10 a11 a12 a13 a14 a15 a16 a17 a18 a19 a20 a21 a22 ppl psp psy psh tpl tsp tsy tsh kpl ksp ksy ksh bs bt sz nm fd ik psc pnc pdy pzz tsc tnc tdy tzz ksc knc kdy kzz ln so be en va)) [0, 1, 2, 3, 4, 5, 6, 7, 8, 9, 10, 11, 12, 13, 14, 15, 16, 17, 18, 19, 20, 21, 22] rfl
            refine kMi (wf' := (wX4 cI cS a0 a1 a2 a3 a4 a5 a6 a7 a8 a9 a10 a11 a12 a13 a14 a15 a16 a17 a18 a19 a20 a21 a22 ppl psp psy psh tpl tsp tsy tsh kpl ksp ksy ksh bs bt sz nm (fX4_finding_o1 fd (-1000003)) ik psc pnc pdy pzz tsc tnc tdy tzz ksc knc kdy kzz ln so be en va)) [0, 1, 2, 3, 4, 5, 6, 7, 8, 9, 10, 11, 12, 13, 14, 15, 16, 17, 18, 19, 20, 21, 22] [some 0, some 1, some 2, some 3, some 4, some 5, some 6, some 7, some 8, some 9, some 10, some 11, some 12, some 13, some 14, some 15, some 16, some 17, some 18, some 19, some 20, some 21, some 22] (rV C0 (tX4_finding l D cI cS a0 a1 a2 a3 a4 a5 a6 a7 a8 a9 a10 a11 a12 a13 a14 a15 a16 a17 a18 a19 a20 a21 a22 ppl psp psy psh tpl tsp tsy tsh kpl ksp ksy ksh bs bt sz nm fd ik psc pnc pdy pzz tsc tnc tdy tzz ksc knc kdy kzz ln so be en va (-1000003) (-1000003) (fX4_finding_o1 fd (-1000003)) (eeX4_finding ..) (((hD (wX4 cI cS a0 a1 a2 a3 a4 a5 a6 a7 a8 a9 a10 a11 a12 a13 a14 a15 a16 a17 a18 a19 a20 a21 a22 ppl psp psy psh tpl tsp tsy tsh kpl ksp ksy ksh bs bt sz nm fd ik psc pnc pdy pzz tsc tnc tdy tzz ksc knc kdy kzz ln so be en va) rfl).sub [0, 1, 2, 3, 4, 5, 6, 7, 8, 9, 10, 11, 12, 13, 14, 15, 16, 17, 18, 19, 20, 21, 22] (by decide) rfl).weaken (fun _ _ _ _ => trivial))) RX4 gX4_copy_X4_finding rfl ⟨rfl, rfl⟩ pdX4_finding rfl ⟨Nat.le_of_ble_eq_true rfl, Nat.le_of_ble_eq_true rfl⟩ (fun _ _ _ _ q => q) (va_recv hE.1 hPc (ci := 3) (q0 := 0) rfl rfl) (fun U hU _ _ => by rw [hU]; exact hPc) hl.1 rfl (Nat.le_of_ble_eq_true rfl) dX4_copy_72 ⟨Nat.zero_le _, Nat.zero_le _⟩) hP (hD _ rfl) hS rfl rfl rfl (fun H locs hP hS => ?_)
            obtain ⟨q0, g0⟩ := Prod.mk.inj (Option.some.inj h)
            obtain ⟨q1, q2⟩ := Prod.mk.inj g0
            subst q0 q1 q2
            exact eMi C0 hP hS rfl rfl dX4_copy_75
        · have h := ifn c_4 h
          refine lv_aload_n hx hb dX4_copy_43 rfl (lv_at hl 0 rfl) ?_
          refine lv_ldc (v := (-1000006)) hx hb hown (hts _ (List.mem_of_getElem? (i := 3) rfl)) dX4_copy_44 ?_
          have hPc := hP.sub (ws' := (wX4 cI cS a0 a1 a2 a3 a4 a5 a6 a7 a8 a9 a10 a11 a12 a13 a14 a15 a16 a17 a18 a19 a20 a21 a22 ppl psp psy psh tpl tsp tsy tsh kpl ksp ksy ksh bs bt sz nm fd ik psc pnc pdy pzz tsc tnc tdy tzz ksc knc kdy kzz ln so be en va)) [0, 1, 2, 3, 4, 5, 6, 7, 8, 9, 10, 11, 12, 13, 14, 15, 16, 17, 18, 19, 20, 21, 22] rfl
          refine kMi (wf' := (wX4 cI cS a0 a1 a2 a3 a4 a5 a6 a7 a8 a9 a10 a11 a12 a13 a14 a15 a16 a17 a18 a19 a20 a21 a22 ppl psp psy psh tpl tsp tsy tsh kpl ksp ksy ksh bs bt sz nm (fX4_finding_o1 fd (-1000006)) ik psc pnc pdy pzz tsc tnc tdy tzz ksc knc kdy kzz ln so be en va)) [0, 1, 2, 3, 4, 5, 6, 7, 8, 9, 10, 11, 12, 13, 14, 15, 16, 17, 18, 19, 20, 21, 22] [some 0, some 1, some 2, some 3, some 4, some 5, some 6, some 7, some 8, some 9, some 10, some 11, some 12, some 13, some 14, some 15, some 16, some 17, some 18, some 19, some 20, some 21, some 22] (rV C0 (tX4_finding l D cI cS a0 a1 a2 a3 a4 a5 a6 a7 a8 a9 a10 a11 a12 a13 a14 a15 a16 a17 a18 a19 a20 a21 a22 ppl psp psy psh tpl tsp tsy tsh kpl ksp ksy ksh bs bt sz nm fd ik psc pnc pdy pzz tsc tnc tdy tzz ksc knc kdy kzz ln so be en va (-1000006) (-1000006) (fX4_finding_o1 fd (-1000006)) (eeX4_finding ..) (((hD (wX4 cI cS a0 a1 a2 a3 a4 a5 a6 a7 a8 a9 a10 a11 a12 a13 a14 a15 a16 a17 a18 a19 a20 a21 a22 ppl psp psy psh tpl tsp tsy tsh kpl ksp ksy ksh bs bt sz nm fd ik psc pnc pdy pzz tsc tnc tdy tzz ksc knc kdy kzz ln so be en va) rfl).sub [0, 1, 2, 3, 4, 5, 6, 7, 8, 9, 10, 11, 12, 13, 14, 15, 16, 17, 18, 19, 20, 21, 22] (by decide) rfl).weaken (fun _ _ _ _ => trivial))) RX4 gX4_copy_X4_finding rfl ⟨rfl, rfl⟩ pdX4_finding rfl ⟨Nat.le_of_ble_eq_true rfl, Nat.le_of_ble_eq_true rfl⟩ (fun _ _ _ _ q => q) (va_recv hE.1 hPc (ci := 3) (q0 := 0) rfl rfl) (fun U hU _ _ => by rw [hU]; exact hPc) hl.1 rfl (Nat.le_of_ble_eq_true rfl) dX4_copy_46 ⟨Nat.zero_le _, Nat.zero_le _⟩) hP (hD _ rfl) hS rfl rfl rfl (fun H locs hP hS => ?_)
          obtain ⟨q0, g0⟩ := Prod.mk.inj (Option.some.inj h)
          obtain ⟨q1, q2⟩ := Prod.mk.inj g0
          subst q0 q1 q2
          exact eMi C0 hP hS rfl rfl dX4_copy_49
    · have h := ifp c_2 h
      refine lv_aload_n hx hb dX4_copy_14 rfl (lv_at hl 0 rfl) ?_
      refine lv_ldc (v := (-1000001)) hx hb hown (hts _ (List.mem_of_getElem? (i := 1) rfl)) dX4_copy_15 ?_
      have hPc := hP.sub (ws' := (wX4 cI cS a0 a1 a2 a3 a4 a5 a6 a7 a8 a9 a10 a11 a12 a13 a14 a15 a16 a17 a18 a19 a20 a21 a22 ppl psp psy psh tpl tsp tsy tsh kpl ksp ksy ksh bs bt sz nm fd ik psc pnc pdy pzz tsc tnc tdy tzz ksc knc kdy kzz ln so be en va)) [0, 1, 2, 3, 4, 5, 6, 7, 8, 9, 10, 11, 12, 13, 14, 15, 16, 17, 18, 19, 20, 21, 22] rfl
      refine kMi (wf' := (wX4 cI cS a0 a1 a2 a3 a4 a5 a6 a7 a8 a9 a10 a11 a12 a13 a14 a15 a16 a17 a18 a19 a20 a21 a22 ppl psp psy psh tpl tsp tsy tsh kpl ksp ksy ksh bs bt sz nm (fX4_finding_o1 fd (-1000001)) ik psc pnc pdy pzz tsc tnc tdy tzz ksc knc kdy kzz ln so be en va)) [0, 1, 2, 3, 4, 5, 6, 7, 8, 9, 10, 11, 12, 13, 14, 15, 16, 17, 18, 19, 20, 21, 22] [some 0, some 1, some 2, some 3, some 4, some 5, some 6, some 7, some 8, some 9, some 10, some 11, some 12, some 13, some 14, some 15, some 16, some 17, some 18, some 19, some 20, some 21, some 22] (rV C0 (tX4_finding l D cI cS a0 a1 a2 a3 a4 a5 a6 a7 a8 a9 a10 a11 a12 a13 a14 a15 a16 a17 a18 a19 a20 a21 a22 ppl psp psy psh tpl tsp tsy tsh kpl ksp ksy ksh bs bt sz nm fd ik psc pnc pdy pzz tsc tnc tdy tzz ksc knc kdy kzz ln so be en va (-1000001) (-1000001) (fX4_finding_o1 fd (-1000001)) (eeX4_finding ..) (((hD (wX4 cI cS a0 a1 a2 a3 a4 a5 a6 a7 a8 a9 a10 a11 a12 a13 a14 a15 a16 a17 a18 a19 a20 a21 a22 ppl psp psy psh tpl tsp tsy tsh kpl ksp ksy ksh bs bt sz nm fd ik psc pnc pdy pzz tsc tnc tdy tzz ksc knc kdy kzz ln so be en va) rfl).sub [0, 1, 2, 3, 4, 5, 6, 7, 8, 9, 10, 11, 12, 13, 14, 15, 16, 17, 18, 19, 20, 21, 22] (by decide) rfl).weaken (fun _ _ _ _ => trivial))) RX4 gX4_copy_X4_finding rfl ⟨rfl, rfl⟩ pdX4_finding rfl ⟨Nat.le_of_ble_eq_true rfl, Nat.le_of_ble_eq_true rfl⟩ (fun _ _ _ _ q => q) (va_recv hE.1 hPc (ci := 3) (q0 := 0) rfl rfl) (fun U hU _ _ => by rw [hU]; exact hPc) hl.1 rfl (Nat.le_of_ble_eq_true rfl) dX4_copy_17 ⟨Nat.zero_le _, Nat.zero_le _⟩) hP (hD _ rfl) hS rfl rfl rfl (fun H locs hP hS => ?_)
      obtain ⟨q0, g0⟩ := Prod.mk.inj (Option.some.inj h)
      obtain ⟨q1, q2⟩ := Prod.mk.inj g0
      subst q0 q1 q2
      exact eMi C0 hP hS rfl rfl dX4_copy_20
def fX4_load_38 (nm : Nat → Int32) (fd : Nat → Int32) (v1 : Int32) (v3 : Int32) : Nat → Int32 → (Nat → Int32) → Option (Int32 × (Nat → Int32) × (Nat → Int32))
  | 0, _, _ => none
  | n + 1, v4, psy => (if v3 ≤ v4 then some (v3, psy, fd) else (if (fX4_within (fX2_numberOf nm v1 v4) 0 99) = 0 then some (v4, psy, fd) else fX4_load_38 nm fd v1 v3 n (v4 + 1) (fX0_setOfSaying psy v4 2 (fX2_numberOf nm v1 v4))))
def fX4_load (F : Nat) (psy : Nat → Int32) (bt : Nat → Int32) (sz : Nat → Int32) (nm : Nat → Int32) (fd : Nat → Int32) (psc : Int32) (v1 : Int32) : Option (Int32 × (Nat → Int32) × (Nat → Int32)) := (if (fX4_faultOfSheet bt v1) = 0 then fX4_load_38 nm fd v1 (if psc < (fX2_sizeOf sz v1) then psc else (fX2_sizeOf sz v1)) F 0 psy else some ((fX4_faultOfSheet bt v1), psy, fX4_finding_o1 fd (fX4_faultOfSheet bt v1)))
abbrev rmX4_load : Room := { frames := 4, cells := 0, slots := 0, locals := 84 }
theorem pdX4_load : (yX4_load.cls = RX4 ∧ yX4_load.cls ≠ "java/lang/invoke/MethodHandle" ∧ yX4_load.cls ≠ "java/lang/invoke/VarHandle" ∧ (parseMethodDescriptor yX4_load.desc).map (fun d => d.parameters.length) = some 1) := by decide +kernel
set_option maxHeartbeats 4000000 in
set_option maxRecDepth 100000 in
theorem lX4_load_38 {p : Program} {l : Launch} {e : Env} {s : State} {m : MethodId} {av : Array Value} {below : List Frame} {meth : Method} {c : Code} {D : va_G} {cI cS : ClassId} {a0 a1 a2 a3 a4 a5 a6 a7 a8 a9 a10 a11 a12 a13 a14 a15 a16 a17 a18 a19 a20 a21 a22 : Nat} {W0 : va_W} (C0 : CX p s m av meth c RX4 cX4_load 6 (some .int) wsX4_load D cI cS) (F : Nat) (ppl : Nat → Int32) (psp : Nat → Int32) (psh : Nat → Int32) (tpl : Nat → Int32) (tsp : Nat → Int32) (tsy : Nat → Int32) (tsh : Nat → Int32) (kpl : Nat → Int32) (ksp : Nat → Int32) (ksy : Nat → Int32) (ksh : Nat → Int32) (bs : Nat → Int32) (bt : Nat → Int32) (sz : Nat → Int32) (nm : Nat → Int32) (fd : Nat → Int32) (ik : Int32) (psc : Int32) (pnc : Int32) (pdy : Int32) (pzz : Int32) (tsc : Int32) (tnc : Int32) (tdy : Int32) (tzz : Int32) (ksc : Int32) (knc : Int32) (kdy : Int32) (kzz : Int32) (ln : Int32) (so : Int32) (be : Int32) (en : Int32) (va : Int32) (v1 : Int32) (v3 : Int32) (z0 : Int32) (z1 : Nat → Int32) (z2 : Nat → Int32) (hD : ∀ W : va_W, W.map Prod.fst = [a0, a1, a2, a3, a4, a5, a6, a7, a8, a9, a10, a11, a12, a13, a14, a15, a16, a17, a18, a19, a20, a21, a22] → va_D (wA W0) W) : ∀ (n : Nat) (v4 : Int32) (psy : Nat → Int32) (H : Heap) (locs : List Loc), va_P D vwCl (wX4 cI cS a0 a1 a2 a3 a4 a5 a6 a7 a8 a9 a10 a11 a12 a13 a14 a15 a16 a17 a18 a19 a20 a21 a22 ppl psp psy psh tpl tsp tsy tsh kpl ksp ksy ksh bs bt sz nm fd ik psc pnc pdy pzz tsc tnc tdy tzz ksc knc kdy kzz ln so be en va) H → va_S (wA W0) s.heap H locs → ∀ (ls : Array Slot), lv_has ls 6 [(0, .ref a0), (1, .int v1), (3, .int v3), (4, .int v4)] → fX4_load_38 nm fd v1 v3 n v4 psy = some (z0, z1, z2) → W p l e rmX4_load s m av below meth c H locs 0 0 (MQ below (qI D W0 (wX4 cI cS a0 a1 a2 a3 a4 a5 a6 a7 a8 a9 a10 a11 a12 a13 a14 a15 a16 a17 a18 a19 a20 a21 a22 ppl psp z1 psh tpl tsp tsy tsh kpl ksp ksy ksh bs bt sz nm z2 ik psc pnc pdy pzz tsc tnc tdy tzz ksc knc kdy kzz ln so be en va) z0) av s 0 0 (wA W0)) (F0 m 38 ls []) := by
  obtain ⟨hx, hb, hr, hml, hown, hts, hlk, hE⟩ := id C0
  have hinX0 : ∀ w ∈ u_ws RX0 TX0 8, w ∈ wsX4_load := by decide +kernel
  have hinX4 : ∀ w ∈ u_ws RX4 TX4 7, w ∈ wsX4_load := by decide +kernel
  intro n
  induction n with
  | zero =>
    intro v4 psy H locs hP hS ls hl h
    cases (show none = some (z0, z1, z2) from h)
  | succ n ih =>
    intro v4 psy H locs hP hS ls hl h
    rw [fX4_load_38] at h
    refine lv_iload hx hb dX4_load_38 (lv_at hl 3 rfl) ?_
    refine lv_iload_n hx hb dX4_load_40 rfl (lv_at hl 2 rfl) ?_
    refine lv_icmp_ge (tgt := 88) hx hb dX4_load_41 (by decide) (fun c_2 => ?_) (fun c_2 => ?_)
    · have h := ifp c_2 h
      refine lv_iload_n hx hb dX4_load_88 rfl (lv_at hl 2 rfl) ?_
      obtain ⟨q0, g0⟩ := Prod.mk.inj (Option.some.inj h)
      obtain ⟨q1, q2⟩ := Prod.mk.inj g0
      subst q0 q1 q2
      exact eMi C0 hP hS rfl rfl dX4_load_89
    · have h := ifn c_2 h
      refine lv_aload_n hx hb dX4_load_44 rfl (lv_at hl 0 rfl) ?_
      refine va_get (D := D) (ci := 3) (v := .ref a18) (C := RX4) (T := TX4) (N := 7) hx hb hts hinX4 hown hE.1 hP 0 rfl rfl 5 (by decide) (hts _ (List.mem_of_getElem? (i := 1) rfl)) (fun _ h9 => h9) rfl dX4_load_45 ?_
      refine lv_iload_n hx hb dX4_load_48 rfl (lv_at hl 1 rfl) ?_
      refine lv_iload hx hb dX4_load_49 (lv_at hl 3 rfl) ?_
      have hPc := hP.sub (ws' := (wX2 cI cS a18 a19 a20 a21 bt sz nm)) [18, 19, 20, 21] rfl
      refine kRi (rV C0 (tX2_numberOf l D cI cS a18 a19 a20 a21 bt sz nm v1 v4 (fX2_numberOf nm v1 v4) rfl) RX2 gX4_load_X2_numberOf rfl ⟨rfl, rfl⟩ pdX2_numberOf rfl ⟨Nat.le_of_ble_eq_true rfl, Nat.le_of_ble_eq_true rfl⟩ (fun _ _ _ _ q => q) (va_recv hE.1 hPc (ci := 1) (q0 := 0) rfl rfl) (fun U hU _ _ => by rw [hU]; exact hPc) hl.1 rfl (Nat.le_of_ble_eq_true rfl) dX4_load_51 ⟨Nat.zero_le _, Nat.zero_le _⟩) ?_
      refine lv_istore (lv' := [(5, .int (fX2_numberOf nm v1 v4)), (0, .ref a0), (1, .int v1), (3, .int v3), (4, .int v4)]) hx hb dX4_load_54 hl (by decide) rfl (fun ls hl => ?_)
      refine lv_iload hx hb dX4_load_56 (lv_at hl 0 rfl) ?_
      refine lv_iconst (v := 0) hx hb dX4_load_58 (by decide) ?_
      refine lv_bipush (v := 99) hx hb dX4_load_59 (by decide) ?_
      refine kRi (rS C0 (tX4_within l D cI cS (fX2_numberOf nm v1 v4) 0 99 (fX4_within (fX2_numberOf nm v1 v4) 0 99) rfl) gX4_load_X4_within rfl ⟨rfl, rfl⟩ pdX4_within rfl ⟨Nat.le_of_ble_eq_true rfl, Nat.le_of_ble_eq_true rfl⟩ (fun _ _ _ _ q => q) (fun _ _ _ _ => vp0) hl.1 rfl (Nat.le_of_ble_eq_true rfl) dX4_load_61 ⟨Nat.zero_le _, Nat.zero_le _⟩) ?_
      refine lv_if_ne (tgt := 70) hx hb dX4_load_64 (by decide) (fun c_3 => ?_) (fun c_3 => ?_)
      · have h := ifn c_3 h
        refine lv_aload_n hx hb dX4_load_70 rfl (lv_at hl 1 rfl) ?_
        refine va_get (D := D) (ci := 3) (v := .ref a1) (C := RX4) (T := TX4) (N := 7) hx hb hts hinX4 hown hE.1 hP 0 rfl rfl 0 (by decide) (hts _ (List.mem_of_getElem? (i := 2) rfl)) (fun _ h9 => h9) rfl dX4_load_71 ?_
        refine lv_iload hx hb dX4_load_74 (lv_at hl 4 rfl) ?_
        refine lv_iconst (v := 2) hx hb dX4_load_76 (by decide) ?_
        refine lv_iload hx hb dX4_load_77 (lv_at hl 0 rfl) ?_
        have hPc := hP.sub (ws' := (wX0 cI cS a1 a2 a3 a4 a5 ppl psp psy psh psc pnc pdy pzz)) [1, 2, 3, 4, 5] rfl
        refine kMv (wf' := (wX4 cI cS a0 a1 a2 a3 a4 a5 a6 a7 a8 a9 a10 a11 a12 a13 a14 a15 a16 a17 a18 a19 a20 a21 a22 ppl psp (fX0_setOfSaying psy v4 2 (fX2_numberOf nm v1 v4)) psh tpl tsp tsy tsh kpl ksp ksy ksh bs bt sz nm fd ik psc pnc pdy pzz tsc tnc tdy tzz ksc knc kdy kzz ln so be en va)) [1, 2, 3, 4, 5] [none, some 0, some 1, some 2, some 3, some 4, none, none, none, none, none, none, none, none, none, none, none, none, none, none, none, none, none] (rV C0 (tX0_setOfSaying l D cI cS a1 a2 a3 a4 a5 ppl psp psy psh psc pnc pdy pzz v4 2 (fX2_numberOf nm v1 v4) (fX0_setOfSaying psy v4 2 (fX2_numberOf nm v1 v4)) rfl (((hD (wX4 cI cS a0 a1 a2 a3 a4 a5 a6 a7 a8 a9 a10 a11 a12 a13 a14 a15 a16 a17 a18 a19 a20 a21 a22 ppl psp psy psh tpl tsp tsy tsh kpl ksp ksy ksh bs bt sz nm fd ik psc pnc pdy pzz tsc tnc tdy tzz ksc knc kdy kzz ln so be en va) rfl).sub [1, 2, 3, 4, 5] (by decide) rfl).weaken (fun _ _ _ _ => trivial))) RX0 gX4_load_X0_setOfSaying rfl ⟨rfl, rfl⟩ pdX0_setOfSaying rfl ⟨Nat.le_of_ble_eq_true rfl, Nat.le_of_ble_eq_true rfl⟩ (fun _ _ _ _ q => q) (va_recv hE.1 hPc (ci := 0) (q0 := 0) rfl rfl) (fun U hU _ _ => by rw [hU]; exact hPc) hl.1 rfl (Nat.le_of_ble_eq_true rfl) dX4_load_79 ⟨Nat.zero_le _, Nat.zero_le _⟩) hP (hD _ rfl) hS rfl rfl rfl (fun H locs hP hS => ?_)
        refine lv_iinc (v := v4 + 1) (lv' := [(4, .int (v4 + 1)), (5, .int (fX2_numberOf nm v1 v4)), (0, .ref a0), (1, .int v1), (3, .int v3)]) hx hb dX4_load_82 hl (k := 4) rfl rfl (by decide) rfl (fun ls hl => ?_)
        refine lv_goto (tgt := 38) hx hb dX4_load_85 (by decide) ?_
        exact ih (v4 + 1) (fX0_setOfSaying psy v4 2 (fX2_numberOf nm v1 v4)) _ _ hP hS _ (lv_sub hl [2, 3, 4, 0] rfl) h
      · have h := ifp c_3 h
        refine lv_iload hx hb dX4_load_67 (lv_at hl 4 rfl) ?_
        obtain ⟨q0, g0⟩ := Prod.mk.inj (Option.some.inj h)
        obtain ⟨q1, q2⟩ := Prod.mk.inj g0
        subst q0 q1 q2
        exact eMi C0 hP hS rfl rfl dX4_load_69
set_option maxHeartbeats 4000000 in
set_option maxRecDepth 100000 in
theorem tX4_load (l : Launch) (D : va_G) (cI cS : ClassId) (F : Nat) (a0 a1 a2 a3 a4 a5 a6 a7 a8 a9 a10 a11 a12 a13 a14 a15 a16 a17 a18 a19 a20 a21 a22 : Nat) (ppl : Nat → Int32) (psp : Nat → Int32) (psy : Nat → Int32) (psh : Nat → Int32) (tpl : Nat → Int32) (tsp : Nat → Int32) (tsy : Nat → Int32) (tsh : Nat → Int32) (kpl : Nat → Int32) (ksp : Nat → Int32) (ksy : Nat → Int32) (ksh : Nat → Int32) (bs : Nat → Int32) (bt : Nat → Int32) (sz : Nat → Int32) (nm : Nat → Int32) (fd : Nat → Int32) (ik : Int32) (psc : Int32) (pnc : Int32) (pdy : Int32) (pzz : Int32) (tsc : Int32) (tnc : Int32) (tdy : Int32) (tzz : Int32) (ksc : Int32) (knc : Int32) (kdy : Int32) (kzz : Int32) (ln : Int32) (so : Int32) (be : Int32) (en : Int32) (va : Int32) (v1 : Int32) (z0 : Int32) (z1 : Nat → Int32) (z2 : Nat → Int32) (h : fX4_load F psy bt sz nm fd psc v1 = some (z0, z1, z2)) (hD0 : va_D (fun _ => True) (wX4 cI cS a0 a1 a2 a3 a4 a5 a6 a7 a8 a9 a10 a11 a12 a13 a14 a15 a16 a17 a18 a19 a20 a21 a22 ppl psp psy psh tpl tsp tsy tsh kpl ksp ksy ksh bs bt sz nm fd ik psc pnc pdy pzz tsc tnc tdy tzz ksc knc kdy kzz ln so be en va)) : Met l yX4_load wsX4_load rmX4_load (PZ D cI cS [.ref a0, .int v1] (fun U => va_P D vwCl (wX4 cI cS a0 a1 a2 a3 a4 a5 a6 a7 a8 a9 a10 a11 a12 a13 a14 a15 a16 a17 a18 a19 a20 a21 a22 ppl psp psy psh tpl tsp tsy tsh kpl ksp ksy ksh bs bt sz nm fd ik psc pnc pdy pzz tsc tnc tdy tzz ksc knc kdy kzz ln so be en va) U.heap)) (qI D (wX4 cI cS a0 a1 a2 a3 a4 a5 a6 a7 a8 a9 a10 a11 a12 a13 a14 a15 a16 a17 a18 a19 a20 a21 a22 ppl psp psy psh tpl tsp tsy tsh kpl ksp ksy ksh bs bt sz nm fd ik psc pnc pdy pzz tsc tnc tdy tzz ksc knc kdy kzz ln so be en va) (wX4 cI cS a0 a1 a2 a3 a4 a5 a6 a7 a8 a9 a10 a11 a12 a13 a14 a15 a16 a17 a18 a19 a20 a21 a22 ppl psp z1 psh tpl tsp tsy tsh kpl ksp ksy ksh bs bt sz nm z2 ik psc pnc pdy pzz tsc tnc tdy tzz ksc knc kdy kzz ln so be en va) z0) 0 0 (wA (wX4 cI cS a0 a1 a2 a3 a4 a5 a6 a7 a8 a9 a10 a11 a12 a13 a14 a15 a16 a17 a18 a19 a20 a21 a22 ppl psp psy psh tpl tsp tsy tsh kpl ksp ksy ksh bs bt sz nm fd ik psc pnc pdy pzz tsc tnc tdy tzz ksc knc kdy kzz ln so be en va)) := by
  refine Met.mk RX4 (by decide) rfl rfl (Nat.le_of_ble_eq_true rfl) ?_
  intro p e s m below meth c ls C0 hP hl
  have hl : lv_has ls 6 [(0, .ref a0), (1, .int v1)] := hl
  obtain ⟨hx, hb, hr, hml, hown, hts, hlk, hE⟩ := id C0
  have hinX0 : ∀ w ∈ u_ws RX0 TX0 8, w ∈ wsX4_load := by decide +kernel
  have hinX4 : ∀ w ∈ u_ws RX4 TX4 7, w ∈ wsX4_load := by decide +kernel
  have hD : ∀ W : va_W, W.map Prod.fst = [a0, a1, a2, a3, a4, a5, a6, a7, a8, a9, a10, a11, a12, a13, a14, a15, a16, a17, a18, a19, a20, a21, a22] → va_D (wA (wX4 cI cS a0 a1 a2 a3 a4 a5 a6 a7 a8 a9 a10 a11 a12 a13 a14 a15 a16 a17 a18 a19 a20 a21 a22 ppl psp psy psh tpl tsp tsy tsh kpl ksp ksy ksh bs bt sz nm fd ik psc pnc pdy pzz tsc tnc tdy tzz ksc knc kdy kzz ln so be en va)) W := fun W hW => hD0.own.re hW
  have hS : va_S (wA (wX4 cI cS a0 a1 a2 a3 a4 a5 a6 a7 a8 a9 a10 a11 a12 a13 a14 a15 a16 a17 a18 a19 a20 a21 a22 ppl psp psy psh tpl tsp tsy tsh kpl ksp ksy ksh bs bt sz nm fd ik psc pnc pdy pzz tsc tnc tdy tzz ksc knc kdy kzz ln so be en va)) s.heap s.heap [] := va_S.rf
  have hP : va_P D vwCl (wX4 cI cS a0 a1 a2 a3 a4 a5 a6 a7 a8 a9 a10 a11 a12 a13 a14 a15 a16 a17 a18 a19 a20 a21 a22 ppl psp psy psh tpl tsp tsy tsh kpl ksp ksy ksh bs bt sz nm fd ik psc pnc pdy pzz tsc tnc tdy tzz ksc knc kdy kzz ln so be en va) s.heap := hP
  rw [fX4_load] at h
  refine lv_aload_n hx hb dX4_load_0 rfl (lv_at hl 0 rfl) ?_
  refine lv_iload_n hx hb dX4_load_1 rfl (lv_at hl 1 rfl) ?_
  have hPc := hP.sub (ws' := (wX4 cI cS a0 a1 a2 a3 a4 a5 a6 a7 a8 a9 a10 a11 a12 a13 a14 a15 a16 a17 a18 a19 a20 a21 a22 ppl psp psy psh tpl tsp tsy tsh kpl ksp ksy ksh bs bt sz nm fd ik psc pnc pdy pzz tsc tnc tdy tzz ksc knc kdy kzz ln so be en va)) [0, 1, 2, 3, 4, 5, 6, 7, 8, 9, 10, 11, 12, 13, 14, 15, 16, 17, 18, 19, 20, 21, 22] rfl
  refine kRi (rV C0 (tX4_faultOfSheet l D cI cS a0 a1 a2 a3 a4 a5 a6 a7 a8 a9 a10 a11 a12 a13 a14 a15 a16 a17 a18 a19 a20 a21 a22 ppl psp psy psh tpl tsp tsy tsh kpl ksp ksy ksh bs bt sz nm fd ik psc pnc pdy pzz tsc tnc tdy tzz ksc knc kdy kzz ln so be en va v1 (fX4_faultOfSheet bt v1) rfl) RX4 gX4_load_X4_faultOfSheet rfl ⟨rfl, rfl⟩ pdX4_faultOfSheet rfl ⟨Nat.le_of_ble_eq_true rfl, Nat.le_of_ble_eq_true rfl⟩ (fun _ _ _ _ q => q) (va_recv hE.1 hPc (ci := 3) (q0 := 0) rfl rfl) (fun U hU _ _ => by rw [hU]; exact hPc) hl.1 rfl (Nat.le_of_ble_eq_true rfl) dX4_load_2 ⟨Nat.zero_le _, Nat.zero_le _⟩) ?_
  refine lv_istore_n (lv' := [(2, .int (fX4_faultOfSheet bt v1)), (0, .ref a0), (1, .int v1)]) hx hb dX4_load_5 rfl hl (by decide) rfl (fun ls hl => ?_)
  refine lv_iload_n hx hb dX4_load_6 rfl (lv_at hl 0 rfl) ?_
  refine lv_if_eq (tgt := 16) hx hb dX4_load_7 (by decide) (fun c_1 => ?_) (fun c_1 => ?_)
  · have h := ifp c_1 h
    refine lv_aload_n hx hb dX4_load_16 rfl (lv_at hl 1 rfl) ?_
    refine va_get (D := D) (ci := 3) (v := .ref a18) (C := RX4) (T := TX4) (N := 7) hx hb hts hinX4 hown hE.1 hP 0 rfl rfl 5 (by decide) (hts _ (List.mem_of_getElem? (i := 1) rfl)) (fun _ h9 => h9) rfl dX4_load_17 ?_
    refine lv_iload_n hx hb dX4_load_20 rfl (lv_at hl 2 rfl) ?_
    have hPc := hP.sub (ws' := (wX2 cI cS a18 a19 a20 a21 bt sz nm)) [18, 19, 20, 21] rfl
    refine kRi (rV C0 (tX2_sizeOf l D cI cS a18 a19 a20 a21 bt sz nm v1 (fX2_sizeOf sz v1) rfl) RX2 gX4_load_X2_sizeOf rfl ⟨rfl, rfl⟩ pdX2_sizeOf rfl ⟨Nat.le_of_ble_eq_true rfl, Nat.le_of_ble_eq_true rfl⟩ (fun _ _ _ _ q => q) (va_recv hE.1 hPc (ci := 1) (q0 := 0) rfl rfl) (fun U hU _ _ => by rw [hU]; exact hPc) hl.1 rfl (Nat.le_of_ble_eq_true rfl) dX4_load_21 ⟨Nat.zero_le _, Nat.zero_le _⟩) ?_
    refine lv_aload_n hx hb dX4_load_24 rfl (lv_at hl 1 rfl) ?_
    refine va_get (D := D) (ci := 3) (v := .ref a1) (C := RX4) (T := TX4) (N := 7) hx hb hts hinX4 hown hE.1 hP 0 rfl rfl 0 (by decide) (hts _ (List.mem_of_getElem? (i := 2) rfl)) (fun _ h9 => h9) rfl dX4_load_25 ?_
    refine va_getN (D := D) (ci := 0) (v := .int psc) (C := RX0) (T := TX0) (N := 8) hx hb hts hinX0 hown hE.1 hP 1 rfl rfl 4 (by decide) (va_Nw.use rfl (hE.2 _ (List.mem_of_getElem? (i := 0) rfl))) (fun _ h9 => h9) rfl dX4_load_28 ?_
    refine va_mmin hx hb (hml.trans hl.1.symm) hown (hts _ (List.mem_of_getElem? (i := 3) rfl)) (hts _ (List.mem_of_getElem? (i := 4) rfl)) (hts _ (List.mem_of_getElem? (i := 5) rfl)) (hts _ (List.mem_of_getElem? (i := 6) rfl)) (Nat.le_of_ble_eq_true rfl) (Nat.le_of_ble_eq_true rfl) (Nat.zero_le _) (Nat.zero_le _) dX4_load_31 ?_
    refine lv_istore_n (lv' := [(3, .int (if psc < (fX2_sizeOf sz v1) then psc else (fX2_sizeOf sz v1))), (2, .int (fX4_faultOfSheet bt v1)), (0, .ref a0), (1, .int v1)]) hx hb dX4_load_34 rfl hl (by decide) rfl (fun ls hl => ?_)
    refine lv_iconst (v := 0) hx hb dX4_load_35 (by decide) ?_
    refine lv_istore (lv' := [(4, .int 0), (3, .int (if psc < (fX2_sizeOf sz v1) then psc else (fX2_sizeOf sz v1))), (2, .int (fX4_faultOfSheet bt v1)), (0, .ref a0), (1, .int v1)]) hx hb dX4_load_36 hl (by decide) rfl (fun ls hl => ?_)
    exact lX4_load_38 (l := l) (e := e) (below := below) C0 F ppl psp psh tpl tsp tsy tsh kpl ksp ksy ksh bs bt sz nm fd ik psc pnc pdy pzz tsc tnc tdy tzz ksc knc kdy kzz ln so be en va v1 (if psc < (fX2_sizeOf sz v1) then psc else (fX2_sizeOf sz v1)) z0 z1 z2 hD F 0 psy _ _ hP hS _ (lv_sub hl [3, 4, 1, 0] rfl) h
  · have h := ifn c_1 h
    refine lv_aload_n hx hb dX4_load_10 rfl (lv_at hl 1 rfl) ?_
    refine lv_iload_n hx hb dX4_load_11 rfl (lv_at hl 0 rfl) ?_
    have hPc := hP.sub (ws' := (wX4 cI cS a0 a1 a2 a3 a4 a5 a6 a7 a8 a9 a10 a11 a12 a13 a14 a15 a16 a17 a18 a19 a20 a21 a22 ppl psp psy psh tpl tsp tsy tsh kpl ksp ksy ksh bs bt sz nm fd ik psc pnc pdy pzz tsc tnc tdy tzz ksc knc kdy kzz ln so be en va)) [0, 1, 2, 3, 4, 5, 6, 7, 8, 9, 10, 11, 12, 13, 14, 15, 16, 17, 18, 19, 20, 21, 22] rfl
    refine kMi (wf' := (wX4 cI cS a0 a1 a2 a3 a4 a5 a6 a7 a8 a9 a10 a11 a12 a13 a14 a15 a16 a17 a18 a19 a20 a21 a22 ppl psp psy psh tpl tsp tsy tsh kpl ksp ksy ksh bs bt sz nm (fX4_finding_o1 fd (fX4_faultOfSheet bt v1)) ik psc pnc pdy pzz tsc tnc tdy tzz ksc knc kdy kzz ln so be en va)) [0, 1, 2, 3, 4, 5, 6, 7, 8, 9, 10, 11, 12, 13, 14, 15, 16, 17, 18, 19, 20, 21, 22] [some 0, some 1, some 2, some 3, some 4, some 5, some 6, some 7, some 8, some 9, some 10, some 11, some 12, some 13, some 14, some 15, some 16, some 17, some 18, some 19, some 20, some 21, some 22] (rV C0 (tX4_finding l D cI cS a0 a1 a2 a3 a4 a5 a6 a7 a8 a9 a10 a11 a12 a13 a14 a15 a16 a17 a18 a19 a20 a21 a22 ppl psp psy psh tpl tsp tsy tsh kpl ksp ksy ksh bs bt sz nm fd ik psc pnc pdy pzz tsc tnc tdy tzz ksc knc kdy kzz ln so be en va (fX4_faultOfSheet bt v1) (fX4_faultOfSheet bt v1) (fX4_finding_o1 fd (fX4_faultOfSheet bt v1)) (eeX4_finding ..) (((hD (wX4 cI cS a0 a1 a2 a3 a4 a5 a6 a7 a8 a9 a10 a11 a12 a13 a14 a15 a16 a17 a18 a19 a20 a21 a22 ppl psp psy psh tpl tsp tsy tsh kpl ksp ksy ksh bs bt sz nm fd ik psc pnc pdy pzz tsc tnc tdy tzz ksc knc kdy kzz ln so be en va) rfl).sub [0, 1, 2, 3, 4, 5, 6, 7, 8, 9, 10, 11, 12, 13, 14, 15, 16, 17, 18, 19, 20, 21, 22] (by decide) rfl).weaken (fun _ _ _ _ => trivial))) RX4 gX4_load_X4_finding rfl ⟨rfl, rfl⟩ pdX4_finding rfl ⟨Nat.le_of_ble_eq_true rfl, Nat.le_of_ble_eq_true rfl⟩ (fun _ _ _ _ q => q) (va_recv hE.1 hPc (ci := 3) (q0 := 0) rfl rfl) (fun U hU _ _ => by rw [hU]; exact hPc) hl.1 rfl (Nat.le_of_ble_eq_true rfl) dX4_load_12 ⟨Nat.zero_le _, Nat.zero_le _⟩) hP (hD _ rfl) hS rfl rfl rfl (fun H locs hP hS => ?_)
    obtain ⟨q0, g0⟩ := Prod.mk.inj (Option.some.inj h)
    obtain ⟨q1, q2⟩ := Prod.mk.inj g0
    subst q0 q1 q2
    exact eMi C0 hP hS rfl rfl dX4_load_15
def fX4_judge_18 (psh : Nat → Int32) (sz : Nat → Int32) (nm : Nat → Int32) (fd : Nat → Int32) (pnc : Int32) (v1 : Int32) : Nat → Int32 → Option (Int32 × (Nat → Int32))
  | 0, _ => none
  | n + 1, v3 => (if (fX2_sizeOf sz v1) ≤ v3 then some (0, fd) else (if (fX0_hasShip pnc v3) = 0 then some (1 + v3, fd) else (if (fX0_shipHas psh v3 0) = (fX2_numberOf nm v1 v3) then fX4_judge_18 psh sz nm fd pnc v1 n (v3 + 1) else some (1 + v3, fd))))
def fX4_judge (F : Nat) (psh : Nat → Int32) (bt : Nat → Int32) (sz : Nat → Int32) (nm : Nat → Int32) (fd : Nat → Int32) (pnc : Int32) (v1 : Int32) : Option (Int32 × (Nat → Int32)) := (if (fX4_faultOfSheet bt v1) = 0 then fX4_judge_18 psh sz nm fd pnc v1 F 0 else some ((fX4_faultOfSheet bt v1), fX4_finding_o1 fd (fX4_faultOfSheet bt v1)))
abbrev rmX4_judge : Room := { frames := 4, cells := 0, slots := 0, locals := 84 }
theorem pdX4_judge : (yX4_judge.cls = RX4 ∧ yX4_judge.cls ≠ "java/lang/invoke/MethodHandle" ∧ yX4_judge.cls ≠ "java/lang/invoke/VarHandle" ∧ (parseMethodDescriptor yX4_judge.desc).map (fun d => d.parameters.length) = some 1) := by decide +kernel
set_option maxHeartbeats 4000000 in
set_option maxRecDepth 100000 in
theorem lX4_judge_18 {p : Program} {l : Launch} {e : Env} {s : State} {m : MethodId} {av : Array Value} {below : List Frame} {meth : Method} {c : Code} {D : va_G} {cI cS : ClassId} {a0 a1 a2 a3 a4 a5 a6 a7 a8 a9 a10 a11 a12 a13 a14 a15 a16 a17 a18 a19 a20 a21 a22 : Nat} {W0 : va_W} (C0 : CX p s m av meth c RX4 cX4_judge 4 (some .int) wsX4_judge D cI cS) (F : Nat) (ppl : Nat → Int32) (psp : Nat → Int32) (psy : Nat → Int32) (psh : Nat → Int32) (tpl : Nat → Int32) (tsp : Nat → Int32) (tsy : Nat → Int32) (tsh : Nat → Int32) (kpl : Nat → Int32) (ksp : Nat → Int32) (ksy : Nat → Int32) (ksh : Nat → Int32) (bs : Nat → Int32) (bt : Nat → Int32) (sz : Nat → Int32) (nm : Nat → Int32) (fd : Nat → Int32) (ik : Int32) (psc : Int32) (pnc : Int32) (pdy : Int32) (pzz : Int32) (tsc : Int32) (tnc : Int32) (tdy : Int32) (tzz : Int32) (ksc : Int32) (knc : Int32) (kdy : Int32) (kzz : Int32) (ln : Int32) (so : Int32) (be : Int32) (en : Int32) (va : Int32) (v1 : Int32) (z0 : Int32) (z1 : Nat → Int32) (hD : ∀ W : va_W, W.map Prod.fst = [a0, a1, a2, a3, a4, a5, a6, a7, a8, a9, a10, a11, a12, a13, a14, a15, a16, a17, a18, a19, a20, a21, a22] → va_D (wA W0) W) : ∀ (n : Nat) (v3 : Int32) (H : Heap) (locs : List Loc), va_P D vwCl (wX4 cI cS a0 a1 a2 a3 a4 a5 a6 a7 a8 a9 a10 a11 a12 a13 a14 a15 a16 a17 a18 a19 a20 a21 a22 ppl psp psy psh tpl tsp tsy tsh kpl ksp ksy ksh bs bt sz nm fd ik psc pnc pdy pzz tsc tnc tdy tzz ksc knc kdy kzz ln so be en va) H → va_S (wA W0) s.heap H locs → ∀ (ls : Array Slot), lv_has ls 4 [(0, .ref a0), (1, .int v1), (3, .int v3)] → fX4_judge_18 psh sz nm fd pnc v1 n v3 = some (z0, z1) → W p l e rmX4_judge s m av below meth c H locs 0 0 (MQ below (qI D W0 (wX4 cI cS a0 a1 a2 a3 a4 a5 a6 a7 a8 a9 a10 a11 a12 a13 a14 a15 a16 a17 a18 a19 a20 a21 a22 ppl psp psy psh tpl tsp tsy tsh kpl ksp ksy ksh bs bt sz nm z1 ik psc pnc pdy pzz tsc tnc tdy tzz ksc knc kdy kzz ln so be en va) z0) av s 0 0 (wA W0)) (F0 m 18 ls []) := by
  obtain ⟨hx, hb, hr, hml, hown, hts, hlk, hE⟩ := id C0
  have hinX4 : ∀ w ∈ u_ws RX4 TX4 7, w ∈ wsX4_judge := by decide +kernel
  intro n
  induction n with
  | zero =>
    intro v3 H locs hP hS ls hl h
    cases (show none = some (z0, z1) from h)
  | succ n ih =>
    intro v3 H locs hP hS ls hl h
    rw [fX4_judge_18] at h
    refine lv_iload_n hx hb dX4_judge_18 rfl (lv_at hl 2 rfl) ?_
    refine lv_aload_n hx hb dX4_judge_19 rfl (lv_at hl 0 rfl) ?_
    refine va_get (D := D) (ci := 3) (v := .ref a18) (C := RX4) (T := TX4) (N := 7) hx hb hts hinX4 hown hE.1 hP 0 rfl rfl 5 (by decide) (hts _ (List.mem_of_getElem? (i := 1) rfl)) (fun _ h9 => h9) rfl dX4_judge_20 ?_
    refine lv_iload_n hx hb dX4_judge_23 rfl (lv_at hl 1 rfl) ?_
    have hPc := hP.sub (ws' := (wX2 cI cS a18 a19 a20 a21 bt sz nm)) [18, 19, 20, 21] rfl
    refine kRi (rV C0 (tX2_sizeOf l D cI cS a18 a19 a20 a21 bt sz nm v1 (fX2_sizeOf sz v1) rfl) RX2 gX4_judge_X2_sizeOf rfl ⟨rfl, rfl⟩ pdX2_sizeOf rfl ⟨Nat.le_of_ble_eq_true rfl, Nat.le_of_ble_eq_true rfl⟩ (fun _ _ _ _ q => q) (va_recv hE.1 hPc (ci := 1) (q0 := 0) rfl rfl) (fun U hU _ _ => by rw [hU]; exact hPc) hl.1 rfl (Nat.le_of_ble_eq_true rfl) dX4_judge_24 ⟨Nat.zero_le _, Nat.zero_le _⟩) ?_
    refine lv_icmp_ge (tgt := 72) hx hb dX4_judge_27 (by decide) (fun c_2 => ?_) (fun c_2 => ?_)
    · have h := ifp c_2 h
      refine lv_iconst (v := 0) hx hb dX4_judge_72 (by decide) ?_
      obtain ⟨q0, q1⟩ := Prod.mk.inj (Option.some.inj h)
      subst q0 q1
      exact eMi C0 hP hS rfl rfl dX4_judge_73
    · have h := ifn c_2 h
      refine lv_aload_n hx hb dX4_judge_30 rfl (lv_at hl 0 rfl) ?_
      refine va_get (D := D) (ci := 3) (v := .ref a1) (C := RX4) (T := TX4) (N := 7) hx hb hts hinX4 hown hE.1 hP 0 rfl rfl 0 (by decide) (hts _ (List.mem_of_getElem? (i := 2) rfl)) (fun _ h9 => h9) rfl dX4_judge_31 ?_
      refine lv_iload_n hx hb dX4_judge_34 rfl (lv_at hl 2 rfl) ?_
      have hPc := hP.sub (ws' := (wX0 cI cS a1 a2 a3 a4 a5 ppl psp psy psh psc pnc pdy pzz)) [1, 2, 3, 4, 5] rfl
      refine kRi (rV C0 (tX0_hasShip l D cI cS a1 a2 a3 a4 a5 ppl psp psy psh psc pnc pdy pzz v3 (fX0_hasShip pnc v3) rfl) RX0 gX4_judge_X0_hasShip rfl ⟨rfl, rfl⟩ pdX0_hasShip rfl ⟨Nat.le_of_ble_eq_true rfl, Nat.le_of_ble_eq_true rfl⟩ (fun _ _ _ _ q => q) (va_recv hE.1 hPc (ci := 0) (q0 := 0) rfl rfl) (fun U hU _ _ => by rw [hU]; exact hPc) hl.1 rfl (Nat.le_of_ble_eq_true rfl) dX4_judge_35 ⟨Nat.zero_le _, Nat.zero_le _⟩) ?_
      refine lv_if_eq (tgt := 62) hx hb dX4_judge_38 (by decide) (fun c_3 => ?_) (fun c_3 => ?_)
      · have h := ifp c_3 h
        refine lv_iconst (v := 1) hx hb dX4_judge_62 (by decide) ?_
        refine lv_iload_n hx hb dX4_judge_63 rfl (lv_at hl 2 rfl) ?_
        refine lv_iadd hx hb dX4_judge_64 ?_
        obtain ⟨q0, q1⟩ := Prod.mk.inj (Option.some.inj h)
        subst q0 q1
        exact eMi C0 hP hS rfl rfl dX4_judge_65
      · have h := ifn c_3 h
        refine lv_aload_n hx hb dX4_judge_41 rfl (lv_at hl 0 rfl) ?_
        refine va_get (D := D) (ci := 3) (v := .ref a1) (C := RX4) (T := TX4) (N := 7) hx hb hts hinX4 hown hE.1 hP 0 rfl rfl 0 (by decide) (hts _ (List.mem_of_getElem? (i := 2) rfl)) (fun _ h9 => h9) rfl dX4_judge_42 ?_
        refine lv_iload_n hx hb dX4_judge_45 rfl (lv_at hl 2 rfl) ?_
        refine lv_iconst (v := 0) hx hb dX4_judge_46 (by decide) ?_
        have hPc := hP.sub (ws' := (wX0 cI cS a1 a2 a3 a4 a5 ppl psp psy psh psc pnc pdy pzz)) [1, 2, 3, 4, 5] rfl
        refine kRi (rV C0 (tX0_shipHas l D cI cS a1 a2 a3 a4 a5 ppl psp psy psh psc pnc pdy pzz v3 0 (fX0_shipHas psh v3 0) rfl) RX0 gX4_judge_X0_shipHas rfl ⟨rfl, rfl⟩ pdX0_shipHas rfl ⟨Nat.le_of_ble_eq_true rfl, Nat.le_of_ble_eq_true rfl⟩ (fun _ _ _ _ q => q) (va_recv hE.1 hPc (ci := 0) (q0 := 0) rfl rfl) (fun U hU _ _ => by rw [hU]; exact hPc) hl.1 rfl (Nat.le_of_ble_eq_true rfl) dX4_judge_47 ⟨Nat.zero_le _, Nat.zero_le _⟩) ?_
        refine lv_aload_n hx hb dX4_judge_50 rfl (lv_at hl 0 rfl) ?_
        refine va_get (D := D) (ci := 3) (v := .ref a18) (C := RX4) (T := TX4) (N := 7) hx hb hts hinX4 hown hE.1 hP 0 rfl rfl 5 (by decide) (hts _ (List.mem_of_getElem? (i := 1) rfl)) (fun _ h9 => h9) rfl dX4_judge_51 ?_
        refine lv_iload_n hx hb dX4_judge_54 rfl (lv_at hl 1 rfl) ?_
        refine lv_iload_n hx hb dX4_judge_55 rfl (lv_at hl 2 rfl) ?_
        have hPc := hP.sub (ws' := (wX2 cI cS a18 a19 a20 a21 bt sz nm)) [18, 19, 20, 21] rfl
        refine kRi (rV C0 (tX2_numberOf l D cI cS a18 a19 a20 a21 bt sz nm v1 v3 (fX2_numberOf nm v1 v3) rfl) RX2 gX4_judge_X2_numberOf rfl ⟨rfl, rfl⟩ pdX2_numberOf rfl ⟨Nat.le_of_ble_eq_true rfl, Nat.le_of_ble_eq_true rfl⟩ (fun _ _ _ _ q => q) (va_recv hE.1 hPc (ci := 1) (q0 := 0) rfl rfl) (fun U hU _ _ => by rw [hU]; exact hPc) hl.1 rfl (Nat.le_of_ble_eq_true rfl) dX4_judge_56 ⟨Nat.zero_le _, Nat.zero_le _⟩) ?_
        refine lv_icmp_eq (tgt := 66) hx hb dX4_judge_59 (by decide) (fun c_4 => ?_) (fun c_4 => ?_)
        · have h := ifp c_4 h
          refine lv_iinc (v := v3 + 1) (lv' := [(3, .int (v3 + 1)), (0, .ref a0), (1, .int v1)]) hx hb dX4_judge_66 hl (k := 2) rfl rfl (by decide) rfl (fun ls hl => ?_)
          refine lv_goto (tgt := 18) hx hb dX4_judge_69 (by decide) ?_
          exact ih (v3 + 1) _ _ hP hS _ (lv_sub hl [1, 2, 0] rfl) h
        · have h := ifn c_4 h
          refine lv_iconst (v := 1) hx hb dX4_judge_62 (by decide) ?_
          refine lv_iload_n hx hb dX4_judge_63 rfl (lv_at hl 2 rfl) ?_
          refine lv_iadd hx hb dX4_judge_64 ?_
          obtain ⟨q0, q1⟩ := Prod.mk.inj (Option.some.inj h)
          subst q0 q1
          exact eMi C0 hP hS rfl rfl dX4_judge_65
set_option maxHeartbeats 4000000 in
set_option maxRecDepth 100000 in
theorem tX4_judge (l : Launch) (D : va_G) (cI cS : ClassId) (F : Nat) (a0 a1 a2 a3 a4 a5 a6 a7 a8 a9 a10 a11 a12 a13 a14 a15 a16 a17 a18 a19 a20 a21 a22 : Nat) (ppl : Nat → Int32) (psp : Nat → Int32) (psy : Nat → Int32) (psh : Nat → Int32) (tpl : Nat → Int32) (tsp : Nat → Int32) (tsy : Nat → Int32) (tsh : Nat → Int32) (kpl : Nat → Int32) (ksp : Nat → Int32) (ksy : Nat → Int32) (ksh : Nat → Int32) (bs : Nat → Int32) (bt : Nat → Int32) (sz : Nat → Int32) (nm : Nat → Int32) (fd : Nat → Int32) (ik : Int32) (psc : Int32) (pnc : Int32) (pdy : Int32) (pzz : Int32) (tsc : Int32) (tnc : Int32) (tdy : Int32) (tzz : Int32) (ksc : Int32) (knc : Int32) (kdy : Int32) (kzz : Int32) (ln : Int32) (so : Int32) (be : Int32) (en : Int32) (va : Int32) (v1 : Int32) (z0 : Int32) (z1 : Nat → Int32) (h : fX4_judge F psh bt sz nm fd pnc v1 = some (z0, z1)) (hD0 : va_D (fun _ => True) (wX4 cI cS a0 a1 a2 a3 a4 a5 a6 a7 a8 a9 a10 a11 a12 a13 a14 a15 a16 a17 a18 a19 a20 a21 a22 ppl psp psy psh tpl tsp tsy tsh kpl ksp ksy ksh bs bt sz nm fd ik psc pnc pdy pzz tsc tnc tdy tzz ksc knc kdy kzz ln so be en va)) : Met l yX4_judge wsX4_judge rmX4_judge (PZ D cI cS [.ref a0, .int v1] (fun U => va_P D vwCl (wX4 cI cS a0 a1 a2 a3 a4 a5 a6 a7 a8 a9 a10 a11 a12 a13 a14 a15 a16 a17 a18 a19 a20 a21 a22 ppl psp psy psh tpl tsp tsy tsh kpl ksp ksy ksh bs bt sz nm fd ik psc pnc pdy pzz tsc tnc tdy tzz ksc knc kdy kzz ln so be en va) U.heap)) (qI D (wX4 cI cS a0 a1 a2 a3 a4 a5 a6 a7 a8 a9 a10 a11 a12 a13 a14 a15 a16 a17 a18 a19 a20 a21 a22 ppl psp psy psh tpl tsp tsy tsh kpl ksp ksy ksh bs bt sz nm fd ik psc pnc pdy pzz tsc tnc tdy tzz ksc knc kdy kzz ln so be en va) (wX4 cI cS a0 a1 a2 a3 a4 a5 a6 a7 a8 a9 a10 a11 a12 a13 a14 a15 a16 a17 a18 a19 a20 a21 a22 ppl psp psy psh tpl tsp tsy tsh kpl ksp ksy ksh bs bt sz nm z1 ik psc pnc pdy pzz tsc tnc tdy tzz ksc knc kdy kzz ln so be en va) z0) 0 0 (wA (wX4 cI cS a0 a1 a2 a3 a4 a5 a6 a7 a8 a9 a10 a11 a12 a13 a14 a15 a16 a17 a18 a19 a20 a21 a22 ppl psp psy psh tpl tsp tsy tsh kpl ksp ksy ksh bs bt sz nm fd ik psc pnc pdy pzz tsc tnc tdy tzz ksc knc kdy kzz ln so be en va)) := by
  refine Met.mk RX4 (by decide) rfl rfl (Nat.le_of_ble_eq_true rfl) ?_
  intro p e s m below meth c ls C0 hP hl
  have hl : lv_has ls 4 [(0, .ref a0), (1, .int v1)] := hl
  obtain ⟨hx, hb, hr, hml, hown, hts, hlk, hE⟩ := id C0
  have hinX4 : ∀ w ∈ u_ws RX4 TX4 7, w ∈ wsX4_judge := by decide +kernel
  have hD : ∀ W : va_W, W.map Prod.fst = [a0, a1, a2, a3, a4, a5, a6, a7, a8, a9, a10, a11, a12, a13, a14, a15, a16, a17, a18, a19, a20, a21, a22] → va_D (wA (wX4 cI cS a0 a1 a2 a3 a4 a5 a6 a7 a8 a9 a10 a11 a12 a13 a14 a15 a16 a17 a18 a19 a20 a21 a22 ppl psp psy psh tpl tsp tsy tsh kpl ksp ksy ksh bs bt sz nm fd ik psc pnc pdy pzz tsc tnc tdy tzz ksc knc kdy kzz ln so be en va)) W := fun W hW => hD0.own.re hW
  have hS : va_S (wA (wX4 cI cS a0 a1 a2 a3 a4 a5 a6 a7 a8 a9 a10 a11 a12 a13 a14 a15 a16 a17 a18 a19 a20 a21 a22 ppl psp psy psh tpl tsp tsy tsh kpl ksp ksy ksh bs bt sz nm fd ik psc pnc pdy pzz tsc tnc tdy tzz ksc knc kdy kzz ln so be en va)) s.heap s.heap [] := va_S.rf
  have hP : va_P D vwCl (wX4 cI cS a0 a1 a2 a3 a4 a5 a6 a7 a8 a9 a10 a11 a12 a13 a14 a15 a16 a17 a18 a19 a20 a21 a22 ppl psp psy psh tpl tsp tsy tsh kpl ksp ksy ksh bs bt sz nm fd ik psc pnc pdy pzz tsc tnc tdy tzz ksc knc kdy kzz ln so be en va) s.heap := hP
  rw [fX4_judge] at h
  refine lv_aload_n hx hb dX4_judge_0 rfl (lv_at hl 0 rfl) ?_
  refine lv_iload_n hx hb dX4_judge_1 rfl (lv_at hl 1 rfl) ?_
  have hPc := hP.sub (ws' := (wX4 cI cS a0 a1 a2 a3 a4 a5 a6 a7 a8 a9 a10 a11 a12 a13 a14 a15 a16 a17 a18 a19 a20 a21 a22 ppl psp psy psh tpl tsp tsy tsh kpl ksp ksy ksh bs bt sz nm fd ik psc pnc pdy pzz tsc tnc tdy tzz ksc knc kdy kzz ln so be en va)) [0, 1, 2, 3, 4, 5, 6, 7, 8, 9, 10, 11, 12, 13, 14, 15, 16, 17, 18, 19, 20, 21, 22] rfl
  refine kRi (rV C0 (tX4_faultOfSheet l D cI cS a0 a1 a2 a3 a4 a5 a6 a7 a8 a9 a10 a11 a12 a13 a14 a15 a16 a17 a18 a19 a20 a21 a22 ppl psp psy psh tpl tsp tsy tsh kpl ksp ksy ksh bs bt sz nm fd ik psc pnc pdy pzz tsc tnc tdy tzz ksc knc kdy kzz ln so be en va v1 (fX4_faultOfSheet bt v1) rfl) RX4 gX4_judge_X4_faultOfSheet rfl ⟨rfl, rfl⟩ pdX4_faultOfSheet rfl ⟨Nat.le_of_ble_eq_true rfl, Nat.le_of_ble_eq_true rfl⟩ (fun _ _ _ _ q => q) (va_recv hE.1 hPc (ci := 3) (q0 := 0) rfl rfl) (fun U hU _ _ => by rw [hU]; exact hPc) hl.1 rfl (Nat.le_of_ble_eq_true rfl) dX4_judge_2 ⟨Nat.zero_le _, Nat.zero_le _⟩) ?_
  refine lv_istore_n (lv' := [(2, .int (fX4_faultOfSheet bt v1)), (0, .ref a0), (1, .int v1)]) hx hb dX4_judge_5 rfl hl (by decide) rfl (fun ls hl => ?_)
  refine lv_iload_n hx hb dX4_judge_6 rfl (lv_at hl 0 rfl) ?_
  refine lv_if_eq (tgt := 16) hx hb dX4_judge_7 (by decide) (fun c_1 => ?_) (fun c_1 => ?_)
  · have h := ifp c_1 h
    refine lv_iconst (v := 0) hx hb dX4_judge_16 (by decide) ?_
    refine lv_istore_n (lv' := [(3, .int 0), (2, .int (fX4_faultOfSheet bt v1)), (0, .ref a0), (1, .int v1)]) hx hb dX4_judge_17 rfl hl (by decide) rfl (fun ls hl => ?_)
    exact lX4_judge_18 (l := l) (e := e) (below := below) C0 F ppl psp psy psh tpl tsp tsy tsh kpl ksp ksy ksh bs bt sz nm fd ik psc pnc pdy pzz tsc tnc tdy tzz ksc knc kdy kzz ln so be en va v1 z0 z1 hD F 0 _ _ hP hS _ (lv_sub hl [2, 3, 0] rfl) h
  · have h := ifn c_1 h
    refine lv_aload_n hx hb dX4_judge_10 rfl (lv_at hl 1 rfl) ?_
    refine lv_iload_n hx hb dX4_judge_11 rfl (lv_at hl 0 rfl) ?_
    have hPc := hP.sub (ws' := (wX4 cI cS a0 a1 a2 a3 a4 a5 a6 a7 a8 a9 a10 a11 a12 a13 a14 a15 a16 a17 a18 a19 a20 a21 a22 ppl psp psy psh tpl tsp tsy tsh kpl ksp ksy ksh bs bt sz nm fd ik psc pnc pdy pzz tsc tnc tdy tzz ksc knc kdy kzz ln so be en va)) [0, 1, 2, 3, 4, 5, 6, 7, 8, 9, 10, 11, 12, 13, 14, 15, 16, 17, 18, 19, 20, 21, 22] rfl
    refine kMi (wf' := (wX4 cI cS a0 a1 a2 a3 a4 a5 a6 a7 a8 a9 a10 a11 a12 a13 a14 a15 a16 a17 a18 a19 a20 a21 a22 ppl psp psy psh tpl tsp tsy tsh kpl ksp ksy ksh bs bt sz nm (fX4_finding_o1 fd (fX4_faultOfSheet bt v1)) ik psc pnc pdy pzz tsc tnc tdy tzz ksc knc kdy kzz ln so be en va)) [0, 1, 2, 3, 4, 5, 6, 7, 8, 9, 10, 11, 12, 13, 14, 15, 16, 17, 18, 19, 20, 21, 22] [some 0, some 1, some 2, some 3, some 4, some 5, some 6, some 7, some 8, some 9, some 10, some 11, some 12, some 13, some 14, some 15, some 16, some 17, some 18, some 19, some 20, some 21, some 22] (rV C0 (tX4_finding l D cI cS a0 a1 a2 a3 a4 a5 a6 a7 a8 a9 a10 a11 a12 a13 a14 a15 a16 a17 a18 a19 a20 a21 a22 ppl psp psy psh tpl tsp tsy tsh kpl ksp ksy ksh bs bt sz nm fd ik psc pnc pdy pzz tsc tnc tdy tzz ksc knc kdy kzz ln so be en va (fX4_faultOfSheet bt v1) (fX4_faultOfSheet bt v1) (fX4_finding_o1 fd (fX4_faultOfSheet bt v1)) (eeX4_finding ..) (((hD (wX4 cI cS a0 a1 a2 a3 a4 a5 a6 a7 a8 a9 a10 a11 a12 a13 a14 a15 a16 a17 a18 a19 a20 a21 a22 ppl psp psy psh tpl tsp tsy tsh kpl ksp ksy ksh bs bt sz nm fd ik psc pnc pdy pzz tsc tnc tdy tzz ksc knc kdy kzz ln so be en va) rfl).sub [0, 1, 2, 3, 4, 5, 6, 7, 8, 9, 10, 11, 12, 13, 14, 15, 16, 17, 18, 19, 20, 21, 22] (by decide) rfl).weaken (fun _ _ _ _ => trivial))) RX4 gX4_judge_X4_finding rfl ⟨rfl, rfl⟩ pdX4_finding rfl ⟨Nat.le_of_ble_eq_true rfl, Nat.le_of_ble_eq_true rfl⟩ (fun _ _ _ _ q => q) (va_recv hE.1 hPc (ci := 3) (q0 := 0) rfl rfl) (fun U hU _ _ => by rw [hU]; exact hPc) hl.1 rfl (Nat.le_of_ble_eq_true rfl) dX4_judge_12 ⟨Nat.zero_le _, Nat.zero_le _⟩) hP (hD _ rfl) hS rfl rfl rfl (fun H locs hP hS => ?_)
    obtain ⟨q0, q1⟩ := Prod.mk.inj (Option.some.inj h)
    subst q0 q1
    exact eMi C0 hP hS rfl rfl dX4_judge_15
def fX4_image (ppl : Nat → Int32) (psp : Nat → Int32) (psy : Nat → Int32) (psh : Nat → Int32) (kpl : Nat → Int32) (ksp : Nat → Int32) (ksy : Nat → Int32) (ksh : Nat → Int32) (ik : Int32) (psc : Int32) (pnc : Int32) (pdy : Int32) (pzz : Int32) (ksc : Int32) (knc : Int32) (kdy : Int32) (kzz : Int32) : Int32 × (Nat → Int32) × (Nat → Int32) × (Nat → Int32) × (Nat → Int32) × Int32 × Int32 × Int32 × Int32 × Int32 := (1, fX0_become_o0 kpl ksp ksy ksh ppl psp psy psh ksc knc kdy kzz psc pnc pdy pzz, fX0_become_o1 kpl ksp ksy ksh ppl psp psy psh ksc knc kdy kzz psc pnc pdy pzz, fX0_become_o2 kpl ksp ksy ksh ppl psp psy psh ksc knc kdy kzz psc pnc pdy pzz, fX0_become_o3 kpl ksp ksy ksh ppl psp psy psh ksc knc kdy kzz psc pnc pdy pzz, 1, fX0_become_o4 kpl ksp ksy ksh ppl psp psy psh ksc knc kdy kzz psc pnc pdy pzz, fX0_become_o5 kpl ksp ksy ksh ppl psp psy psh ksc knc kdy kzz psc pnc pdy pzz, fX0_become_o6 kpl ksp ksy ksh ppl psp psy psh ksc knc kdy kzz psc pnc pdy pzz, fX0_become_o7 kpl ksp ksy ksh ppl psp psy psh ksc knc kdy kzz psc pnc pdy pzz)
def fX4_image_o0 (ppl : Nat → Int32) (psp : Nat → Int32) (psy : Nat → Int32) (psh : Nat → Int32) (kpl : Nat → Int32) (ksp : Nat → Int32) (ksy : Nat → Int32) (ksh : Nat → Int32) (ik : Int32) (psc : Int32) (pnc : Int32) (pdy : Int32) (pzz : Int32) (ksc : Int32) (knc : Int32) (kdy : Int32) (kzz : Int32) : Int32 := (fX4_image ppl psp psy psh kpl ksp ksy ksh ik psc pnc pdy pzz ksc knc kdy kzz).1
def fX4_image_o1 (ppl : Nat → Int32) (psp : Nat → Int32) (psy : Nat → Int32) (psh : Nat → Int32) (kpl : Nat → Int32) (ksp : Nat → Int32) (ksy : Nat → Int32) (ksh : Nat → Int32) (ik : Int32) (psc : Int32) (pnc : Int32) (pdy : Int32) (pzz : Int32) (ksc : Int32) (knc : Int32) (kdy : Int32) (kzz : Int32) : Nat → Int32 := (fX4_image ppl psp psy psh kpl ksp ksy ksh ik psc pnc pdy pzz ksc knc kdy kzz).2.1
def fX4_image_o2 (ppl : Nat → Int32) (psp : Nat → Int32) (psy : Nat → Int32) (psh : Nat → Int32) (kpl : Nat → Int32) (ksp : Nat → Int32) (ksy : Nat → Int32) (ksh : Nat → Int32) (ik : Int32) (psc : Int32) (pnc : Int32) (pdy : Int32) (pzz : Int32) (ksc : Int32) (knc : Int32) (kdy : Int32) (kzz : Int32) : Nat → Int32 := (fX4_image ppl psp psy psh kpl ksp ksy ksh ik psc pnc pdy pzz ksc knc kdy kzz).2.2.1
def fX4_image_o3 (ppl : Nat → Int32) (psp : Nat → Int32) (psy : Nat → Int32) (psh : Nat → Int32) (kpl : Nat → Int32) (ksp : Nat → Int32) (ksy : Nat → Int32) (ksh : Nat → Int32) (ik : Int32) (psc : Int32) (pnc : Int32) (pdy : Int32) (pzz : Int32) (ksc : Int32) (knc : Int32) (kdy : Int32) (kzz : Int32) : Nat → Int32 := (fX4_image ppl psp psy psh kpl ksp ksy ksh ik psc pnc pdy pzz ksc knc kdy kzz).2.2.2.1
def fX4_image_o4 (ppl : Nat → Int32) (psp : Nat → Int32) (psy : Nat → Int32) (psh : Nat → Int32) (kpl : Nat → Int32) (ksp : Nat → Int32) (ksy : Nat → Int32) (ksh : Nat → Int32) (ik : Int32) (psc : Int32) (pnc : Int32) (pdy : Int32) (pzz : Int32) (ksc : Int32) (knc : Int32) (kdy : Int32) (kzz : Int32) : Nat → Int32 := (fX4_image ppl psp psy psh kpl ksp ksy ksh ik psc pnc pdy pzz ksc knc kdy kzz).2.2.2.2.1
def fX4_image_o5 (ppl : Nat → Int32) (psp : Nat → Int32) (psy : Nat → Int32) (psh : Nat → Int32) (kpl : Nat → Int32) (ksp : Nat → Int32) (ksy : Nat → Int32) (ksh : Nat → Int32) (ik : Int32) (psc : Int32) (pnc : Int32) (pdy : Int32) (pzz : Int32) (ksc : Int32) (knc : Int32) (kdy : Int32) (kzz : Int32) : Int32 := (fX4_image ppl psp psy psh kpl ksp ksy ksh ik psc pnc pdy pzz ksc knc kdy kzz).2.2.2.2.2.1
def fX4_image_o6 (ppl : Nat → Int32) (psp : Nat → Int32) (psy : Nat → Int32) (psh : Nat → Int32) (kpl : Nat → Int32) (ksp : Nat → Int32) (ksy : Nat → Int32) (ksh : Nat → Int32) (ik : Int32) (psc : Int32) (pnc : Int32) (pdy : Int32) (pzz : Int32) (ksc : Int32) (knc : Int32) (kdy : Int32) (kzz : Int32) : Int32 := (fX4_image ppl psp psy psh kpl ksp ksy ksh ik psc pnc pdy pzz ksc knc kdy kzz).2.2.2.2.2.2.1
def fX4_image_o7 (ppl : Nat → Int32) (psp : Nat → Int32) (psy : Nat → Int32) (psh : Nat → Int32) (kpl : Nat → Int32) (ksp : Nat → Int32) (ksy : Nat → Int32) (ksh : Nat → Int32) (ik : Int32) (psc : Int32) (pnc : Int32) (pdy : Int32) (pzz : Int32) (ksc : Int32) (knc : Int32) (kdy : Int32) (kzz : Int32) : Int32 := (fX4_image ppl psp psy psh kpl ksp ksy ksh ik psc pnc pdy pzz ksc knc kdy kzz).2.2.2.2.2.2.2.1
def fX4_image_o8 (ppl : Nat → Int32) (psp : Nat → Int32) (psy : Nat → Int32) (psh : Nat → Int32) (kpl : Nat → Int32) (ksp : Nat → Int32) (ksy : Nat → Int32) (ksh : Nat → Int32) (ik : Int32) (psc : Int32) (pnc : Int32) (pdy : Int32) (pzz : Int32) (ksc : Int32) (knc : Int32) (kdy : Int32) (kzz : Int32) : Int32 := (fX4_image ppl psp psy psh kpl ksp ksy ksh ik psc pnc pdy pzz ksc knc kdy kzz).2.2.2.2.2.2.2.2.1
def fX4_image_o9 (ppl : Nat → Int32) (psp : Nat → Int32) (psy : Nat → Int32) (psh : Nat → Int32) (kpl : Nat → Int32) (ksp : Nat → Int32) (ksy : Nat → Int32) (ksh : Nat → Int32) (ik : Int32) (psc : Int32) (pnc : Int32) (pdy : Int32) (pzz : Int32) (ksc : Int32) (knc : Int32) (kdy : Int32) (kzz : Int32) : Int32 := (fX4_image ppl psp psy psh kpl ksp ksy ksh ik psc pnc pdy pzz ksc knc kdy kzz).2.2.2.2.2.2.2.2.2
theorem eeX4_image (ppl : Nat → Int32) (psp : Nat → Int32) (psy : Nat → Int32) (psh : Nat → Int32) (kpl : Nat → Int32) (ksp : Nat → Int32) (ksy : Nat → Int32) (ksh : Nat → Int32) (ik : Int32) (psc : Int32) (pnc : Int32) (pdy : Int32) (pzz : Int32) (ksc : Int32) (knc : Int32) (kdy : Int32) (kzz : Int32) : fX4_image ppl psp psy psh kpl ksp ksy ksh ik psc pnc pdy pzz ksc knc kdy kzz = (fX4_image_o0 ppl psp psy psh kpl ksp ksy ksh ik psc pnc pdy pzz ksc knc kdy kzz, fX4_image_o1 ppl psp psy psh kpl ksp ksy ksh ik psc pnc pdy pzz ksc knc kdy kzz, fX4_image_o2 ppl psp psy psh kpl ksp ksy ksh ik psc pnc pdy pzz ksc knc kdy kzz, fX4_image_o3 ppl psp psy psh kpl ksp ksy ksh ik psc pnc pdy pzz ksc knc kdy kzz, fX4_image_o4 ppl psp psy psh kpl ksp ksy ksh ik psc pnc pdy pzz ksc knc kdy kzz, fX4_image_o5 ppl psp psy psh kpl ksp ksy ksh ik psc pnc pdy pzz ksc knc kdy kzz, fX4_image_o6 ppl psp psy psh kpl ksp ksy ksh ik psc pnc pdy pzz ksc knc kdy kzz, fX4_image_o7 ppl psp psy psh kpl ksp ksy ksh ik psc pnc pdy pzz ksc knc kdy kzz, fX4_image_o8 ppl psp psy psh kpl ksp ksy ksh ik psc pnc pdy pzz ksc knc kdy kzz, fX4_image_o9 ppl psp psy psh kpl ksp ksy ksh ik psc pnc pdy pzz ksc knc kdy kzz) := rfl
abbrev rmX4_image : Room := { frames := 2, cells := 0, slots := 0, locals := 61 }
theorem pdX4_image : (yX4_image.cls = RX4 ∧ yX4_image.cls ≠ "java/lang/invoke/MethodHandle" ∧ yX4_image.cls ≠ "java/lang/invoke/VarHandle" ∧ (parseMethodDescriptor yX4_image.desc).map (fun d => d.parameters.length) = some 0) := by decide +kernel
set_option maxHeartbeats 4000000 in
set_option maxRecDepth 100000 in
theorem tX4_image (l : Launch) (D : va_G) (cI cS : ClassId) (a0 a1 a2 a3 a4 a5 a6 a7 a8 a9 a10 a11 a12 a13 a14 a15 a16 a17 a18 a19 a20 a21 a22 : Nat) (ppl : Nat → Int32) (psp : Nat → Int32) (psy : Nat → Int32) (psh : Nat → Int32) (tpl : Nat → Int32) (tsp : Nat → Int32) (tsy : Nat → Int32) (tsh : Nat → Int32) (kpl : Nat → Int32) (ksp : Nat → Int32) (ksy : Nat → Int32) (ksh : Nat → Int32) (bs : Nat → Int32) (bt : Nat → Int32) (sz : Nat → Int32) (nm : Nat → Int32) (fd : Nat → Int32) (ik : Int32) (psc : Int32) (pnc : Int32) (pdy : Int32) (pzz : Int32) (tsc : Int32) (tnc : Int32) (tdy : Int32) (tzz : Int32) (ksc : Int32) (knc : Int32) (kdy : Int32) (kzz : Int32) (ln : Int32) (so : Int32) (be : Int32) (en : Int32) (va : Int32) (z0 : Int32) (z1 : Nat → Int32) (z2 : Nat → Int32) (z3 : Nat → Int32) (z4 : Nat → Int32) (z5 : Int32) (z6 : Int32) (z7 : Int32) (z8 : Int32) (z9 : Int32) (h : fX4_image ppl psp psy psh kpl ksp ksy ksh ik psc pnc pdy pzz ksc knc kdy kzz = (z0, z1, z2, z3, z4, z5, z6, z7, z8, z9)) (hD0 : va_D (fun _ => True) (wX4 cI cS a0 a1 a2 a3 a4 a5 a6 a7 a8 a9 a10 a11 a12 a13 a14 a15 a16 a17 a18 a19 a20 a21 a22 ppl psp psy psh tpl tsp tsy tsh kpl ksp ksy ksh bs bt sz nm fd ik psc pnc pdy pzz tsc tnc tdy tzz ksc knc kdy kzz ln so be en va)) : Met l yX4_image wsX4_image rmX4_image (PZ D cI cS [.ref a0] (fun U => va_P D vwCl (wX4 cI cS a0 a1 a2 a3 a4 a5 a6 a7 a8 a9 a10 a11 a12 a13 a14 a15 a16 a17 a18 a19 a20 a21 a22 ppl psp psy psh tpl tsp tsy tsh kpl ksp ksy ksh bs bt sz nm fd ik psc pnc pdy pzz tsc tnc tdy tzz ksc knc kdy kzz ln so be en va) U.heap)) (qI D (wX4 cI cS a0 a1 a2 a3 a4 a5 a6 a7 a8 a9 a10 a11 a12 a13 a14 a15 a16 a17 a18 a19 a20 a21 a22 ppl psp psy psh tpl tsp tsy tsh kpl ksp ksy ksh bs bt sz nm fd ik psc pnc pdy pzz tsc tnc tdy tzz ksc knc kdy kzz ln so be en va) (wX4 cI cS a0 a1 a2 a3 a4 a5 a6 a7 a8 a9 a10 a11 a12 a13 a14 a15 a16 a17 a18 a19 a20 a21 a22 ppl psp psy psh tpl tsp tsy tsh z1 z2 z3 z4 bs bt sz nm fd z5 psc pnc pdy pzz tsc tnc tdy tzz z6 z7 z8 z9 ln so be en va) z0) 0 0 (wA (wX4 cI cS a0 a1 a2 a3 a4 a5 a6 a7 a8 a9 a10 a11 a12 a13 a14 a15 a16 a17 a18 a19 a20 a21 a22 ppl psp psy psh tpl tsp tsy tsh kpl ksp ksy ksh bs bt sz nm fd ik psc pnc pdy pzz tsc tnc tdy tzz ksc knc kdy kzz ln so be en va)) := by
  refine Met.mk RX4 (by decide) rfl rfl (Nat.le_of_ble_eq_true rfl) ?_
  intro p e s m below meth c ls C0 hP hl
  have hl : lv_has ls 1 [(0, .ref a0)] := hl
  obtain ⟨hx, hb, hr, hml, hown, hts, hlk, hE⟩ := id C0
  have hinX4 : ∀ w ∈ u_ws RX4 TX4 7, w ∈ wsX4_image := by decide +kernel
  have hD : ∀ W : va_W, W.map Prod.fst = [a0, a1, a2, a3, a4, a5, a6, a7, a8, a9, a10, a11, a12, a13, a14, a15, a16, a17, a18, a19, a20, a21, a22] → va_D (wA (wX4 cI cS a0 a1 a2 a3 a4 a5 a6 a7 a8 a9 a10 a11 a12 a13 a14 a15 a16 a17 a18 a19 a20 a21 a22 ppl psp psy psh tpl tsp tsy tsh kpl ksp ksy ksh bs bt sz nm fd ik psc pnc pdy pzz tsc tnc tdy tzz ksc knc kdy kzz ln so be en va)) W := fun W hW => hD0.own.re hW
  have hS : va_S (wA (wX4 cI cS a0 a1 a2 a3 a4 a5 a6 a7 a8 a9 a10 a11 a12 a13 a14 a15 a16 a17 a18 a19 a20 a21 a22 ppl psp psy psh tpl tsp tsy tsh kpl ksp ksy ksh bs bt sz nm fd ik psc pnc pdy pzz tsc tnc tdy tzz ksc knc kdy kzz ln so be en va)) s.heap s.heap [] := va_S.rf
  have hP : va_P D vwCl (wX4 cI cS a0 a1 a2 a3 a4 a5 a6 a7 a8 a9 a10 a11 a12 a13 a14 a15 a16 a17 a18 a19 a20 a21 a22 ppl psp psy psh tpl tsp tsy tsh kpl ksp ksy ksh bs bt sz nm fd ik psc pnc pdy pzz tsc tnc tdy tzz ksc knc kdy kzz ln so be en va) s.heap := hP
  rw [fX4_image] at h
  refine lv_aload_n hx hb dX4_image_0 rfl (lv_at hl 0 rfl) ?_
  refine va_get (D := D) (ci := 3) (v := .ref a11) (C := RX4) (T := TX4) (N := 7) hx hb hts hinX4 hown hE.1 hP 0 rfl rfl 2 (by decide) (hts _ (List.mem_of_getElem? (i := 1) rfl)) (fun _ h9 => h9) rfl dX4_image_1 ?_
  refine lv_aload_n hx hb dX4_image_4 rfl (lv_at hl 0 rfl) ?_
  refine va_get (D := D) (ci := 3) (v := .ref a1) (C := RX4) (T := TX4) (N := 7) hx hb hts hinX4 hown hE.1 hP 0 rfl rfl 0 (by decide) (hts _ (List.mem_of_getElem? (i := 2) rfl)) (fun _ h9 => h9) rfl dX4_image_5 ?_
  have hPc := hP.sub (ws' := (wE2 cI cS a11 a12 a13 a14 a15 a1 a2 a3 a4 a5 kpl ksp ksy ksh ppl psp psy psh ksc knc kdy kzz psc pnc pdy pzz)) [11, 12, 13, 14, 15, 1, 2, 3, 4, 5] rfl
  refine kMv (wf' := (wX4 cI cS a0 a1 a2 a3 a4 a5 a6 a7 a8 a9 a10 a11 a12 a13 a14 a15 a16 a17 a18 a19 a20 a21 a22 ppl psp psy psh tpl tsp tsy tsh (fX0_become_o0 kpl ksp ksy ksh ppl psp psy psh ksc knc kdy kzz psc pnc pdy pzz) (fX0_become_o1 kpl ksp ksy ksh ppl psp psy psh ksc knc kdy kzz psc pnc pdy pzz) (fX0_become_o2 kpl ksp ksy ksh ppl psp psy psh ksc knc kdy kzz psc pnc pdy pzz) (fX0_become_o3 kpl ksp ksy ksh ppl psp psy psh ksc knc kdy kzz psc pnc pdy pzz) bs bt sz nm fd ik psc pnc pdy pzz tsc tnc tdy tzz (fX0_become_o4 kpl ksp ksy ksh ppl psp psy psh ksc knc kdy kzz psc pnc pdy pzz) (fX0_become_o5 kpl ksp ksy ksh ppl psp psy psh ksc knc kdy kzz psc pnc pdy pzz) (fX0_become_o6 kpl ksp ksy ksh ppl psp psy psh ksc knc kdy kzz psc pnc pdy pzz) (fX0_become_o7 kpl ksp ksy ksh ppl psp psy psh ksc knc kdy kzz psc pnc pdy pzz) ln so be en va)) [11, 12, 13, 14, 15, 1, 2, 3, 4, 5] [none, some 5, some 6, some 7, some 8, some 9, none, none, none, none, none, some 0, some 1, some 2, some 3, some 4, none, none, none, none, none, none, none] (rV C0 (tX0_become l D cI cS a11 a12 a13 a14 a15 a1 a2 a3 a4 a5 kpl ksp ksy ksh ppl psp psy psh ksc knc kdy kzz psc pnc pdy pzz  (fX0_become_o0 kpl ksp ksy ksh ppl psp psy psh ksc knc kdy kzz psc pnc pdy pzz) (fX0_become_o1 kpl ksp ksy ksh ppl psp psy psh ksc knc kdy kzz psc pnc pdy pzz) (fX0_become_o2 kpl ksp ksy ksh ppl psp psy psh ksc knc kdy kzz psc pnc pdy pzz) (fX0_become_o3 kpl ksp ksy ksh ppl psp psy psh ksc knc kdy kzz psc pnc pdy pzz) (fX0_become_o4 kpl ksp ksy ksh ppl psp psy psh ksc knc kdy kzz psc pnc pdy pzz) (fX0_become_o5 kpl ksp ksy ksh ppl psp psy psh ksc knc kdy kzz psc pnc pdy pzz) (fX0_become_o6 kpl ksp ksy ksh ppl psp psy psh ksc knc kdy kzz psc pnc pdy pzz) (fX0_become_o7 kpl ksp ksy ksh ppl psp psy psh ksc knc kdy kzz psc pnc pdy pzz) (eeX0_become ..) (((hD (wX4 cI cS a0 a1 a2 a3 a4 a5 a6 a7 a8 a9 a10 a11 a12 a13 a14 a15 a16 a17 a18 a19 a20 a21 a22 ppl psp psy psh tpl tsp tsy tsh kpl ksp ksy ksh bs bt sz nm fd ik psc pnc pdy pzz tsc tnc tdy tzz ksc knc kdy kzz ln so be en va) rfl).sub [11, 12, 13, 14, 15, 1, 2, 3, 4, 5] (by decide) rfl).weaken (fun _ _ _ _ => trivial))) RX0 gX4_image_X0_become rfl ⟨rfl, rfl⟩ pdX0_become rfl ⟨Nat.le_of_ble_eq_true rfl, Nat.le_of_ble_eq_true rfl⟩ (fun _ _ _ _ q => q) (va_recv hE.1 hPc (ci := 0) (q0 := 0) rfl rfl) (fun U hU _ _ => by rw [hU]; exact hPc) hl.1 rfl (Nat.le_of_ble_eq_true rfl) dX4_image_8 ⟨Nat.zero_le _, Nat.zero_le _⟩) hP (hD _ rfl) hS rfl rfl rfl (fun H locs hP hS => ?_)
  refine lv_aload_n hx hb dX4_image_11 rfl (lv_at hl 0 rfl) ?_
  refine lv_iconst (v := 1) hx hb dX4_image_12 (by decide) ?_
  refine va_put (D := D) (ci := 3) (v := .int 1) (ty := .boolean) (C := RX4) (T := TX4) (N := 7) hx hb hts hinX4 tyX4 tyX4_ok nmX4 hown hE.1 hP (hD _ rfl) hS 0 rfl rfl 3 (by decide) (hts _ (List.mem_of_getElem? (i := 3) rfl)) (fun _ h9 => h9) rfl (by decide +kernel) rfl rfl (Nat.le_of_ble_eq_true rfl) dX4_image_13 (fun H locs hP _ hS => ?_)
  have hP : va_P D vwCl (wX4 cI cS a0 a1 a2 a3 a4 a5 a6 a7 a8 a9 a10 a11 a12 a13 a14 a15 a16 a17 a18 a19 a20 a21 a22 ppl psp psy psh tpl tsp tsy tsh (fX0_become_o0 kpl ksp ksy ksh ppl psp psy psh ksc knc kdy kzz psc pnc pdy pzz) (fX0_become_o1 kpl ksp ksy ksh ppl psp psy psh ksc knc kdy kzz psc pnc pdy pzz) (fX0_become_o2 kpl ksp ksy ksh ppl psp psy psh ksc knc kdy kzz psc pnc pdy pzz) (fX0_become_o3 kpl ksp ksy ksh ppl psp psy psh ksc knc kdy kzz psc pnc pdy pzz) bs bt sz nm fd 1 psc pnc pdy pzz tsc tnc tdy tzz (fX0_become_o4 kpl ksp ksy ksh ppl psp psy psh ksc knc kdy kzz psc pnc pdy pzz) (fX0_become_o5 kpl ksp ksy ksh ppl psp psy psh ksc knc kdy kzz psc pnc pdy pzz) (fX0_become_o6 kpl ksp ksy ksh ppl psp psy psh ksc knc kdy kzz psc pnc pdy pzz) (fX0_become_o7 kpl ksp ksy ksh ppl psp psy psh ksc knc kdy kzz psc pnc pdy pzz) ln so be en va) H := hP
  refine lv_iconst (v := 1) hx hb dX4_image_16 (by decide) ?_
  obtain ⟨q0, g0⟩ := Prod.mk.inj (h)
  obtain ⟨q1, g1⟩ := Prod.mk.inj g0
  obtain ⟨q2, g2⟩ := Prod.mk.inj g1
  obtain ⟨q3, g3⟩ := Prod.mk.inj g2
  obtain ⟨q4, g4⟩ := Prod.mk.inj g3
  obtain ⟨q5, g5⟩ := Prod.mk.inj g4
  obtain ⟨q6, g6⟩ := Prod.mk.inj g5
  obtain ⟨q7, g7⟩ := Prod.mk.inj g6
  obtain ⟨q8, q9⟩ := Prod.mk.inj g7
  subst q0 q1 q2 q3 q4 q5 q6 q7 q8 q9
  exact eMi C0 hP hS rfl rfl dX4_image_17
def fX4_undo (ppl : Nat → Int32) (psp : Nat → Int32) (psy : Nat → Int32) (psh : Nat → Int32) (kpl : Nat → Int32) (ksp : Nat → Int32) (ksy : Nat → Int32) (ksh : Nat → Int32) (fd : Nat → Int32) (ik : Int32) (psc : Int32) (pnc : Int32) (pdy : Int32) (pzz : Int32) (ksc : Int32) (knc : Int32) (kdy : Int32) (kzz : Int32) : Int32 × (Nat → Int32) × (Nat → Int32) × (Nat → Int32) × (Nat → Int32) × (Nat → Int32) × Int32 × Int32 × Int32 × Int32 := (if ik = 0 then ((-1000004), ppl, psp, psy, psh, fX4_finding_o1 fd (-1000004), psc, pnc, pdy, pzz) else (fX0_become_o6 ppl psp psy psh kpl ksp ksy ksh psc pnc pdy pzz ksc knc kdy kzz, fX0_become_o0 ppl psp psy psh kpl ksp ksy ksh psc pnc pdy pzz ksc knc kdy kzz, fX0_become_o1 ppl psp psy psh kpl ksp ksy ksh psc pnc pdy pzz ksc knc kdy kzz, fX0_become_o2 ppl psp psy psh kpl ksp ksy ksh psc pnc pdy pzz ksc knc kdy kzz, fX0_become_o3 ppl psp psy psh kpl ksp ksy ksh psc pnc pdy pzz ksc knc kdy kzz, fd, fX0_become_o4 ppl psp psy psh kpl ksp ksy ksh psc pnc pdy pzz ksc knc kdy kzz, fX0_become_o5 ppl psp psy psh kpl ksp ksy ksh psc pnc pdy pzz ksc knc kdy kzz, fX0_become_o6 ppl psp psy psh kpl ksp ksy ksh psc pnc pdy pzz ksc knc kdy kzz, fX0_become_o7 ppl psp psy psh kpl ksp ksy ksh psc pnc pdy pzz ksc knc kdy kzz))
def fX4_undo_o0 (ppl : Nat → Int32) (psp : Nat → Int32) (psy : Nat → Int32) (psh : Nat → Int32) (kpl : Nat → Int32) (ksp : Nat → Int32) (ksy : Nat → Int32) (ksh : Nat → Int32) (fd : Nat → Int32) (ik : Int32) (psc : Int32) (pnc : Int32) (pdy : Int32) (pzz : Int32) (ksc : Int32) (knc : Int32) (kdy : Int32) (kzz : Int32) : Int32 := (fX4_undo ppl psp psy psh kpl ksp ksy ksh fd ik psc pnc pdy pzz ksc knc kdy kzz).1
def fX4_undo_o1 (ppl : Nat → Int32) (psp : Nat → Int32) (psy : Nat → Int32) (psh : Nat → Int32) (kpl : Nat → Int32) (ksp : Nat → Int32) (ksy : Nat → Int32) (ksh : Nat → Int32) (fd : Nat → Int32) (ik : Int32) (psc : Int32) (pnc : Int32) (pdy : Int32) (pzz : Int32) (ksc : Int32) (knc : Int32) (kdy : Int32) (kzz : Int32) : Nat → Int32 := (fX4_undo ppl psp psy psh kpl ksp ksy ksh fd ik psc pnc pdy pzz ksc knc kdy kzz).2.1
def fX4_undo_o2 (ppl : Nat → Int32) (psp : Nat → Int32) (psy : Nat → Int32) (psh : Nat → Int32) (kpl : Nat → Int32) (ksp : Nat → Int32) (ksy : Nat → Int32) (ksh : Nat → Int32) (fd : Nat → Int32) (ik : Int32) (psc : Int32) (pnc : Int32) (pdy : Int32) (pzz : Int32) (ksc : Int32) (knc : Int32) (kdy : Int32) (kzz : Int32) : Nat → Int32 := (fX4_undo ppl psp psy psh kpl ksp ksy ksh fd ik psc pnc pdy pzz ksc knc kdy kzz).2.2.1
def fX4_undo_o3 (ppl : Nat → Int32) (psp : Nat → Int32) (psy : Nat → Int32) (psh : Nat → Int32) (kpl : Nat → Int32) (ksp : Nat → Int32) (ksy : Nat → Int32) (ksh : Nat → Int32) (fd : Nat → Int32) (ik : Int32) (psc : Int32) (pnc : Int32) (pdy : Int32) (pzz : Int32) (ksc : Int32) (knc : Int32) (kdy : Int32) (kzz : Int32) : Nat → Int32 := (fX4_undo ppl psp psy psh kpl ksp ksy ksh fd ik psc pnc pdy pzz ksc knc kdy kzz).2.2.2.1
def fX4_undo_o4 (ppl : Nat → Int32) (psp : Nat → Int32) (psy : Nat → Int32) (psh : Nat → Int32) (kpl : Nat → Int32) (ksp : Nat → Int32) (ksy : Nat → Int32) (ksh : Nat → Int32) (fd : Nat → Int32) (ik : Int32) (psc : Int32) (pnc : Int32) (pdy : Int32) (pzz : Int32) (ksc : Int32) (knc : Int32) (kdy : Int32) (kzz : Int32) : Nat → Int32 := (fX4_undo ppl psp psy psh kpl ksp ksy ksh fd ik psc pnc pdy pzz ksc knc kdy kzz).2.2.2.2.1
def fX4_undo_o5 (ppl : Nat → Int32) (psp : Nat → Int32) (psy : Nat → Int32) (psh : Nat → Int32) (kpl : Nat → Int32) (ksp : Nat → Int32) (ksy : Nat → Int32) (ksh : Nat → Int32) (fd : Nat → Int32) (ik : Int32) (psc : Int32) (pnc : Int32) (pdy : Int32) (pzz : Int32) (ksc : Int32) (knc : Int32) (kdy : Int32) (kzz : Int32) : Nat → Int32 := (fX4_undo ppl psp psy psh kpl ksp ksy ksh fd ik psc pnc pdy pzz ksc knc kdy kzz).2.2.2.2.2.1
def fX4_undo_o6 (ppl : Nat → Int32) (psp : Nat → Int32) (psy : Nat → Int32) (psh : Nat → Int32) (kpl : Nat → Int32) (ksp : Nat → Int32) (ksy : Nat → Int32) (ksh : Nat → Int32) (fd : Nat → Int32) (ik : Int32) (psc : Int32) (pnc : Int32) (pdy : Int32) (pzz : Int32) (ksc : Int32) (knc : Int32) (kdy : Int32) (kzz : Int32) : Int32 := (fX4_undo ppl psp psy psh kpl ksp ksy ksh fd ik psc pnc pdy pzz ksc knc kdy kzz).2.2.2.2.2.2.1
def fX4_undo_o7 (ppl : Nat → Int32) (psp : Nat → Int32) (psy : Nat → Int32) (psh : Nat → Int32) (kpl : Nat → Int32) (ksp : Nat → Int32) (ksy : Nat → Int32) (ksh : Nat → Int32) (fd : Nat → Int32) (ik : Int32) (psc : Int32) (pnc : Int32) (pdy : Int32) (pzz : Int32) (ksc : Int32) (knc : Int32) (kdy : Int32) (kzz : Int32) : Int32 := (fX4_undo ppl psp psy psh kpl ksp ksy ksh fd ik psc pnc pdy pzz ksc knc kdy kzz).2.2.2.2.2.2.2.1
def fX4_undo_o8 (ppl : Nat → Int32) (psp : Nat → Int32) (psy : Nat → Int32) (psh : Nat → Int32) (kpl : Nat → Int32) (ksp : Nat → Int32) (ksy : Nat → Int32) (ksh : Nat → Int32) (fd : Nat → Int32) (ik : Int32) (psc : Int32) (pnc : Int32) (pdy : Int32) (pzz : Int32) (ksc : Int32) (knc : Int32) (kdy : Int32) (kzz : Int32) : Int32 := (fX4_undo ppl psp psy psh kpl ksp ksy ksh fd ik psc pnc pdy pzz ksc knc kdy kzz).2.2.2.2.2.2.2.2.1
def fX4_undo_o9 (ppl : Nat → Int32) (psp : Nat → Int32) (psy : Nat → Int32) (psh : Nat → Int32) (kpl : Nat → Int32) (ksp : Nat → Int32) (ksy : Nat → Int32) (ksh : Nat → Int32) (fd : Nat → Int32) (ik : Int32) (psc : Int32) (pnc : Int32) (pdy : Int32) (pzz : Int32) (ksc : Int32) (knc : Int32) (kdy : Int32) (kzz : Int32) : Int32 := (fX4_undo ppl psp psy psh kpl ksp ksy ksh fd ik psc pnc pdy pzz ksc knc kdy kzz).2.2.2.2.2.2.2.2.2
theorem eeX4_undo (ppl : Nat → Int32) (psp : Nat → Int32) (psy : Nat → Int32) (psh : Nat → Int32) (kpl : Nat → Int32) (ksp : Nat → Int32) (ksy : Nat → Int32) (ksh : Nat → Int32) (fd : Nat → Int32) (ik : Int32) (psc : Int32) (pnc : Int32) (pdy : Int32) (pzz : Int32) (ksc : Int32) (knc : Int32) (kdy : Int32) (kzz : Int32) : fX4_undo ppl psp psy psh kpl ksp ksy ksh fd ik psc pnc pdy pzz ksc knc kdy kzz = (fX4_undo_o0 ppl psp psy psh kpl ksp ksy ksh fd ik psc pnc pdy pzz ksc knc kdy kzz, fX4_undo_o1 ppl psp psy psh kpl ksp ksy ksh fd ik psc pnc pdy pzz ksc knc kdy kzz, fX4_undo_o2 ppl psp psy psh kpl ksp ksy ksh fd ik psc pnc pdy pzz ksc knc kdy kzz, fX4_undo_o3 ppl psp psy psh kpl ksp ksy ksh fd ik psc pnc pdy pzz ksc knc kdy kzz, fX4_undo_o4 ppl psp psy psh kpl ksp ksy ksh fd ik psc pnc pdy pzz ksc knc kdy kzz, fX4_undo_o5 ppl psp psy psh kpl ksp ksy ksh fd ik psc pnc pdy pzz ksc knc kdy kzz, fX4_undo_o6 ppl psp psy psh kpl ksp ksy ksh fd ik psc pnc pdy pzz ksc knc kdy kzz, fX4_undo_o7 ppl psp psy psh kpl ksp ksy ksh fd ik psc pnc pdy pzz ksc knc kdy kzz, fX4_undo_o8 ppl psp psy psh kpl ksp ksy ksh fd ik psc pnc pdy pzz ksc knc kdy kzz, fX4_undo_o9 ppl psp psy psh kpl ksp ksy ksh fd ik psc pnc pdy pzz ksc knc kdy kzz) := rfl
abbrev rmX4_undo : Room := { frames := 2, cells := 0, slots := 0, locals := 61 }
theorem pdX4_undo : (yX4_undo.cls = RX4 ∧ yX4_undo.cls ≠ "java/lang/invoke/MethodHandle" ∧ yX4_undo.cls ≠ "java/lang/invoke/VarHandle" ∧ (parseMethodDescriptor yX4_undo.desc).map (fun d => d.parameters.length) = some 0) := by decide +kernel
set_option maxHeartbeats 4000000 in
set_option maxRecDepth 100000 in
theorem tX4_undo (l : Launch) (D : va_G) (cI cS : ClassId) (a0 a1 a2 a3 a4 a5 a6 a7 a8 a9 a10 a11 a12 a13 a14 a15 a16 a17 a18 a19 a20 a21 a22 : Nat) (ppl : Nat → Int32) (psp : Nat → Int32) (psy : Nat → Int32) (psh : Nat → Int32) (tpl : Nat → Int32) (tsp : Nat → Int32) (tsy : Nat → Int32) (tsh : Nat → Int32) (kpl : Nat → Int32) (ksp : Nat → Int32) (ksy : Nat → Int32) (ksh : Nat → Int32) (bs : Nat → Int32) (bt : Nat → Int32) (sz : Nat → Int32) (nm : Nat → Int32) (fd : Nat → Int32) (ik : Int32) (psc : Int32) (pnc : Int32) (pdy : Int32) (pzz : Int32) (tsc : Int32) (tnc : Int32) (tdy : Int32) (tzz : Int32) (ksc : Int32) (knc : Int32) (kdy : Int32) (kzz : Int32) (ln : Int32) (so : Int32) (be : Int32) (en : Int32) (va : Int32) (z0 : Int32) (z1 : Nat → Int32) (z2 : Nat → Int32) (z3 : Nat → Int32) (z4 : Nat → Int32) (z5 : Nat → Int32) (z6 : Int32) (z7 : Int32) (z8 : Int32) (z9 : Int32) (h : fX4_undo ppl psp psy psh kpl ksp ksy ksh fd ik psc pnc pdy pzz ksc knc kdy kzz = (z0, z1, z2, z3, z4, z5, z6, z7, z8, z9)) (hD0 : va_D (fun _ => True) (wX4 cI cS a0 a1 a2 a3 a4 a5 a6 a7 a8 a9 a10 a11 a12 a13 a14 a15 a16 a17 a18 a19 a20 a21 a22 ppl psp psy psh tpl tsp tsy tsh kpl ksp ksy ksh bs bt sz nm fd ik psc pnc pdy pzz tsc tnc tdy tzz ksc knc kdy kzz ln so be en va)) : Met l yX4_undo wsX4_undo rmX4_undo (PZ D cI cS [.ref a0] (fun U => va_P D vwCl (wX4 cI cS a0 a1 a2 a3 a4 a5 a6 a7 a8 a9 a10 a11 a12 a13 a14 a15 a16 a17 a18 a19 a20 a21 a22 ppl psp psy psh tpl tsp tsy tsh kpl ksp ksy ksh bs bt sz nm fd ik psc pnc pdy pzz tsc tnc tdy tzz ksc knc kdy kzz ln so be en va) U.heap)) (qI D (wX4 cI cS a0 a1 a2 a3 a4 a5 a6 a7 a8 a9 a10 a11 a12 a13 a14 a15 a16 a17 a18 a19 a20 a21 a22 ppl psp psy psh tpl tsp tsy tsh kpl ksp ksy ksh bs bt sz nm fd ik psc pnc pdy pzz tsc tnc tdy tzz ksc knc kdy kzz ln so be en va) (wX4 cI cS a0 a1 a2 a3 a4 a5 a6 a7 a8 a9 a10 a11 a12 a13 a14 a15 a16 a17 a18 a19 a20 a21 a22 z1 z2 z3 z4 tpl tsp tsy tsh kpl ksp ksy ksh bs bt sz nm z5 ik z6 z7 z8 z9 tsc tnc tdy tzz ksc knc kdy kzz ln so be en va) z0) 0 0 (wA (wX4 cI cS a0 a1 a2 a3 a4 a5 a6 a7 a8 a9 a10 a11 a12 a13 a14 a15 a16 a17 a18 a19 a20 a21 a22 ppl psp psy psh tpl tsp tsy tsh kpl ksp ksy ksh bs bt sz nm fd ik psc pnc pdy pzz tsc tnc tdy tzz ksc knc kdy kzz ln so be en va)) := by
  refine Met.mk RX4 (by decide) rfl rfl (Nat.le_of_ble_eq_true rfl) ?_
  intro p e s m below meth c ls C0 hP hl
  have hl : lv_has ls 1 [(0, .ref a0)] := hl
  obtain ⟨hx, hb, hr, hml, hown, hts, hlk, hE⟩ := id C0
  have hinX0 : ∀ w ∈ u_ws RX0 TX0 8, w ∈ wsX4_undo := by decide +kernel
  have hinX4 : ∀ w ∈ u_ws RX4 TX4 7, w ∈ wsX4_undo := by decide +kernel
  have hD : ∀ W : va_W, W.map Prod.fst = [a0, a1, a2, a3, a4, a5, a6, a7, a8, a9, a10, a11, a12, a13, a14, a15, a16, a17, a18, a19, a20, a21, a22] → va_D (wA (wX4 cI cS a0 a1 a2 a3 a4 a5 a6 a7 a8 a9 a10 a11 a12 a13 a14 a15 a16 a17 a18 a19 a20 a21 a22 ppl psp psy psh tpl tsp tsy tsh kpl ksp ksy ksh bs bt sz nm fd ik psc pnc pdy pzz tsc tnc tdy tzz ksc knc kdy kzz ln so be en va)) W := fun W hW => hD0.own.re hW
  have hS : va_S (wA (wX4 cI cS a0 a1 a2 a3 a4 a5 a6 a7 a8 a9 a10 a11 a12 a13 a14 a15 a16 a17 a18 a19 a20 a21 a22 ppl psp psy psh tpl tsp tsy tsh kpl ksp ksy ksh bs bt sz nm fd ik psc pnc pdy pzz tsc tnc tdy tzz ksc knc kdy kzz ln so be en va)) s.heap s.heap [] := va_S.rf
  have hP : va_P D vwCl (wX4 cI cS a0 a1 a2 a3 a4 a5 a6 a7 a8 a9 a10 a11 a12 a13 a14 a15 a16 a17 a18 a19 a20 a21 a22 ppl psp psy psh tpl tsp tsy tsh kpl ksp ksy ksh bs bt sz nm fd ik psc pnc pdy pzz tsc tnc tdy tzz ksc knc kdy kzz ln so be en va) s.heap := hP
  rw [fX4_undo] at h
  refine lv_aload_n hx hb dX4_undo_0 rfl (lv_at hl 0 rfl) ?_
  refine va_get (D := D) (ci := 3) (v := .int ik) (C := RX4) (T := TX4) (N := 7) hx hb hts hinX4 hown hE.1 hP 0 rfl rfl 3 (by decide) (hts _ (List.mem_of_getElem? (i := 1) rfl)) (fun _ h9 => h9) rfl dX4_undo_1 ?_
  refine lv_if_ne (tgt := 14) hx hb dX4_undo_4 (by decide) (fun c_1 => ?_) (fun c_1 => ?_)
  · have h := ifn c_1 h
    refine lv_aload_n hx hb dX4_undo_14 rfl (lv_at hl 0 rfl) ?_
    refine va_get (D := D) (ci := 3) (v := .ref a1) (C := RX4) (T := TX4) (N := 7) hx hb hts hinX4 hown hE.1 hP 0 rfl rfl 0 (by decide) (hts _ (List.mem_of_getElem? (i := 3) rfl)) (fun _ h9 => h9) rfl dX4_undo_15 ?_
    refine lv_aload_n hx hb dX4_undo_18 rfl (lv_at hl 0 rfl) ?_
    refine va_get (D := D) (ci := 3) (v := .ref a11) (C := RX4) (T := TX4) (N := 7) hx hb hts hinX4 hown hE.1 hP 0 rfl rfl 2 (by decide) (hts _ (List.mem_of_getElem? (i := 4) rfl)) (fun _ h9 => h9) rfl dX4_undo_19 ?_
    have hPc := hP.sub (ws' := (wE2 cI cS a1 a2 a3 a4 a5 a11 a12 a13 a14 a15 ppl psp psy psh kpl ksp ksy ksh psc pnc pdy pzz ksc knc kdy kzz)) [1, 2, 3, 4, 5, 11, 12, 13, 14, 15] rfl
    refine kMv (wf' := (wX4 cI cS a0 a1 a2 a3 a4 a5 a6 a7 a8 a9 a10 a11 a12 a13 a14 a15 a16 a17 a18 a19 a20 a21 a22 (fX0_become_o0 ppl psp psy psh kpl ksp ksy ksh psc pnc pdy pzz ksc knc kdy kzz) (fX0_become_o1 ppl psp psy psh kpl ksp ksy ksh psc pnc pdy pzz ksc knc kdy kzz) (fX0_become_o2 ppl psp psy psh kpl ksp ksy ksh psc pnc pdy pzz ksc knc kdy kzz) (fX0_become_o3 ppl psp psy psh kpl ksp ksy ksh psc pnc pdy pzz ksc knc kdy kzz) tpl tsp tsy tsh kpl ksp ksy ksh bs bt sz nm fd ik (fX0_become_o4 ppl psp psy psh kpl ksp ksy ksh psc pnc pdy pzz ksc knc kdy kzz) (fX0_become_o5 ppl psp psy psh kpl ksp ksy ksh psc pnc pdy pzz ksc knc kdy kzz) (fX0_become_o6 ppl psp psy psh kpl ksp ksy ksh psc pnc pdy pzz ksc knc kdy kzz) (fX0_become_o7 ppl psp psy psh kpl ksp ksy ksh psc pnc pdy pzz ksc knc kdy kzz) tsc tnc tdy tzz ksc knc kdy kzz ln so be en va)) [1, 2, 3, 4, 5, 11, 12, 13, 14, 15] [none, some 0, some 1, some 2, some 3, some 4, none, none, none, none, none, some 5, some 6, some 7, some 8, some 9, none, none, none, none, none, none, none] (rV C0 (tX0_become l D cI cS a1 a2 a3 a4 a5 a11 a12 a13 a14 a15 ppl psp psy psh kpl ksp ksy ksh psc pnc pdy pzz ksc knc kdy kzz  (fX0_become_o0 ppl psp psy psh kpl ksp ksy ksh psc pnc pdy pzz ksc knc kdy kzz) (fX0_become_o1 ppl psp psy psh kpl ksp ksy ksh psc pnc pdy pzz ksc knc kdy kzz) (fX0_become_o2 ppl psp psy psh kpl ksp ksy ksh psc pnc pdy pzz ksc knc kdy kzz) (fX0_become_o3 ppl psp psy psh kpl ksp ksy ksh psc pnc pdy pzz ksc knc kdy kzz) (fX0_become_o4 ppl psp psy psh kpl ksp ksy ksh psc pnc pdy pzz ksc knc kdy kzz) (fX0_become_o5 ppl psp psy psh kpl ksp ksy ksh psc pnc pdy pzz ksc knc kdy kzz) (fX0_become_o6 ppl psp psy psh kpl ksp ksy ksh psc pnc pdy pzz ksc knc kdy kzz) (fX0_become_o7 ppl psp psy psh kpl ksp ksy ksh psc pnc pdy pzz ksc knc kdy kzz) (eeX0_become ..) (((hD (wX4 cI cS a0 a1 a2 a3 a4 a5 a6 a7 a8 a9 a10 a11 a12 a13 a14 a15 a16 a17 a18 a19 a20 a21 a22 ppl psp psy psh tpl tsp tsy tsh kpl ksp ksy ksh bs bt sz nm fd ik psc pnc pdy pzz tsc tnc tdy tzz ksc knc kdy kzz ln so be en va) rfl).sub [1, 2, 3, 4, 5, 11, 12, 13, 14, 15] (by decide) rfl).weaken (fun _ _ _ _ => trivial))) RX0 gX4_undo_X0_become rfl ⟨rfl, rfl⟩ pdX0_become rfl ⟨Nat.le_of_ble_eq_true rfl, Nat.le_of_ble_eq_true rfl⟩ (fun _ _ _ _ q => q) (va_recv hE.1 hPc (ci := 0) (q0 := 0) rfl rfl) (fun U hU _ _ => by rw [hU]; exact hPc) hl.1 rfl (Nat.le_of_ble_eq_true rfl) dX4_undo_22 ⟨Nat.zero_le _, Nat.zero_le _⟩) hP (hD _ rfl) hS rfl rfl rfl (fun H locs hP hS => ?_)
    refine lv_aload_n hx hb dX4_undo_25 rfl (lv_at hl 0 rfl) ?_
    refine va_get (D := D) (ci := 3) (v := .ref a1) (C := RX4) (T := TX4) (N := 7) hx hb hts hinX4 hown hE.1 hP 0 rfl rfl 0 (by decide) (hts _ (List.mem_of_getElem? (i := 3) rfl)) (fun _ h9 => h9) rfl dX4_undo_26 ?_
    refine va_getN (D := D) (ci := 0) (v := .int (fX0_become_o6 ppl psp psy psh kpl ksp ksy ksh psc pnc pdy pzz ksc knc kdy kzz)) (C := RX0) (T := TX0) (N := 8) hx hb hts hinX0 hown hE.1 hP 1 rfl rfl 6 (by decide) (va_Nw.use rfl (hE.2 _ (List.mem_of_getElem? (i := 4) rfl))) (fun _ h9 => h9) rfl dX4_undo_29 ?_
    obtain ⟨q0, g0⟩ := Prod.mk.inj (h)
    obtain ⟨q1, g1⟩ := Prod.mk.inj g0
    obtain ⟨q2, g2⟩ := Prod.mk.inj g1
    obtain ⟨q3, g3⟩ := Prod.mk.inj g2
    obtain ⟨q4, g4⟩ := Prod.mk.inj g3
    obtain ⟨q5, g5⟩ := Prod.mk.inj g4
    obtain ⟨q6, g6⟩ := Prod.mk.inj g5
    obtain ⟨q7, g7⟩ := Prod.mk.inj g6
    obtain ⟨q8, q9⟩ := Prod.mk.inj g7
    subst q0 q1 q2 q3 q4 q5 q6 q7 q8 q9
    exact eMi C0 hP hS rfl rfl dX4_undo_32
  · have h := ifp c_1 h
    refine lv_aload_n hx hb dX4_undo_7 rfl (lv_at hl 0 rfl) ?_
    refine lv_ldc (v := (-1000004)) hx hb hown (hts _ (List.mem_of_getElem? (i := 2) rfl)) dX4_undo_8 ?_
    have hPc := hP.sub (ws' := (wX4 cI cS a0 a1 a2 a3 a4 a5 a6 a7 a8 a9 a10 a11 a12 a13 a14 a15 a16 a17 a18 a19 a20 a21 a22 ppl psp psy psh tpl tsp tsy tsh kpl ksp ksy ksh bs bt sz nm fd ik psc pnc pdy pzz tsc tnc tdy tzz ksc knc kdy kzz ln so be en va)) [0, 1, 2, 3, 4, 5, 6, 7, 8, 9, 10, 11, 12, 13, 14, 15, 16, 17, 18, 19, 20, 21, 22] rfl
    refine kMi (wf' := (wX4 cI cS a0 a1 a2 a3 a4 a5 a6 a7 a8 a9 a10 a11 a12 a13 a14 a15 a16 a17 a18 a19 a20 a21 a22 ppl psp psy psh tpl tsp tsy tsh kpl ksp ksy ksh bs bt sz nm (fX4_finding_o1 fd (-1000004)) ik psc pnc pdy pzz tsc tnc tdy tzz ksc knc kdy kzz ln so be en va)) [0, 1, 2, 3, 4, 5, 6, 7, 8, 9, 10, 11, 12, 13, 14, 15, 16, 17, 18, 19, 20, 21, 22] [some 0, some 1, some 2, some 3, some 4, some 5, some 6, some 7, some 8, some 9, some 10, some 11, some 12, some 13, some 14, some 15, some 16, some 17, some 18, some 19, some 20, some 21, some 22] (rV C0 (tX4_finding l D cI cS a0 a1 a2 a3 a4 a5 a6 a7 a8 a9 a10 a11 a12 a13 a14 a15 a16 a17 a18 a19 a20 a21 a22 ppl psp psy psh tpl tsp tsy tsh kpl ksp ksy ksh bs bt sz nm fd ik psc pnc pdy pzz tsc tnc tdy tzz ksc knc kdy kzz ln so be en va (-1000004) (-1000004) (fX4_finding_o1 fd (-1000004)) (eeX4_finding ..) (((hD (wX4 cI cS a0 a1 a2 a3 a4 a5 a6 a7 a8 a9 a10 a11 a12 a13 a14 a15 a16 a17 a18 a19 a20 a21 a22 ppl psp psy psh tpl tsp tsy tsh kpl ksp ksy ksh bs bt sz nm fd ik psc pnc pdy pzz tsc tnc tdy tzz ksc knc kdy kzz ln so be en va) rfl).sub [0, 1, 2, 3, 4, 5, 6, 7, 8, 9, 10, 11, 12, 13, 14, 15, 16, 17, 18, 19, 20, 21, 22] (by decide) rfl).weaken (fun _ _ _ _ => trivial))) RX4 gX4_undo_X4_finding rfl ⟨rfl, rfl⟩ pdX4_finding rfl ⟨Nat.le_of_ble_eq_true rfl, Nat.le_of_ble_eq_true rfl⟩ (fun _ _ _ _ q => q) (va_recv hE.1 hPc (ci := 3) (q0 := 0) rfl rfl) (fun U hU _ _ => by rw [hU]; exact hPc) hl.1 rfl (Nat.le_of_ble_eq_true rfl) dX4_undo_10 ⟨Nat.zero_le _, Nat.zero_le _⟩) hP (hD _ rfl) hS rfl rfl rfl (fun H locs hP hS => ?_)
    obtain ⟨q0, g0⟩ := Prod.mk.inj (h)
    obtain ⟨q1, g1⟩ := Prod.mk.inj g0
    obtain ⟨q2, g2⟩ := Prod.mk.inj g1
    obtain ⟨q3, g3⟩ := Prod.mk.inj g2
    obtain ⟨q4, g4⟩ := Prod.mk.inj g3
    obtain ⟨q5, g5⟩ := Prod.mk.inj g4
    obtain ⟨q6, g6⟩ := Prod.mk.inj g5
    obtain ⟨q7, g7⟩ := Prod.mk.inj g6
    obtain ⟨q8, q9⟩ := Prod.mk.inj g7
    subst q0 q1 q2 q3 q4 q5 q6 q7 q8 q9
    exact eMi C0 hP hS rfl rfl dX4_undo_13
def fX4_tear (ik : Int32) : Int32 × Int32 := (if ik = 0 then (0, 0) else (1, 0))
def fX4_tear_o0 (ik : Int32) : Int32 := (fX4_tear ik).1
def fX4_tear_o1 (ik : Int32) : Int32 := (fX4_tear ik).2
theorem eeX4_tear (ik : Int32) : fX4_tear ik = (fX4_tear_o0 ik, fX4_tear_o1 ik) := rfl
abbrev rmX4_tear : Room := { frames := 0, cells := 0, slots := 0, locals := 0 }
theorem pdX4_tear : (yX4_tear.cls = RX4 ∧ yX4_tear.cls ≠ "java/lang/invoke/MethodHandle" ∧ yX4_tear.cls ≠ "java/lang/invoke/VarHandle" ∧ (parseMethodDescriptor yX4_tear.desc).map (fun d => d.parameters.length) = some 0) := by decide +kernel
set_option maxHeartbeats 4000000 in
set_option maxRecDepth 100000 in
theorem tX4_tear (l : Launch) (D : va_G) (cI cS : ClassId) (a0 a1 a2 a3 a4 a5 a6 a7 a8 a9 a10 a11 a12 a13 a14 a15 a16 a17 a18 a19 a20 a21 a22 : Nat) (ppl : Nat → Int32) (psp : Nat → Int32) (psy : Nat → Int32) (psh : Nat → Int32) (tpl : Nat → Int32) (tsp : Nat → Int32) (tsy : Nat → Int32) (tsh : Nat → Int32) (kpl : Nat → Int32) (ksp : Nat → Int32) (ksy : Nat → Int32) (ksh : Nat → Int32) (bs : Nat → Int32) (bt : Nat → Int32) (sz : Nat → Int32) (nm : Nat → Int32) (fd : Nat → Int32) (ik : Int32) (psc : Int32) (pnc : Int32) (pdy : Int32) (pzz : Int32) (tsc : Int32) (tnc : Int32) (tdy : Int32) (tzz : Int32) (ksc : Int32) (knc : Int32) (kdy : Int32) (kzz : Int32) (ln : Int32) (so : Int32) (be : Int32) (en : Int32) (va : Int32) (z0 : Int32) (z1 : Int32) (h : fX4_tear ik = (z0, z1)) (hD0 : va_D (fun _ => True) (wX4 cI cS a0 a1 a2 a3 a4 a5 a6 a7 a8 a9 a10 a11 a12 a13 a14 a15 a16 a17 a18 a19 a20 a21 a22 ppl psp psy psh tpl tsp tsy tsh kpl ksp ksy ksh bs bt sz nm fd ik psc pnc pdy pzz tsc tnc tdy tzz ksc knc kdy kzz ln so be en va)) : Met l yX4_tear wsX4_tear rmX4_tear (PZ D cI cS [.ref a0] (fun U => va_P D vwCl (wX4 cI cS a0 a1 a2 a3 a4 a5 a6 a7 a8 a9 a10 a11 a12 a13 a14 a15 a16 a17 a18 a19 a20 a21 a22 ppl psp psy psh tpl tsp tsy tsh kpl ksp ksy ksh bs bt sz nm fd ik psc pnc pdy pzz tsc tnc tdy tzz ksc knc kdy kzz ln so be en va) U.heap)) (qI D (wX4 cI cS a0 a1 a2 a3 a4 a5 a6 a7 a8 a9 a10 a11 a12 a13 a14 a15 a16 a17 a18 a19 a20 a21 a22 ppl psp psy psh tpl tsp tsy tsh kpl ksp ksy ksh bs bt sz nm fd ik psc pnc pdy pzz tsc tnc tdy tzz ksc knc kdy kzz ln so be en va) (wX4 cI cS a0 a1 a2 a3 a4 a5 a6 a7 a8 a9 a10 a11 a12 a13 a14 a15 a16 a17 a18 a19 a20 a21 a22 ppl psp psy psh tpl tsp tsy tsh kpl ksp ksy ksh bs bt sz nm fd z1 psc pnc pdy pzz tsc tnc tdy tzz ksc knc kdy kzz ln so be en va) z0) 0 0 (wA (wX4 cI cS a0 a1 a2 a3 a4 a5 a6 a7 a8 a9 a10 a11 a12 a13 a14 a15 a16 a17 a18 a19 a20 a21 a22 ppl psp psy psh tpl tsp tsy tsh kpl ksp ksy ksh bs bt sz nm fd ik psc pnc pdy pzz tsc tnc tdy tzz ksc knc kdy kzz ln so be en va)) := by
  refine Met.mk RX4 (by decide) rfl rfl (Nat.le_of_ble_eq_true rfl) ?_
  intro p e s m below meth c ls C0 hP hl
  have hl : lv_has ls 2 [(0, .ref a0)] := hl
  obtain ⟨hx, hb, hr, hml, hown, hts, hlk, hE⟩ := id C0
  have hinX4 : ∀ w ∈ u_ws RX4 TX4 7, w ∈ wsX4_tear := by decide +kernel
  have hD : ∀ W : va_W, W.map Prod.fst = [a0, a1, a2, a3, a4, a5, a6, a7, a8, a9, a10, a11, a12, a13, a14, a15, a16, a17, a18, a19, a20, a21, a22] → va_D (wA (wX4 cI cS a0 a1 a2 a3 a4 a5 a6 a7 a8 a9 a10 a11 a12 a13 a14 a15 a16 a17 a18 a19 a20 a21 a22 ppl psp psy psh tpl tsp tsy tsh kpl ksp ksy ksh bs bt sz nm fd ik psc pnc pdy pzz tsc tnc tdy tzz ksc knc kdy kzz ln so be en va)) W := fun W hW => hD0.own.re hW
  have hS : va_S (wA (wX4 cI cS a0 a1 a2 a3 a4 a5 a6 a7 a8 a9 a10 a11 a12 a13 a14 a15 a16 a17 a18 a19 a20 a21 a22 ppl psp psy psh tpl tsp tsy tsh kpl ksp ksy ksh bs bt sz nm fd ik psc pnc pdy pzz tsc tnc tdy tzz ksc knc kdy kzz ln so be en va)) s.heap s.heap [] := va_S.rf
  have hP : va_P D vwCl (wX4 cI cS a0 a1 a2 a3 a4 a5 a6 a7 a8 a9 a10 a11 a12 a13 a14 a15 a16 a17 a18 a19 a20 a21 a22 ppl psp psy psh tpl tsp tsy tsh kpl ksp ksy ksh bs bt sz nm fd ik psc pnc pdy pzz tsc tnc tdy tzz ksc knc kdy kzz ln so be en va) s.heap := hP
  rw [fX4_tear] at h
  refine lv_aload_n hx hb dX4_tear_0 rfl (lv_at hl 0 rfl) ?_
  refine va_get (D := D) (ci := 3) (v := .int ik) (C := RX4) (T := TX4) (N := 7) hx hb hts hinX4 hown hE.1 hP 0 rfl rfl 3 (by decide) (hts _ (List.mem_of_getElem? (i := 1) rfl)) (fun _ h9 => h9) rfl dX4_tear_1 ?_
  refine lv_if_eq (tgt := 11) hx hb dX4_tear_4 (by decide) (fun c_1 => ?_) (fun c_1 => ?_)
  · have h := ifp c_1 h
    refine lv_iconst (v := 0) hx hb dX4_tear_11 (by decide) ?_
    refine lv_istore_n (lv' := [(1, .int 0), (0, .ref a0)]) hx hb dX4_tear_12 rfl hl (by decide) rfl (fun ls hl => ?_)
    refine lv_aload_n hx hb dX4_tear_13 rfl (lv_at hl 1 rfl) ?_
    refine lv_iconst (v := 0) hx hb dX4_tear_14 (by decide) ?_
    refine va_put (D := D) (ci := 3) (v := .int 0) (ty := .boolean) (C := RX4) (T := TX4) (N := 7) hx hb hts hinX4 tyX4 tyX4_ok nmX4 hown hE.1 hP (hD _ rfl) hS 0 rfl rfl 3 (by decide) (hts _ (List.mem_of_getElem? (i := 1) rfl)) (fun _ h9 => h9) rfl (by decide +kernel) rfl rfl (Nat.le_of_ble_eq_true rfl) dX4_tear_15 (fun H locs hP _ hS => ?_)
    have hP : va_P D vwCl (wX4 cI cS a0 a1 a2 a3 a4 a5 a6 a7 a8 a9 a10 a11 a12 a13 a14 a15 a16 a17 a18 a19 a20 a21 a22 ppl psp psy psh tpl tsp tsy tsh kpl ksp ksy ksh bs bt sz nm fd 0 psc pnc pdy pzz tsc tnc tdy tzz ksc knc kdy kzz ln so be en va) H := hP
    refine lv_iload_n hx hb dX4_tear_18 rfl (lv_at hl 0 rfl) ?_
    obtain ⟨q0, q1⟩ := Prod.mk.inj (h)
    subst q0 q1
    exact eMi C0 hP hS rfl rfl dX4_tear_19
  · have h := ifn c_1 h
    refine lv_iconst (v := 1) hx hb dX4_tear_7 (by decide) ?_
    refine lv_goto (tgt := 12) hx hb dX4_tear_8 (by decide) ?_
    refine lv_istore_n (lv' := [(1, .int 1), (0, .ref a0)]) hx hb dX4_tear_12 rfl hl (by decide) rfl (fun ls hl => ?_)
    refine lv_aload_n hx hb dX4_tear_13 rfl (lv_at hl 1 rfl) ?_
    refine lv_iconst (v := 0) hx hb dX4_tear_14 (by decide) ?_
    refine va_put (D := D) (ci := 3) (v := .int 0) (ty := .boolean) (C := RX4) (T := TX4) (N := 7) hx hb hts hinX4 tyX4 tyX4_ok nmX4 hown hE.1 hP (hD _ rfl) hS 0 rfl rfl 3 (by decide) (hts _ (List.mem_of_getElem? (i := 1) rfl)) (fun _ h9 => h9) rfl (by decide +kernel) rfl rfl (Nat.le_of_ble_eq_true rfl) dX4_tear_15 (fun H locs hP _ hS => ?_)
    have hP : va_P D vwCl (wX4 cI cS a0 a1 a2 a3 a4 a5 a6 a7 a8 a9 a10 a11 a12 a13 a14 a15 a16 a17 a18 a19 a20 a21 a22 ppl psp psy psh tpl tsp tsy tsh kpl ksp ksy ksh bs bt sz nm fd 0 psc pnc pdy pzz tsc tnc tdy tzz ksc knc kdy kzz ln so be en va) H := hP
    refine lv_iload_n hx hb dX4_tear_18 rfl (lv_at hl 0 rfl) ?_
    obtain ⟨q0, q1⟩ := Prod.mk.inj (h)
    subst q0 q1
    exact eMi C0 hP hS rfl rfl dX4_tear_19
def fX4_count (F : Nat) (psp : Nat → Int32) (psy : Nat → Int32) (psh : Nat → Int32) (fd : Nat → Int32) (psc : Int32) (pnc : Int32) (pdy : Int32) (pzz : Int32) (ln : Int32) (v1 : Int32) : Option (Int32 × (Nat → Int32)) := (if v1 = 0 then some (pdy, fd) else if v1 = 1 then some (psc, fd) else if v1 = 2 then some (pnc, fd) else if v1 = 3 then Option.bind (fX0_waitedTogether F psh pnc) (fun z_5 => some (z_5, fd)) else if v1 = 4 then Option.bind (fX0_finishedSayings F psy psc) (fun z_8 => some ((fJ6_bitCount_0f7a4 z_8), fd)) else if v1 = 5 then some (ln, fd) else if v1 = 6 then some (pzz, fd) else if v1 = 7 then Option.bind (fX0_spotsThatHold F psp) (fun z_13 => some (z_13, fd)) else some ((-1000001), fX4_finding_o1 fd (-1000001)))
abbrev rmX4_count : Room := { frames := 3, cells := 0, slots := 0, locals := 66 }
theorem pdX4_count : (yX4_count.cls = RX4 ∧ yX4_count.cls ≠ "java/lang/invoke/MethodHandle" ∧ yX4_count.cls ≠ "java/lang/invoke/VarHandle" ∧ (parseMethodDescriptor yX4_count.desc).map (fun d => d.parameters.length) = some 1) := by decide +kernel
set_option maxHeartbeats 4000000 in
set_option maxRecDepth 100000 in
theorem tX4_count (l : Launch) (D : va_G) (cI cS : ClassId) (F : Nat) (a0 a1 a2 a3 a4 a5 a6 a7 a8 a9 a10 a11 a12 a13 a14 a15 a16 a17 a18 a19 a20 a21 a22 : Nat) (ppl : Nat → Int32) (psp : Nat → Int32) (psy : Nat → Int32) (psh : Nat → Int32) (tpl : Nat → Int32) (tsp : Nat → Int32) (tsy : Nat → Int32) (tsh : Nat → Int32) (kpl : Nat → Int32) (ksp : Nat → Int32) (ksy : Nat → Int32) (ksh : Nat → Int32) (bs : Nat → Int32) (bt : Nat → Int32) (sz : Nat → Int32) (nm : Nat → Int32) (fd : Nat → Int32) (ik : Int32) (psc : Int32) (pnc : Int32) (pdy : Int32) (pzz : Int32) (tsc : Int32) (tnc : Int32) (tdy : Int32) (tzz : Int32) (ksc : Int32) (knc : Int32) (kdy : Int32) (kzz : Int32) (ln : Int32) (so : Int32) (be : Int32) (en : Int32) (va : Int32) (v1 : Int32) (z0 : Int32) (z1 : Nat → Int32) (h : fX4_count F psp psy psh fd psc pnc pdy pzz ln v1 = some (z0, z1)) (hD0 : va_D (fun _ => True) (wX4 cI cS a0 a1 a2 a3 a4 a5 a6 a7 a8 a9 a10 a11 a12 a13 a14 a15 a16 a17 a18 a19 a20 a21 a22 ppl psp psy psh tpl tsp tsy tsh kpl ksp ksy ksh bs bt sz nm fd ik psc pnc pdy pzz tsc tnc tdy tzz ksc knc kdy kzz ln so be en va)) : Met l yX4_count wsX4_count rmX4_count (PZ D cI cS [.ref a0, .int v1] (fun U => va_P D vwCl (wX4 cI cS a0 a1 a2 a3 a4 a5 a6 a7 a8 a9 a10 a11 a12 a13 a14 a15 a16 a17 a18 a19 a20 a21 a22 ppl psp psy psh tpl tsp tsy tsh kpl ksp ksy ksh bs bt sz nm fd ik psc pnc pdy pzz tsc tnc tdy tzz ksc knc kdy kzz ln so be en va) U.heap)) (qI D (wX4 cI cS a0 a1 a2 a3 a4 a5 a6 a7 a8 a9 a10 a11 a12 a13 a14 a15 a16 a17 a18 a19 a20 a21 a22 ppl psp psy psh tpl tsp tsy tsh kpl ksp ksy ksh bs bt sz nm fd ik psc pnc pdy pzz tsc tnc tdy tzz ksc knc kdy kzz ln so be en va) (wX4 cI cS a0 a1 a2 a3 a4 a5 a6 a7 a8 a9 a10 a11 a12 a13 a14 a15 a16 a17 a18 a19 a20 a21 a22 ppl psp psy psh tpl tsp tsy tsh kpl ksp ksy ksh bs bt sz nm z1 ik psc pnc pdy pzz tsc tnc tdy tzz ksc knc kdy kzz ln so be en va) z0) 0 0 (wA (wX4 cI cS a0 a1 a2 a3 a4 a5 a6 a7 a8 a9 a10 a11 a12 a13 a14 a15 a16 a17 a18 a19 a20 a21 a22 ppl psp psy psh tpl tsp tsy tsh kpl ksp ksy ksh bs bt sz nm fd ik psc pnc pdy pzz tsc tnc tdy tzz ksc knc kdy kzz ln so be en va)) := by
  refine Met.mk RX4 (by decide) rfl rfl (Nat.le_of_ble_eq_true rfl) ?_
  intro p e s m below meth c ls C0 hP hl
  have hl : lv_has ls 2 [(0, .ref a0), (1, .int v1)] := hl
  obtain ⟨hx, hb, hr, hml, hown, hts, hlk, hE⟩ := id C0
  have hinX0 : ∀ w ∈ u_ws RX0 TX0 8, w ∈ wsX4_count := by decide +kernel
  have hinX3 : ∀ w ∈ u_ws RX3 TX3 6, w ∈ wsX4_count := by decide +kernel
  have hinX4 : ∀ w ∈ u_ws RX4 TX4 7, w ∈ wsX4_count := by decide +kernel
  have hD : ∀ W : va_W, W.map Prod.fst = [a0, a1, a2, a3, a4, a5, a6, a7, a8, a9, a10, a11, a12, a13, a14, a15, a16, a17, a18, a19, a20, a21, a22] → va_D (wA (wX4 cI cS a0 a1 a2 a3 a4 a5 a6 a7 a8 a9 a10 a11 a12 a13 a14 a15 a16 a17 a18 a19 a20 a21 a22 ppl psp psy psh tpl tsp tsy tsh kpl ksp ksy ksh bs bt sz nm fd ik psc pnc pdy pzz tsc tnc tdy tzz ksc knc kdy kzz ln so be en va)) W := fun W hW => hD0.own.re hW
  have hS : va_S (wA (wX4 cI cS a0 a1 a2 a3 a4 a5 a6 a7 a8 a9 a10 a11 a12 a13 a14 a15 a16 a17 a18 a19 a20 a21 a22 ppl psp psy psh tpl tsp tsy tsh kpl ksp ksy ksh bs bt sz nm fd ik psc pnc pdy pzz tsc tnc tdy tzz ksc knc kdy kzz ln so be en va)) s.heap s.heap [] := va_S.rf
  have hP : va_P D vwCl (wX4 cI cS a0 a1 a2 a3 a4 a5 a6 a7 a8 a9 a10 a11 a12 a13 a14 a15 a16 a17 a18 a19 a20 a21 a22 ppl psp psy psh tpl tsp tsy tsh kpl ksp ksy ksh bs bt sz nm fd ik psc pnc pdy pzz tsc tnc tdy tzz ksc knc kdy kzz ln so be en va) s.heap := hP
  rw [fX4_count] at h
  refine lv_iload_n hx hb dX4_count_0 rfl (lv_at hl 1 rfl) ?_
  by_cases c_1 : v1 = 0
  · have h := ifp c_1 h
    refine lv_tableIn (tgt := 48) hx hb dX4_count_1 (by rw [c_1]; decide) (by rw [c_1]; decide) (by rw [c_1]; rfl) (by decide) ?_
    refine lv_aload_n hx hb dX4_count_48 rfl (lv_at hl 0 rfl) ?_
    refine va_get (D := D) (ci := 3) (v := .ref a1) (C := RX4) (T := TX4) (N := 7) hx hb hts hinX4 hown hE.1 hP 0 rfl rfl 0 (by decide) (hts _ (List.mem_of_getElem? (i := 1) rfl)) (fun _ h9 => h9) rfl dX4_count_49 ?_
    refine va_getN (D := D) (ci := 0) (v := .int pdy) (C := RX0) (T := TX0) (N := 8) hx hb hts hinX0 hown hE.1 hP 1 rfl rfl 6 (by decide) (va_Nw.use rfl (hE.2 _ (List.mem_of_getElem? (i := 4) rfl))) (fun _ h9 => h9) rfl dX4_count_52 ?_
    obtain ⟨q0, q1⟩ := Prod.mk.inj (Option.some.inj h)
    subst q0 q1
    exact eMi C0 hP hS rfl rfl dX4_count_55
  have h := ifn c_1 h
  by_cases c_2 : v1 = 1
  · have h := ifp c_2 h
    refine lv_tableIn (tgt := 56) hx hb dX4_count_1 (by rw [c_2]; decide) (by rw [c_2]; decide) (by rw [c_2]; rfl) (by decide) ?_
    refine lv_aload_n hx hb dX4_count_56 rfl (lv_at hl 0 rfl) ?_
    refine va_get (D := D) (ci := 3) (v := .ref a1) (C := RX4) (T := TX4) (N := 7) hx hb hts hinX4 hown hE.1 hP 0 rfl rfl 0 (by decide) (hts _ (List.mem_of_getElem? (i := 1) rfl)) (fun _ h9 => h9) rfl dX4_count_57 ?_
    refine va_getN (D := D) (ci := 0) (v := .int psc) (C := RX0) (T := TX0) (N := 8) hx hb hts hinX0 hown hE.1 hP 1 rfl rfl 4 (by decide) (va_Nw.use rfl (hE.2 _ (List.mem_of_getElem? (i := 0) rfl))) (fun _ h9 => h9) rfl dX4_count_60 ?_
    obtain ⟨q0, q1⟩ := Prod.mk.inj (Option.some.inj h)
    subst q0 q1
    exact eMi C0 hP hS rfl rfl dX4_count_63
  have h := ifn c_2 h
  by_cases c_3 : v1 = 2
  · have h := ifp c_3 h
    refine lv_tableIn (tgt := 64) hx hb dX4_count_1 (by rw [c_3]; decide) (by rw [c_3]; decide) (by rw [c_3]; rfl) (by decide) ?_
    refine lv_aload_n hx hb dX4_count_64 rfl (lv_at hl 0 rfl) ?_
    refine va_get (D := D) (ci := 3) (v := .ref a1) (C := RX4) (T := TX4) (N := 7) hx hb hts hinX4 hown hE.1 hP 0 rfl rfl 0 (by decide) (hts _ (List.mem_of_getElem? (i := 1) rfl)) (fun _ h9 => h9) rfl dX4_count_65 ?_
    refine va_getN (D := D) (ci := 0) (v := .int pnc) (C := RX0) (T := TX0) (N := 8) hx hb hts hinX0 hown hE.1 hP 1 rfl rfl 5 (by decide) (va_Nw.use rfl (hE.2 _ (List.mem_of_getElem? (i := 2) rfl))) (fun _ h9 => h9) rfl dX4_count_68 ?_
    obtain ⟨q0, q1⟩ := Prod.mk.inj (Option.some.inj h)
    subst q0 q1
    exact eMi C0 hP hS rfl rfl dX4_count_71
  have h := ifn c_3 h
  by_cases c_4 : v1 = 3
  · have h := ifp c_4 h
    refine lv_tableIn (tgt := 72) hx hb dX4_count_1 (by rw [c_4]; decide) (by rw [c_4]; decide) (by rw [c_4]; rfl) (by decide) ?_
    refine lv_aload_n hx hb dX4_count_72 rfl (lv_at hl 0 rfl) ?_
    refine va_get (D := D) (ci := 3) (v := .ref a1) (C := RX4) (T := TX4) (N := 7) hx hb hts hinX4 hown hE.1 hP 0 rfl rfl 0 (by decide) (hts _ (List.mem_of_getElem? (i := 1) rfl)) (fun _ h9 => h9) rfl dX4_count_73 ?_
    obtain ⟨z_5, e_6, h⟩ := bds h
    have hPc := hP.sub (ws' := (wX0 cI cS a1 a2 a3 a4 a5 ppl psp psy psh psc pnc pdy pzz)) [1, 2, 3, 4, 5] rfl
    refine kRi (rV C0 (tX0_waitedTogether l D cI cS F a1 a2 a3 a4 a5 ppl psp psy psh psc pnc pdy pzz  z_5 e_6) RX0 gX4_count_X0_waitedTogether rfl ⟨rfl, rfl⟩ pdX0_waitedTogether rfl ⟨Nat.le_of_ble_eq_true rfl, Nat.le_of_ble_eq_true rfl⟩ (fun _ _ _ _ q => q) (va_recv hE.1 hPc (ci := 0) (q0 := 0) rfl rfl) (fun U hU _ _ => by rw [hU]; exact hPc) hl.1 rfl (Nat.le_of_ble_eq_true rfl) dX4_count_76 ⟨Nat.zero_le _, Nat.zero_le _⟩) ?_
    obtain ⟨q0, q1⟩ := Prod.mk.inj (Option.some.inj h)
    subst q0 q1
    exact eMi C0 hP hS rfl rfl dX4_count_79
  have h := ifn c_4 h
  by_cases c_7 : v1 = 4
  · have h := ifp c_7 h
    refine lv_tableIn (tgt := 80) hx hb dX4_count_1 (by rw [c_7]; decide) (by rw [c_7]; decide) (by rw [c_7]; rfl) (by decide) ?_
    refine lv_aload_n hx hb dX4_count_80 rfl (lv_at hl 0 rfl) ?_
    refine va_get (D := D) (ci := 3) (v := .ref a1) (C := RX4) (T := TX4) (N := 7) hx hb hts hinX4 hown hE.1 hP 0 rfl rfl 0 (by decide) (hts _ (List.mem_of_getElem? (i := 1) rfl)) (fun _ h9 => h9) rfl dX4_count_81 ?_
    obtain ⟨z_8, e_9, h⟩ := bds h
    have hPc := hP.sub (ws' := (wX0 cI cS a1 a2 a3 a4 a5 ppl psp psy psh psc pnc pdy pzz)) [1, 2, 3, 4, 5] rfl
    refine kRi (rV C0 (tX0_finishedSayings l D cI cS F a1 a2 a3 a4 a5 ppl psp psy psh psc pnc pdy pzz  z_8 e_9) RX0 gX4_count_X0_finishedSayings rfl ⟨rfl, rfl⟩ pdX0_finishedSayings rfl ⟨Nat.le_of_ble_eq_true rfl, Nat.le_of_ble_eq_true rfl⟩ (fun _ _ _ _ q => q) (va_recv hE.1 hPc (ci := 0) (q0 := 0) rfl rfl) (fun U hU _ _ => by rw [hU]; exact hPc) hl.1 rfl (Nat.le_of_ble_eq_true rfl) dX4_count_84 ⟨Nat.zero_le _, Nat.zero_le _⟩) ?_
    refine kRi (rS C0 (tJ6_bitCount_0f7a4 l D cI cS z_8 (fJ6_bitCount_0f7a4 z_8) rfl) gX4_count_J6_bitCount_0f7a4 rfl ⟨rfl, rfl⟩ pdJ6_bitCount_0f7a4 rfl ⟨Nat.le_of_ble_eq_true rfl, Nat.le_of_ble_eq_true rfl⟩ (fun _ _ _ _ q => q) (fun _ _ _ _ => vp0) hl.1 rfl (Nat.le_of_ble_eq_true rfl) dX4_count_87 ⟨Nat.zero_le _, Nat.zero_le _⟩) ?_
    obtain ⟨q0, q1⟩ := Prod.mk.inj (Option.some.inj h)
    subst q0 q1
    exact eMi C0 hP hS rfl rfl dX4_count_90
  have h := ifn c_7 h
  by_cases c_10 : v1 = 5
  · have h := ifp c_10 h
    refine lv_tableIn (tgt := 91) hx hb dX4_count_1 (by rw [c_10]; decide) (by rw [c_10]; decide) (by rw [c_10]; rfl) (by decide) ?_
    refine lv_aload_n hx hb dX4_count_91 rfl (lv_at hl 0 rfl) ?_
    refine va_get (D := D) (ci := 3) (v := .ref a16) (C := RX4) (T := TX4) (N := 7) hx hb hts hinX4 hown hE.1 hP 0 rfl rfl 4 (by decide) (hts _ (List.mem_of_getElem? (i := 2) rfl)) (fun _ h9 => h9) rfl dX4_count_92 ?_
    refine va_getN (D := D) (ci := 2) (v := .int ln) (C := RX3) (T := TX3) (N := 6) hx hb hts hinX3 hown hE.1 hP 16 rfl rfl 1 (by decide) (va_Nw.use rfl (hE.2 _ (List.mem_of_getElem? (i := 7) rfl))) (fun _ h9 => h9) rfl dX4_count_95 ?_
    obtain ⟨q0, q1⟩ := Prod.mk.inj (Option.some.inj h)
    subst q0 q1
    exact eMi C0 hP hS rfl rfl dX4_count_98
  have h := ifn c_10 h
  by_cases c_11 : v1 = 6
  · have h := ifp c_11 h
    refine lv_tableIn (tgt := 99) hx hb dX4_count_1 (by rw [c_11]; decide) (by rw [c_11]; decide) (by rw [c_11]; rfl) (by decide) ?_
    refine lv_aload_n hx hb dX4_count_99 rfl (lv_at hl 0 rfl) ?_
    refine va_get (D := D) (ci := 3) (v := .ref a1) (C := RX4) (T := TX4) (N := 7) hx hb hts hinX4 hown hE.1 hP 0 rfl rfl 0 (by decide) (hts _ (List.mem_of_getElem? (i := 1) rfl)) (fun _ h9 => h9) rfl dX4_count_100 ?_
    refine va_getN (D := D) (ci := 0) (v := .int pzz) (C := RX0) (T := TX0) (N := 8) hx hb hts hinX0 hown hE.1 hP 1 rfl rfl 7 (by decide) (va_Nw.use rfl (hE.2 _ (List.mem_of_getElem? (i := 5) rfl))) (fun _ h9 => h9) rfl dX4_count_103 ?_
    obtain ⟨q0, q1⟩ := Prod.mk.inj (Option.some.inj h)
    subst q0 q1
    exact eMi C0 hP hS rfl rfl dX4_count_106
  have h := ifn c_11 h
  by_cases c_12 : v1 = 7
  · have h := ifp c_12 h
    refine lv_tableIn (tgt := 107) hx hb dX4_count_1 (by rw [c_12]; decide) (by rw [c_12]; decide) (by rw [c_12]; rfl) (by decide) ?_
    refine lv_aload_n hx hb dX4_count_107 rfl (lv_at hl 0 rfl) ?_
    refine va_get (D := D) (ci := 3) (v := .ref a1) (C := RX4) (T := TX4) (N := 7) hx hb hts hinX4 hown hE.1 hP 0 rfl rfl 0 (by decide) (hts _ (List.mem_of_getElem? (i := 1) rfl)) (fun _ h9 => h9) rfl dX4_count_108 ?_
    obtain ⟨z_13, e_14, h⟩ := bds h
    have hPc := hP.sub (ws' := (wX0 cI cS a1 a2 a3 a4 a5 ppl psp psy psh psc pnc pdy pzz)) [1, 2, 3, 4, 5] rfl
    refine kRi (rV C0 (tX0_spotsThatHold l D cI cS F a1 a2 a3 a4 a5 ppl psp psy psh psc pnc pdy pzz  z_13 e_14) RX0 gX4_count_X0_spotsThatHold rfl ⟨rfl, rfl⟩ pdX0_spotsThatHold rfl ⟨Nat.le_of_ble_eq_true rfl, Nat.le_of_ble_eq_true rfl⟩ (fun _ _ _ _ q => q) (va_recv hE.1 hPc (ci := 0) (q0 := 0) rfl rfl) (fun U hU _ _ => by rw [hU]; exact hPc) hl.1 rfl (Nat.le_of_ble_eq_true rfl) dX4_count_111 ⟨Nat.zero_le _, Nat.zero_le _⟩) ?_
    obtain ⟨q0, q1⟩ := Prod.mk.inj (Option.some.inj h)
    subst q0 q1
    exact eMi C0 hP hS rfl rfl dX4_count_114
  have h := ifn c_12 h
  refine lv_tableOut (tgt := 115) hx hb dX4_count_1 (tb0 (tbS (k := 0) (by decide) c_1 (tbS (k := 1) (by decide) c_2 (tbS (k := 2) (by decide) c_3 (tbS (k := 3) (by decide) c_4 (tbS (k := 4) (by decide) c_7 (tbS (k := 5) (by decide) c_10 (tbS (k := 6) (by decide) c_11 (tbS (k := 7) (by decide) c_12 (tbE (by decide))))))))))) (by decide) ?_
  refine lv_aload_n hx hb dX4_count_115 rfl (lv_at hl 0 rfl) ?_
  refine lv_ldc (v := (-1000001)) hx hb hown (hts _ (List.mem_of_getElem? (i := 3) rfl)) dX4_count_116 ?_
  have hPc := hP.sub (ws' := (wX4 cI cS a0 a1 a2 a3 a4 a5 a6 a7 a8 a9 a10 a11 a12 a13 a14 a15 a16 a17 a18 a19 a20 a21 a22 ppl psp psy psh tpl tsp tsy tsh kpl ksp ksy ksh bs bt sz nm fd ik psc pnc pdy pzz tsc tnc tdy tzz ksc knc kdy kzz ln so be en va)) [0, 1, 2, 3, 4, 5, 6, 7, 8, 9, 10, 11, 12, 13, 14, 15, 16, 17, 18, 19, 20, 21, 22] rfl
  refine kMi (wf' := (wX4 cI cS a0 a1 a2 a3 a4 a5 a6 a7 a8 a9 a10 a11 a12 a13 a14 a15 a16 a17 a18 a19 a20 a21 a22 ppl psp psy psh tpl tsp tsy tsh kpl ksp ksy ksh bs bt sz nm (fX4_finding_o1 fd (-1000001)) ik psc pnc pdy pzz tsc tnc tdy tzz ksc knc kdy kzz ln so be en va)) [0, 1, 2, 3, 4, 5, 6, 7, 8, 9, 10, 11, 12, 13, 14, 15, 16, 17, 18, 19, 20, 21, 22] [some 0, some 1, some 2, some 3, some 4, some 5, some 6, some 7, some 8, some 9, some 10, some 11, some 12, some 13, some 14, some 15, some 16, some 17, some 18, some 19, some 20, some 21, some 22] (rV C0 (tX4_finding l D cI cS a0 a1 a2 a3 a4 a5 a6 a7 a8 a9 a10 a11 a12 a13 a14 a15 a16 a17 a18 a19 a20 a21 a22 ppl psp psy psh tpl tsp tsy tsh kpl ksp ksy ksh bs bt sz nm fd ik psc pnc pdy pzz tsc tnc tdy tzz ksc knc kdy kzz ln so be en va (-1000001) (-1000001) (fX4_finding_o1 fd (-1000001)) (eeX4_finding ..) (((hD (wX4 cI cS a0 a1 a2 a3 a4 a5 a6 a7 a8 a9 a10 a11 a12 a13 a14 a15 a16 a17 a18 a19 a20 a21 a22 ppl psp psy psh tpl tsp tsy tsh kpl ksp ksy ksh bs bt sz nm fd ik psc pnc pdy pzz tsc tnc tdy tzz ksc knc kdy kzz ln so be en va) rfl).sub [0, 1, 2, 3, 4, 5, 6, 7, 8, 9, 10, 11, 12, 13, 14, 15, 16, 17, 18, 19, 20, 21, 22] (by decide) rfl).weaken (fun _ _ _ _ => trivial))) RX4 gX4_count_X4_finding rfl ⟨rfl, rfl⟩ pdX4_finding rfl ⟨Nat.le_of_ble_eq_true rfl, Nat.le_of_ble_eq_true rfl⟩ (fun _ _ _ _ q => q) (va_recv hE.1 hPc (ci := 3) (q0 := 0) rfl rfl) (fun U hU _ _ => by rw [hU]; exact hPc) hl.1 rfl (Nat.le_of_ble_eq_true rfl) dX4_count_118 ⟨Nat.zero_le _, Nat.zero_le _⟩) hP (hD _ rfl) hS rfl rfl rfl (fun H locs hP hS => ?_)
  obtain ⟨q0, q1⟩ := Prod.mk.inj (Option.some.inj h)
  subst q0 q1
  exact eMi C0 hP hS rfl rfl dX4_count_121
def fX4_status_44 (fd : Nat → Int32) (v4 : Int32) : Nat → Int32 → Int32 → Option (Int32 × (Nat → Int32))
  | 0, _, _ => none
  | n + 1, v2, v5 => (if v4 ≤ v5 then some (v2, fd) else if ¬ (v5 < 0 ∨ 7 ≤ v5.toNatClampNeg) then fX4_status_44 fd v4 n (v2 + (fd v5.toNatClampNeg)) (v5 + 1) else none)
def fX4_status (F : Nat) (fd : Nat → Int32) (v1 : Int32) : Option (Int32 × (Nat → Int32)) := (if (fX4_within v1 (-1) 6) = 0 then some ((-1000001), fX4_finding_o1 fd (-1000001)) else (if v1 < 0 then fX4_status_44 fd 7 F 0 0 else some (fX4_numberAt 7 fd v1, fd)))
abbrev rmX4_status : Room := { frames := 2, cells := 0, slots := 0, locals := 44 }
theorem pdX4_status : (yX4_status.cls = RX4 ∧ yX4_status.cls ≠ "java/lang/invoke/MethodHandle" ∧ yX4_status.cls ≠ "java/lang/invoke/VarHandle" ∧ (parseMethodDescriptor yX4_status.desc).map (fun d => d.parameters.length) = some 1) := by decide +kernel
set_option maxHeartbeats 4000000 in
set_option maxRecDepth 100000 in
theorem lX4_status_44 {p : Program} {l : Launch} {e : Env} {s : State} {m : MethodId} {av : Array Value} {below : List Frame} {meth : Method} {c : Code} {D : va_G} {cI cS : ClassId} {a0 a1 a2 a3 a4 a5 a6 a7 a8 a9 a10 a11 a12 a13 a14 a15 a16 a17 a18 a19 a20 a21 a22 : Nat} {W0 : va_W} (C0 : CX p s m av meth c RX4 cX4_status 7 (some .int) wsX4_status D cI cS) (F : Nat) (ppl : Nat → Int32) (psp : Nat → Int32) (psy : Nat → Int32) (psh : Nat → Int32) (tpl : Nat → Int32) (tsp : Nat → Int32) (tsy : Nat → Int32) (tsh : Nat → Int32) (kpl : Nat → Int32) (ksp : Nat → Int32) (ksy : Nat → Int32) (ksh : Nat → Int32) (bs : Nat → Int32) (bt : Nat → Int32) (sz : Nat → Int32) (nm : Nat → Int32) (fd : Nat → Int32) (ik : Int32) (psc : Int32) (pnc : Int32) (pdy : Int32) (pzz : Int32) (tsc : Int32) (tnc : Int32) (tdy : Int32) (tzz : Int32) (ksc : Int32) (knc : Int32) (kdy : Int32) (kzz : Int32) (ln : Int32) (so : Int32) (be : Int32) (en : Int32) (va : Int32) (v4 : Int32) (z0 : Int32) (z1 : Nat → Int32) (hD : ∀ W : va_W, W.map Prod.fst = [a0, a1, a2, a3, a4, a5, a6, a7, a8, a9, a10, a11, a12, a13, a14, a15, a16, a17, a18, a19, a20, a21, a22] → va_D (wA W0) W) : ∀ (n : Nat) (v2 : Int32) (v5 : Int32) (H : Heap) (locs : List Loc), va_P D vwCl (wX4 cI cS a0 a1 a2 a3 a4 a5 a6 a7 a8 a9 a10 a11 a12 a13 a14 a15 a16 a17 a18 a19 a20 a21 a22 ppl psp psy psh tpl tsp tsy tsh kpl ksp ksy ksh bs bt sz nm fd ik psc pnc pdy pzz tsc tnc tdy tzz ksc knc kdy kzz ln so be en va) H → va_S (wA W0) s.heap H locs → ∀ (ls : Array Slot), lv_has ls 7 [(2, .int v2), (3, .ref a22), (4, .int v4), (5, .int v5)] → fX4_status_44 fd v4 n v2 v5 = some (z0, z1) → W p l e rmX4_status s m av below meth c H locs 0 0 (MQ below (qI D W0 (wX4 cI cS a0 a1 a2 a3 a4 a5 a6 a7 a8 a9 a10 a11 a12 a13 a14 a15 a16 a17 a18 a19 a20 a21 a22 ppl psp psy psh tpl tsp tsy tsh kpl ksp ksy ksh bs bt sz nm z1 ik psc pnc pdy pzz tsc tnc tdy tzz ksc knc kdy kzz ln so be en va) z0) av s 0 0 (wA W0)) (F0 m 44 ls []) := by
  obtain ⟨hx, hb, hr, hml, hown, hts, hlk, hE⟩ := id C0
  have hinX4 : ∀ w ∈ u_ws RX4 TX4 7, w ∈ wsX4_status := by decide +kernel
  intro n
  induction n with
  | zero =>
    intro v2 v5 H locs hP hS ls hl h
    cases (show none = some (z0, z1) from h)
  | succ n ih =>
    intro v2 v5 H locs hP hS ls hl h
    rw [fX4_status_44] at h
    refine lv_iload hx hb dX4_status_44 (lv_at hl 3 rfl) ?_
    refine lv_iload hx hb dX4_status_46 (lv_at hl 2 rfl) ?_
    refine lv_icmp_ge (tgt := 68) hx hb dX4_status_48 (by decide) (fun c_3 => ?_) (fun c_3 => ?_)
    · have h := ifp c_3 h
      refine lv_iload_n hx hb dX4_status_68 rfl (lv_at hl 0 rfl) ?_
      obtain ⟨q0, q1⟩ := Prod.mk.inj (Option.some.inj h)
      subst q0 q1
      exact eMi C0 hP hS rfl rfl dX4_status_69
    · have h := ifn c_3 h
      refine lv_aload_n hx hb dX4_status_51 rfl (lv_at hl 1 rfl) ?_
      refine lv_iload hx hb dX4_status_52 (lv_at hl 3 rfl) ?_
      obtain ⟨hi_4, h⟩ := ifs h
      refine va_iald hx hb hE.1 hP 22 0 rfl rfl hi_4 dX4_status_54 ?_
      refine lv_istore (lv' := [(6, .int (fd v5.toNatClampNeg)), (2, .int v2), (3, .ref a22), (4, .int v4), (5, .int v5)]) hx hb dX4_status_55 hl (by decide) rfl (fun ls hl => ?_)
      refine lv_iload_n hx hb dX4_status_57 rfl (lv_at hl 1 rfl) ?_
      refine lv_iload hx hb dX4_status_58 (lv_at hl 0 rfl) ?_
      refine lv_iadd hx hb dX4_status_60 ?_
      refine lv_istore_n (lv' := [(2, .int (v2 + (fd v5.toNatClampNeg))), (6, .int (fd v5.toNatClampNeg)), (3, .ref a22), (4, .int v4), (5, .int v5)]) hx hb dX4_status_61 rfl hl (by decide) rfl (fun ls hl => ?_)
      refine lv_iinc (v := v5 + 1) (lv' := [(5, .int (v5 + 1)), (2, .int (v2 + (fd v5.toNatClampNeg))), (6, .int (fd v5.toNatClampNeg)), (3, .ref a22), (4, .int v4)]) hx hb dX4_status_62 hl (k := 4) rfl rfl (by decide) rfl (fun ls hl => ?_)
      refine lv_goto (tgt := 44) hx hb dX4_status_65 (by decide) ?_
      exact ih (v2 + (fd v5.toNatClampNeg)) (v5 + 1) _ _ hP hS _ (lv_sub hl [1, 3, 4, 0] rfl) h
set_option maxHeartbeats 4000000 in
set_option maxRecDepth 100000 in
theorem tX4_status (l : Launch) (D : va_G) (cI cS : ClassId) (F : Nat) (a0 a1 a2 a3 a4 a5 a6 a7 a8 a9 a10 a11 a12 a13 a14 a15 a16 a17 a18 a19 a20 a21 a22 : Nat) (ppl : Nat → Int32) (psp : Nat → Int32) (psy : Nat → Int32) (psh : Nat → Int32) (tpl : Nat → Int32) (tsp : Nat → Int32) (tsy : Nat → Int32) (tsh : Nat → Int32) (kpl : Nat → Int32) (ksp : Nat → Int32) (ksy : Nat → Int32) (ksh : Nat → Int32) (bs : Nat → Int32) (bt : Nat → Int32) (sz : Nat → Int32) (nm : Nat → Int32) (fd : Nat → Int32) (ik : Int32) (psc : Int32) (pnc : Int32) (pdy : Int32) (pzz : Int32) (tsc : Int32) (tnc : Int32) (tdy : Int32) (tzz : Int32) (ksc : Int32) (knc : Int32) (kdy : Int32) (kzz : Int32) (ln : Int32) (so : Int32) (be : Int32) (en : Int32) (va : Int32) (v1 : Int32) (z0 : Int32) (z1 : Nat → Int32) (h : fX4_status F fd v1 = some (z0, z1)) (hD0 : va_D (fun _ => True) (wX4 cI cS a0 a1 a2 a3 a4 a5 a6 a7 a8 a9 a10 a11 a12 a13 a14 a15 a16 a17 a18 a19 a20 a21 a22 ppl psp psy psh tpl tsp tsy tsh kpl ksp ksy ksh bs bt sz nm fd ik psc pnc pdy pzz tsc tnc tdy tzz ksc knc kdy kzz ln so be en va)) : Met l yX4_status wsX4_status rmX4_status (PZ D cI cS [.ref a0, .int v1] (fun U => va_P D vwCl (wX4 cI cS a0 a1 a2 a3 a4 a5 a6 a7 a8 a9 a10 a11 a12 a13 a14 a15 a16 a17 a18 a19 a20 a21 a22 ppl psp psy psh tpl tsp tsy tsh kpl ksp ksy ksh bs bt sz nm fd ik psc pnc pdy pzz tsc tnc tdy tzz ksc knc kdy kzz ln so be en va) U.heap)) (qI D (wX4 cI cS a0 a1 a2 a3 a4 a5 a6 a7 a8 a9 a10 a11 a12 a13 a14 a15 a16 a17 a18 a19 a20 a21 a22 ppl psp psy psh tpl tsp tsy tsh kpl ksp ksy ksh bs bt sz nm fd ik psc pnc pdy pzz tsc tnc tdy tzz ksc knc kdy kzz ln so be en va) (wX4 cI cS a0 a1 a2 a3 a4 a5 a6 a7 a8 a9 a10 a11 a12 a13 a14 a15 a16 a17 a18 a19 a20 a21 a22 ppl psp psy psh tpl tsp tsy tsh kpl ksp ksy ksh bs bt sz nm z1 ik psc pnc pdy pzz tsc tnc tdy tzz ksc knc kdy kzz ln so be en va) z0) 0 0 (wA (wX4 cI cS a0 a1 a2 a3 a4 a5 a6 a7 a8 a9 a10 a11 a12 a13 a14 a15 a16 a17 a18 a19 a20 a21 a22 ppl psp psy psh tpl tsp tsy tsh kpl ksp ksy ksh bs bt sz nm fd ik psc pnc pdy pzz tsc tnc tdy tzz ksc knc kdy kzz ln so be en va)) := by
  refine Met.mk RX4 (by decide) rfl rfl (Nat.le_of_ble_eq_true rfl) ?_
  intro p e s m below meth c ls C0 hP hl
  have hl : lv_has ls 7 [(0, .ref a0), (1, .int v1)] := hl
  obtain ⟨hx, hb, hr, hml, hown, hts, hlk, hE⟩ := id C0
  have hinX4 : ∀ w ∈ u_ws RX4 TX4 7, w ∈ wsX4_status := by decide +kernel
  have hD : ∀ W : va_W, W.map Prod.fst = [a0, a1, a2, a3, a4, a5, a6, a7, a8, a9, a10, a11, a12, a13, a14, a15, a16, a17, a18, a19, a20, a21, a22] → va_D (wA (wX4 cI cS a0 a1 a2 a3 a4 a5 a6 a7 a8 a9 a10 a11 a12 a13 a14 a15 a16 a17 a18 a19 a20 a21 a22 ppl psp psy psh tpl tsp tsy tsh kpl ksp ksy ksh bs bt sz nm fd ik psc pnc pdy pzz tsc tnc tdy tzz ksc knc kdy kzz ln so be en va)) W := fun W hW => hD0.own.re hW
  have hS : va_S (wA (wX4 cI cS a0 a1 a2 a3 a4 a5 a6 a7 a8 a9 a10 a11 a12 a13 a14 a15 a16 a17 a18 a19 a20 a21 a22 ppl psp psy psh tpl tsp tsy tsh kpl ksp ksy ksh bs bt sz nm fd ik psc pnc pdy pzz tsc tnc tdy tzz ksc knc kdy kzz ln so be en va)) s.heap s.heap [] := va_S.rf
  have hP : va_P D vwCl (wX4 cI cS a0 a1 a2 a3 a4 a5 a6 a7 a8 a9 a10 a11 a12 a13 a14 a15 a16 a17 a18 a19 a20 a21 a22 ppl psp psy psh tpl tsp tsy tsh kpl ksp ksy ksh bs bt sz nm fd ik psc pnc pdy pzz tsc tnc tdy tzz ksc knc kdy kzz ln so be en va) s.heap := hP
  rw [fX4_status] at h
  refine lv_iload_n hx hb dX4_status_0 rfl (lv_at hl 1 rfl) ?_
  refine lv_iconst (v := (-1)) hx hb dX4_status_1 (by decide) ?_
  refine lv_bipush (v := 6) hx hb dX4_status_2 (by decide) ?_
  refine kRi (rS C0 (tX4_within l D cI cS v1 (-1) 6 (fX4_within v1 (-1) 6) rfl) gX4_status_X4_within rfl ⟨rfl, rfl⟩ pdX4_within rfl ⟨Nat.le_of_ble_eq_true rfl, Nat.le_of_ble_eq_true rfl⟩ (fun _ _ _ _ q => q) (fun _ _ _ _ => vp0) hl.1 rfl (Nat.le_of_ble_eq_true rfl) dX4_status_4 ⟨Nat.zero_le _, Nat.zero_le _⟩) ?_
  refine lv_if_ne (tgt := 17) hx hb dX4_status_7 (by decide) (fun c_1 => ?_) (fun c_1 => ?_)
  · have h := ifn c_1 h
    refine lv_iload_n hx hb dX4_status_17 rfl (lv_at hl 1 rfl) ?_
    refine lv_if_lt (tgt := 30) hx hb dX4_status_18 (by decide) (fun c_2 => ?_) (fun c_2 => ?_)
    · have h := ifp c_2 h
      refine lv_iconst (v := 0) hx hb dX4_status_30 (by decide) ?_
      refine lv_istore_n (lv' := [(2, .int 0), (0, .ref a0), (1, .int v1)]) hx hb dX4_status_31 rfl hl (by decide) rfl (fun ls hl => ?_)
      refine lv_aload_n hx hb dX4_status_32 rfl (lv_at hl 1 rfl) ?_
      refine va_get (D := D) (ci := 3) (v := .ref a22) (C := RX4) (T := TX4) (N := 7) hx hb hts hinX4 hown hE.1 hP 0 rfl rfl 6 (by decide) (hts _ (List.mem_of_getElem? (i := 2) rfl)) (fun _ h9 => h9) rfl dX4_status_33 ?_
      refine lv_astore_n (lv' := [(3, .ref a22), (2, .int 0), (0, .ref a0), (1, .int v1)]) hx hb dX4_status_36 rfl hl (by decide) rfl (fun ls hl => ?_)
      refine lv_aload_n hx hb dX4_status_37 rfl (lv_at hl 0 rfl) ?_
      refine va_alen (v := 7) hx hb hE.1 hP 22 0 rfl rfl rfl dX4_status_38 ?_
      refine lv_istore (lv' := [(4, .int 7), (3, .ref a22), (2, .int 0), (0, .ref a0), (1, .int v1)]) hx hb dX4_status_39 hl (by decide) rfl (fun ls hl => ?_)
      refine lv_iconst (v := 0) hx hb dX4_status_41 (by decide) ?_
      refine lv_istore (lv' := [(5, .int 0), (4, .int 7), (3, .ref a22), (2, .int 0), (0, .ref a0), (1, .int v1)]) hx hb dX4_status_42 hl (by decide) rfl (fun ls hl => ?_)
      exact lX4_status_44 (l := l) (e := e) (below := below) C0 F ppl psp psy psh tpl tsp tsy tsh kpl ksp ksy ksh bs bt sz nm fd ik psc pnc pdy pzz tsc tnc tdy tzz ksc knc kdy kzz ln so be en va 7 z0 z1 hD F 0 0 _ _ hP hS _ (lv_sub hl [3, 2, 1, 0] rfl) h
    · have h := ifn c_2 h
      refine lv_aload_n hx hb dX4_status_21 rfl (lv_at hl 0 rfl) ?_
      refine va_get (D := D) (ci := 3) (v := .ref a22) (C := RX4) (T := TX4) (N := 7) hx hb hts hinX4 hown hE.1 hP 0 rfl rfl 6 (by decide) (hts _ (List.mem_of_getElem? (i := 2) rfl)) (fun _ h9 => h9) rfl dX4_status_22 ?_
      refine lv_iload_n hx hb dX4_status_25 rfl (lv_at hl 1 rfl) ?_
      refine kRi (rS C0 (tX4_numberAt l D cI cS a22 7 fd v1 (by decide)) gX4_status_X4_numberAt rfl ⟨rfl, rfl⟩ pdX4_numberAt rfl ⟨Nat.le_of_ble_eq_true rfl, Nat.le_of_ble_eq_true rfl⟩ (fun _ _ _ _ q => va_X.call q) (fun U hU hW _ => by rw [hU]; exact (hP.X hE 22 rfl).moved hW.alike) hl.1 rfl (Nat.le_of_ble_eq_true rfl) dX4_status_26 ⟨Nat.zero_le _, Nat.zero_le _⟩) ?_
      obtain ⟨q0, q1⟩ := Prod.mk.inj (Option.some.inj h)
      subst q0 q1
      exact eMi C0 hP hS rfl rfl dX4_status_29
  · have h := ifp c_1 h
    refine lv_aload_n hx hb dX4_status_10 rfl (lv_at hl 0 rfl) ?_
    refine lv_ldc (v := (-1000001)) hx hb hown (hts _ (List.mem_of_getElem? (i := 1) rfl)) dX4_status_11 ?_
    have hPc := hP.sub (ws' := (wX4 cI cS a0 a1 a2 a3 a4 a5 a6 a7 a8 a9 a10 a11 a12 a13 a14 a15 a16 a17 a18 a19 a20 a21 a22 ppl psp psy psh tpl tsp tsy tsh kpl ksp ksy ksh bs bt sz nm fd ik psc pnc pdy pzz tsc tnc tdy tzz ksc knc kdy kzz ln so be en va)) [0, 1, 2, 3, 4, 5, 6, 7, 8, 9, 10, 11, 12, 13, 14, 15, 16, 17, 18, 19, 20, 21, 22] rfl
    refine kMi (wf' := (wX4 cI cS a0 a1 a2 a3 a4 a5 a6 a7 a8 a9 a10 a11 a12 a13 a14 a15 a16 a17 a18 a19 a20 a21 a22 ppl psp psy psh tpl tsp tsy tsh kpl ksp ksy ksh bs bt sz nm (fX4_finding_o1 fd (-1000001)) ik psc pnc pdy pzz tsc tnc tdy tzz ksc knc kdy kzz ln so be en va)) [0, 1, 2, 3, 4, 5, 6, 7, 8, 9, 10, 11, 12, 13, 14, 15, 16, 17, 18, 19, 20, 21, 22] [some 0, some 1, some 2, some 3, some 4, some 5, some 6, some 7, some 8, some 9, some 10, some 11, some 12, some 13, some 14, some 15, some 16, some 17, some 18, some 19, some 20, some 21, some 22] (rV C0 (tX4_finding l D cI cS a0 a1 a2 a3 a4 a5 a6 a7 a8 a9 a10 a11 a12 a13 a14 a15 a16 a17 a18 a19 a20 a21 a22 ppl psp psy psh tpl tsp tsy tsh kpl ksp ksy ksh bs bt sz nm fd ik psc pnc pdy pzz tsc tnc tdy tzz ksc knc kdy kzz ln so be en va (-1000001) (-1000001) (fX4_finding_o1 fd (-1000001)) (eeX4_finding ..) (((hD (wX4 cI cS a0 a1 a2 a3 a4 a5 a6 a7 a8 a9 a10 a11 a12 a13 a14 a15 a16 a17 a18 a19 a20 a21 a22 ppl psp psy psh tpl tsp tsy tsh kpl ksp ksy ksh bs bt sz nm fd ik psc pnc pdy pzz tsc tnc tdy tzz ksc knc kdy kzz ln so be en va) rfl).sub [0, 1, 2, 3, 4, 5, 6, 7, 8, 9, 10, 11, 12, 13, 14, 15, 16, 17, 18, 19, 20, 21, 22] (by decide) rfl).weaken (fun _ _ _ _ => trivial))) RX4 gX4_status_X4_finding rfl ⟨rfl, rfl⟩ pdX4_finding rfl ⟨Nat.le_of_ble_eq_true rfl, Nat.le_of_ble_eq_true rfl⟩ (fun _ _ _ _ q => q) (va_recv hE.1 hPc (ci := 3) (q0 := 0) rfl rfl) (fun U hU _ _ => by rw [hU]; exact hPc) hl.1 rfl (Nat.le_of_ble_eq_true rfl) dX4_status_13 ⟨Nat.zero_le _, Nat.zero_le _⟩) hP (hD _ rfl) hS rfl rfl rfl (fun H locs hP hS => ?_)
    obtain ⟨q0, q1⟩ := Prod.mk.inj (Option.some.inj h)
    subst q0 q1
    exact eMi C0 hP hS rfl rfl dX4_status_16
