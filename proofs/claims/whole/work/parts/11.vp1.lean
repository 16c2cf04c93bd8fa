def fX4_finding (fd : Nat → Int32) (v1 : Int32) : Int32 × (Nat → Int32) := (if (fX4_within ((-1000001) - v1) 0 (7 - 1)) = 0 then (v1, fd) else (v1, upd fd ((-1000001) - v1).toNatClampNeg ((fd ((-1000001) - v1).toNatClampNeg) + 1)))
def fX4_finding_o1 (fd : Nat → Int32) (v1 : Int32) : Nat → Int32 := if (fX4_within ((-1000001) - v1) 0 (7 - 1)) = 0 then fd else upd fd ((-1000001) - v1).toNatClampNeg ((fd ((-1000001) - v1).toNatClampNeg) + 1)
theorem eeX4_finding (fd : Nat → Int32) (v1 : Int32) : fX4_finding fd v1 = (v1, fX4_finding_o1 fd v1) := by
  by_cases c : (fX4_within ((-1000001) - v1) 0 (7 - 1)) = 0
  · have e : fX4_finding fd v1 = (v1, fd) := if_pos c
    have e2 : fX4_finding_o1 fd v1 = fd := if_pos c
    rw [e, e2]
  · have e : fX4_finding fd v1 = (v1, upd fd ((-1000001) - v1).toNatClampNeg ((fd ((-1000001) - v1).toNatClampNeg) + 1)) := if_neg c
    have e2 : fX4_finding_o1 fd v1 = upd fd ((-1000001) - v1).toNatClampNeg ((fd ((-1000001) - v1).toNatClampNeg) + 1) := if_neg c
    rw [e, e2]
abbrev rmX4_finding : Room := { frames := 1, cells := 0, slots := 0, locals := 22 }
theorem pdX4_finding : (yX4_finding.cls = RX4 ∧ yX4_finding.cls ≠ "java/lang/invoke/MethodHandle" ∧ yX4_finding.cls ≠ "java/lang/invoke/VarHandle" ∧ (parseMethodDescriptor yX4_finding.desc).map (fun d => d.parameters.length) = some 1) := by decide +kernel
set_option maxHeartbeats 4000000 in
set_option maxRecDepth 100000 in
theorem tX4_finding (l : Launch) (D : va_G) (cI cS : ClassId) (a0 a1 a2 a3 a4 a5 a6 a7 a8 a9 a10 a11 a12 a13 a14 a15 a16 a17 a18 a19 a20 a21 a22 : Nat) (ppl : Nat → Int32) (psp : Nat → Int32) (psy : Nat → Int32) (psh : Nat → Int32) (tpl : Nat → Int32) (tsp : Nat → Int32) (tsy : Nat → Int32) (tsh : Nat → Int32) (kpl : Nat → Int32) (ksp : Nat → Int32) (ksy : Nat → Int32) (ksh : Nat → Int32) (bs : Nat → Int32) (bt : Nat → Int32) (sz : Nat → Int32) (nm : Nat → Int32) (fd : Nat → Int32) (ik : Int32) (psc : Int32) (pnc : Int32) (pdy : Int32) (pzz : Int32) (tsc : Int32) (tnc : Int32) (tdy : Int32) (tzz : Int32) (ksc : Int32) (knc : Int32) (kdy : Int32) (kzz : Int32) (ln : Int32) (so : Int32) (be : Int32) (en : Int32) (va : Int32) (v1 : Int32) (z0 : Int32) (z1 : Nat → Int32) (h : fX4_finding fd v1 = (z0, z1)) (hD0 : va_D (fun _ => True) (wX4 cI cS a0 a1 a2 a3 a4 a5 a6 a7 a8 a9 a10 a11 a12 a13 a14 a15 a16 a17 a18 a19 a20 a21 a22 ppl psp psy psh tpl tsp tsy tsh kpl ksp ksy ksh bs bt sz nm fd ik psc pnc pdy pzz tsc tnc tdy tzz ksc knc kdy kzz ln so be en va)) : Met l yX4_finding wsX4_finding rmX4_finding (PZ D cI cS [.ref a0, .int v1] (fun U => va_P D vwCl (wX4 cI cS a0 a1 a2 a3 a4 a5 a6 a7 a8 a9 a10 a11 a12 a13 a14 a15 a16 a17 a18 a19 a20 a21 a22 ppl psp psy psh tpl tsp tsy tsh kpl ksp ksy ksh bs bt sz nm fd ik psc pnc pdy pzz tsc tnc tdy tzz ksc knc kdy kzz ln so be en va) U.heap)) (qI D (wX4 cI cS a0 a1 a2 a3 a4 a5 a6 a7 a8 a9 a10 a11 a12 a13 a14 a15 a16 a17 a18 a19 a20 a21 a22 ppl psp psy psh tpl tsp tsy tsh kpl ksp ksy ksh bs bt sz nm fd ik psc pnc pdy pzz tsc tnc tdy tzz ksc knc kdy kzz ln so be en va) (wX4 cI cS a0 a1 a2 a3 a4 a5 a6 a7 a8 a9 a10 a11 a12 a13 a14 a15 a16 a17 a18 a19 a20 a21 a22 ppl psp psy psh tpl tsp tsy tsh kpl ksp ksy ksh bs bt sz nm z1 ik psc pnc pdy pzz tsc tnc tdy tzz ksc knc kdy kzz ln so be en va) z0) 0 0 (wA (wX4 cI cS a0 a1 a2 a3 a4 a5 a6 a7 a8 a9 a10 a11 a12 a13 a14 a15 a16 a17 a18 a19 a20 a21 a22 ppl psp psy psh tpl tsp tsy tsh kpl ksp ksy ksh bs bt sz nm fd ik psc pnc pdy pzz tsc tnc tdy tzz ksc knc kdy kzz ln so be en va)) := by
  refine Met.mk RX4 (by decide) rfl rfl (Nat.le_of_ble_eq_true rfl) ?_
  intro p e s m below meth c ls C0 hP hl
  have hl : lv_has ls 3 [(0, .ref a0), (1, .int v1)] := hl
  obtain ⟨hx, hb, hr, hml, hown, hts, hlk, hE⟩ := id C0
  have hinX4 : ∀ w ∈ u_ws RX4 TX4 7, w ∈ wsX4_finding := by decide +kernel
  have hD : ∀ W : va_W, W.map Prod.fst = [a0, a1, a2, a3, a4, a5, a6, a7, a8, a9, a10, a11, a12, a13, a14, a15, a16, a17, a18, a19, a20, a21, a22] → va_D (wA (wX4 cI cS a0 a1 a2 a3 a4 a5 a6 a7 a8 a9 a10 a11 a12 a13 a14 a15 a16 a17 a18 a19 a20 a21 a22 ppl psp psy psh tpl tsp tsy tsh kpl ksp ksy ksh bs bt sz nm fd ik psc pnc pdy pzz tsc tnc tdy tzz ksc knc kdy kzz ln so be en va)) W := fun W hW => hD0.own.re hW
  have hS : va_S (wA (wX4 cI cS a0 a1 a2 a3 a4 a5 a6 a7 a8 a9 a10 a11 a12 a13 a14 a15 a16 a17 a18 a19 a20 a21 a22 ppl psp psy psh tpl tsp tsy tsh kpl ksp ksy ksh bs bt sz nm fd ik psc pnc pdy pzz tsc tnc tdy tzz ksc knc kdy kzz ln so be en va)) s.heap s.heap [] := va_S.rf
  have hP : va_P D vwCl (wX4 cI cS a0 a1 a2 a3 a4 a5 a6 a7 a8 a9 a10 a11 a12 a13 a14 a15 a16 a17 a18 a19 a20 a21 a22 ppl psp psy psh tpl tsp tsy tsh kpl ksp ksy ksh bs bt sz nm fd ik psc pnc pdy pzz tsc tnc tdy tzz ksc knc kdy kzz ln so be en va) s.heap := hP
  rw [fX4_finding] at h
  refine lv_ldc (v := (-1000001)) hx hb hown (hts _ (List.mem_of_getElem? (i := 1) rfl)) dX4_finding_0 ?_
  refine lv_iload_n hx hb dX4_finding_2 rfl (lv_at hl 1 rfl) ?_
  refine lv_isub hx hb dX4_finding_3 ?_
  refine lv_istore_n (lv' := [(2, .int ((-1000001) - v1)), (0, .ref a0), (1, .int v1)]) hx hb dX4_finding_4 rfl hl (by decide) rfl (fun ls hl => ?_)
  refine lv_iload_n hx hb dX4_finding_5 rfl (lv_at hl 0 rfl) ?_
  refine lv_iconst (v := 0) hx hb dX4_finding_6 (by decide) ?_
  refine lv_aload_n hx hb dX4_finding_7 rfl (lv_at hl 1 rfl) ?_
  refine va_get (D := D) (ci := 3) (v := .ref a22) (C := RX4) (T := TX4) (N := 7) hx hb hts hinX4 hown hE.1 hP 0 rfl rfl 6 (by decide) (hts _ (List.mem_of_getElem? (i := 2) rfl)) (fun _ h9 => h9) rfl dX4_finding_8 ?_
  refine va_alen (v := 7) hx hb hE.1 hP 22 0 rfl rfl rfl dX4_finding_11 ?_
  refine lv_iconst (v := 1) hx hb dX4_finding_12 (by decide) ?_
  refine lv_isub hx hb dX4_finding_13 ?_
  refine kRi (rS C0 (tX4_within l D cI cS ((-1000001) - v1) 0 (7 - 1) (fX4_within ((-1000001) - v1) 0 (7 - 1)) rfl) gX4_finding_X4_within rfl ⟨rfl, rfl⟩ pdX4_within rfl ⟨Nat.le_of_ble_eq_true rfl, Nat.le_of_ble_eq_true rfl⟩ (fun _ _ _ _ q => q) (fun _ _ _ _ => vp0) hl.1 rfl (Nat.le_of_ble_eq_true rfl) dX4_finding_14 ⟨Nat.zero_le _, Nat.zero_le _⟩) ?_
  refine lv_if_eq (tgt := 30) hx hb dX4_finding_17 (by decide) (fun c_1 => ?_) (fun c_1 => ?_)
  · have h := ifp c_1 h
    refine lv_iload_n hx hb dX4_finding_30 rfl (lv_at hl 2 rfl) ?_
    obtain ⟨q0, q1⟩ := Prod.mk.inj (h)
    subst q0 q1
    exact eMi C0 hP hS rfl rfl dX4_finding_31
  · have h := ifn c_1 h
    refine lv_aload_n hx hb dX4_finding_20 rfl (lv_at hl 1 rfl) ?_
    refine va_get (D := D) (ci := 3) (v := .ref a22) (C := RX4) (T := TX4) (N := 7) hx hb hts hinX4 hown hE.1 hP 0 rfl rfl 6 (by decide) (hts _ (List.mem_of_getElem? (i := 2) rfl)) (fun _ h9 => h9) rfl dX4_finding_21 ?_
    refine lv_iload_n hx hb dX4_finding_24 rfl (lv_at hl 0 rfl) ?_
    refine lv_dup2_11 hx hb dX4_finding_25 rfl rfl ?_
    refine va_iald hx hb hE.1 hP 22 0 rfl rfl (in_wi (n := 7) (by decide) c_1) dX4_finding_26 ?_
    refine lv_iconst (v := 1) hx hb dX4_finding_27 (by decide) ?_
    refine lv_iadd hx hb dX4_finding_28 ?_
    refine va_iast hx hb hE.1 hP (hD _ rfl) hS 22 0 rfl rfl (in_wi (n := 7) (by decide) c_1) dX4_finding_29 (fun H locs hP _ hS => ?_)
    have hP : va_P D vwCl (wX4 cI cS a0 a1 a2 a3 a4 a5 a6 a7 a8 a9 a10 a11 a12 a13 a14 a15 a16 a17 a18 a19 a20 a21 a22 ppl psp psy psh tpl tsp tsy tsh kpl ksp ksy ksh bs bt sz nm (upd fd ((-1000001) - v1).toNatClampNeg ((fd ((-1000001) - v1).toNatClampNeg) + 1)) ik psc pnc pdy pzz tsc tnc tdy tzz ksc knc kdy kzz ln so be en va) H := hP
    refine lv_iload_n hx hb dX4_finding_30 rfl (lv_at hl 2 rfl) ?_
    obtain ⟨q0, q1⟩ := Prod.mk.inj (h)
    subst q0 q1
    exact eMi C0 hP hS rfl rfl dX4_finding_31
def fX4_list (ppl : Nat → Int32) (fd : Nat → Int32) (v1 : Int32) (v2 : Int32) : Int32 × (Nat → Int32) × (Nat → Int32) := (if (fX4_isPlace v1) = 0 then ((-1000001), ppl, fX4_finding_o1 fd (-1000001)) else (if (fX4_within v2 0 8) = 0 then ((-1000001), ppl, fX4_finding_o1 fd (-1000001)) else ((fX0_placeAt ppl v1), (fX0_setPlace ppl v1 v2), fd)))
def fX4_list_o0 (ppl : Nat → Int32) (fd : Nat → Int32) (v1 : Int32) (v2 : Int32) : Int32 := (fX4_list ppl fd v1 v2).1
def fX4_list_o1 (ppl : Nat → Int32) (fd : Nat → Int32) (v1 : Int32) (v2 : Int32) : Nat → Int32 := (fX4_list ppl fd v1 v2).2.1
def fX4_list_o2 (ppl : Nat → Int32) (fd : Nat → Int32) (v1 : Int32) (v2 : Int32) : Nat → Int32 := (fX4_list ppl fd v1 v2).2.2
theorem eeX4_list (ppl : Nat → Int32) (fd : Nat → Int32) (v1 : Int32) (v2 : Int32) : fX4_list ppl fd v1 v2 = (fX4_list_o0 ppl fd v1 v2, fX4_list_o1 ppl fd v1 v2, fX4_list_o2 ppl fd v1 v2) := rfl
abbrev rmX4_list : Room := { frames := 2, cells := 0, slots := 0, locals := 44 }
theorem pdX4_list : (yX4_list.cls = RX4 ∧ yX4_list.cls ≠ "java/lang/invoke/MethodHandle" ∧ yX4_list.cls ≠ "java/lang/invoke/VarHandle" ∧ (parseMethodDescriptor yX4_list.desc).map (fun d => d.parameters.length) = some 2) := by decide +kernel
set_option maxHeartbeats 4000000 in
set_option maxRecDepth 100000 in
theorem tX4_list (l : Launch) (D : va_G) (cI cS : ClassId) (a0 a1 a2 a3 a4 a5 a6 a7 a8 a9 a10 a11 a12 a13 a14 a15 a16 a17 a18 a19 a20 a21 a22 : Nat) (ppl : Nat → Int32) (psp : Nat → Int32) (psy : Nat → Int32) (psh : Nat → Int32) (tpl : Nat → Int32) (tsp : Nat → Int32) (tsy : Nat → Int32) (tsh : Nat → Int32) (kpl : Nat → Int32) (ksp : Nat → Int32) (ksy : Nat → Int32) (ksh : Nat → Int32) (bs : Nat → Int32) (bt : Nat → Int32) (sz : Nat → Int32) (nm : Nat → Int32) (fd : Nat → Int32) (ik : Int32) (psc : Int32) (pnc : Int32) (pdy : Int32) (pzz : Int32) (tsc : Int32) (tnc : Int32) (tdy : Int32) (tzz : Int32) (ksc : Int32) (knc : Int32) (kdy : Int32) (kzz : Int32) (ln : Int32) (so : Int32) (be : Int32) (en : Int32) (va : Int32) (v1 : Int32) (v2 : Int32) (z0 : Int32) (z1 : Nat → Int32) (z2 : Nat → Int32) (h : fX4_list ppl fd v1 v2 = (z0, z1, z2)) (hD0 : va_D (fun _ => True) (wX4 cI cS a0 a1 a2 a3 a4 a5 a6 a7 a8 a9 a10 a11 a12 a13 a14 a15 a16 a17 a18 a19 a20 a21 a22 ppl psp psy psh tpl tsp tsy tsh kpl ksp ksy ksh bs bt sz nm fd ik psc pnc pdy pzz tsc tnc tdy tzz ksc knc kdy kzz ln so be en va)) : Met l yX4_list wsX4_list rmX4_list (PZ D cI cS [.ref a0, .int v1, .int v2] (fun U => va_P D vwCl (wX4 cI cS a0 a1 a2 a3 a4 a5 a6 a7 a8 a9 a10 a11 a12 a13 a14 a15 a16 a17 a18 a19 a20 a21 a22 ppl psp psy psh tpl tsp tsy tsh kpl ksp ksy ksh bs bt sz nm fd ik psc pnc pdy pzz tsc tnc tdy tzz ksc knc kdy kzz ln so be en va) U.heap)) (qI D (wX4 cI cS a0 a1 a2 a3 a4 a5 a6 a7 a8 a9 a10 a11 a12 a13 a14 a15 a16 a17 a18 a19 a20 a21 a22 ppl psp psy psh tpl tsp tsy tsh kpl ksp ksy ksh bs bt sz nm fd ik psc pnc pdy pzz tsc tnc tdy tzz ksc knc kdy kzz ln so be en va) (wX4 cI cS a0 a1 a2 a3 a4 a5 a6 a7 a8 a9 a10 a11 a12 a13 a14 a15 a16 a17 a18 a19 a20 a21 a22 z1 psp psy psh tpl tsp tsy tsh kpl ksp ksy ksh bs bt sz nm z2 ik psc pnc pdy pzz tsc tnc tdy tzz ksc knc kdy kzz ln so be en va) z0) 0 0 (wA (wX4 cI cS a0 a1 a2 a3 a4 a5 a6 a7 a8 a9 a10 a11 a12 a13 a14 a15 a16 a17 a18 a19 a20 a21 a22 ppl psp psy psh tpl tsp tsy tsh kpl ksp ksy ksh bs bt sz nm fd ik psc pnc pdy pzz tsc tnc tdy tzz ksc knc kdy kzz ln so be en va)) := by
  refine Met.mk RX4 (by decide) rfl rfl (Nat.le_of_ble_eq_true rfl) ?_
  intro p e s m below meth c ls C0 hP hl
  have hl : lv_has ls 4 [(0, .ref a0), (1, .int v1), (2, .int v2)] := hl
  obtain ⟨hx, hb, hr, hml, hown, hts, hlk, hE⟩ := id C0
  have hinX4 : ∀ w ∈ u_ws RX4 TX4 7, w ∈ wsX4_list := by decide +kernel
  have hD : ∀ W : va_W, W.map Prod.fst = [a0, a1, a2, a3, a4, a5, a6, a7, a8, a9, a10, a11, a12, a13, a14, a15, a16, a17, a18, a19, a20, a21, a22] → va_D (wA (wX4 cI cS a0 a1 a2 a3 a4 a5 a6 a7 a8 a9 a10 a11 a12 a13 a14 a15 a16 a17 a18 a19 a20 a21 a22 ppl psp psy psh tpl tsp tsy tsh kpl ksp ksy ksh bs bt sz nm fd ik psc pnc pdy pzz tsc tnc tdy tzz ksc knc kdy kzz ln so be en va)) W := fun W hW => hD0.own.re hW
  have hS : va_S (wA (wX4 cI cS a0 a1 a2 a3 a4 a5 a6 a7 a8 a9 a10 a11 a12 a13 a14 a15 a16 a17 a18 a19 a20 a21 a22 ppl psp psy psh tpl tsp tsy tsh kpl ksp ksy ksh bs bt sz nm fd ik psc pnc pdy pzz tsc tnc tdy tzz ksc knc kdy kzz ln so be en va)) s.heap s.heap [] := va_S.rf
  have hP : va_P D vwCl (wX4 cI cS a0 a1 a2 a3 a4 a5 a6 a7 a8 a9 a10 a11 a12 a13 a14 a15 a16 a17 a18 a19 a20 a21 a22 ppl psp psy psh tpl tsp tsy tsh kpl ksp ksy ksh bs bt sz nm fd ik psc pnc pdy pzz tsc tnc tdy tzz ksc knc kdy kzz ln so be en va) s.heap := hP
  rw [fX4_list] at h
  refine lv_iload_n hx hb dX4_list_0 rfl (lv_at hl 1 rfl) ?_
  refine kRi (rS C0 (tX4_isPlace l D cI cS v1 (fX4_isPlace v1) rfl) gX4_list_X4_isPlace rfl ⟨rfl, rfl⟩ pdX4_isPlace rfl ⟨Nat.le_of_ble_eq_true rfl, Nat.le_of_ble_eq_true rfl⟩ (fun _ _ _ _ q => q) (fun _ _ _ _ => vp0) hl.1 rfl (Nat.le_of_ble_eq_true rfl) dX4_list_1 ⟨Nat.zero_le _, Nat.zero_le _⟩) ?_
  refine lv_if_eq (tgt := 17) hx hb dX4_list_4 (by decide) (fun c_1 => ?_) (fun c_1 => ?_)
  · have h := ifp c_1 h
    refine lv_aload_n hx hb dX4_list_17 rfl (lv_at hl 0 rfl) ?_
    refine lv_ldc (v := (-1000001)) hx hb hown (hts _ (List.mem_of_getElem? (i := 1) rfl)) dX4_list_18 ?_
    have hPc := hP.sub (ws' := (wX4 cI cS a0 a1 a2 a3 a4 a5 a6 a7 a8 a9 a10 a11 a12 a13 a14 a15 a16 a17 a18 a19 a20 a21 a22 ppl psp psy psh tpl tsp tsy tsh kpl ksp ksy ksh bs bt sz nm fd ik psc pnc pdy pzz tsc tnc tdy tzz ksc knc kdy kzz ln so be en va)) [0, 1, 2, 3, 4, 5, 6, 7, 8, 9, 10, 11, 12, 13, 14, 15, 16, 17, 18, 19, 20, 21, 22] rfl
    refine kMi (wf' := (wX4 cI cS a0 a1 a2 a3 a4 a5 a6 a7 a8 a9 a10 a11 a12 a13 a14 a15 a16 a17 a18 a19 a20 a21 a22 ppl psp psy psh tpl tsp tsy tsh kpl ksp ksy ksh bs bt sz nm (fX4_finding_o1 fd (-1000001)) ik psc pnc pdy pzz tsc tnc tdy tzz ksc knc kdy kzz ln so be en va)) [0, 1, 2, 3, 4, 5, 6, 7, 8, 9, 10, 11, 12, 13, 14, 15, 16, 17, 18, 19, 20, 21, 22] [some 0, some 1, some 2, some 3, some 4, some 5, some 6, some 7, some 8, some 9, some 10, some 11, some 12, some 13, some 14, some 15, some 16, some 17, some 18, some 19, some 20, some 21, some 22] (rV C0 (tX4_finding l D cI cS a0 a1 a2 a3 a4 a5 a6 a7 a8 a9 a10 a11 a12 a13 a14 a15 a16 a17 a18 a19 a20 a21 a22 ppl psp psy psh tpl tsp tsy tsh kpl ksp ksy ksh bs bt sz nm fd ik psc pnc pdy pzz tsc tnc tdy tzz ksc knc kdy kzz ln so be en va (-1000001) (-1000001) (fX4_finding_o1 fd (-1000001)) (eeX4_finding ..) (((hD (wX4 cI cS a0 a1 a2 a3 a4 a5 a6 a7 a8 a9 a10 a11 a12 a13 a14 a15 a16 a17 a18 a19 a20 a21 a22 ppl psp psy psh tpl tsp tsy tsh kpl ksp ksy ksh bs bt sz nm fd ik psc pnc pdy pzz tsc tnc tdy tzz ksc knc kdy kzz ln so be en va) rfl).sub [0, 1, 2, 3, 4, 5, 6, 7, 8, 9, 10, 11, 12, 13, 14, 15, 16, 17, 18, 19, 20, 21, 22] (by decide) rfl).weaken (fun _ _ _ _ => trivial))) RX4 gX4_list_X4_finding rfl ⟨rfl, rfl⟩ pdX4_finding rfl ⟨Nat.le_of_ble_eq_true rfl, Nat.le_of_ble_eq_true rfl⟩ (fun _ _ _ _ q => q) (va_recv hE.1 hPc (ci := 3) (q0 := 0) rfl rfl) (fun U hU _ _ => by rw [hU]; exact hPc) hl.1 rfl (Nat.le_of_ble_eq_true rfl) dX4_list_20 ⟨Nat.zero_le _, Nat.zero_le _⟩) hP (hD _ rfl) hS rfl rfl rfl (fun H locs hP hS => ?_)
    obtain ⟨q0, g0⟩ := Prod.mk.inj (h)
    obtain ⟨q1, q2⟩ := Prod.mk.inj g0
    subst q0 q1 q2
    exact eMi C0 hP hS rfl rfl dX4_list_23
  · have h := ifn c_1 h
    refine lv_iload_n hx hb dX4_list_7 rfl (lv_at hl 2 rfl) ?_
    refine lv_iconst (v := 0) hx hb dX4_list_8 (by decide) ?_
    refine lv_bipush (v := 8) hx hb dX4_list_9 (by decide) ?_
    refine kRi (rS C0 (tX4_within l D cI cS v2 0 8 (fX4_within v2 0 8) rfl) gX4_list_X4_within rfl ⟨rfl, rfl⟩ pdX4_within rfl ⟨Nat.le_of_ble_eq_true rfl, Nat.le_of_ble_eq_true rfl⟩ (fun _ _ _ _ q => q) (fun _ _ _ _ => vp0) hl.1 rfl (Nat.le_of_ble_eq_true rfl) dX4_list_11 ⟨Nat.zero_le _, Nat.zero_le _⟩) ?_
    refine lv_if_ne (tgt := 24) hx hb dX4_list_14 (by decide) (fun c_2 => ?_) (fun c_2 => ?_)
    · have h := ifn c_2 h
      refine lv_aload_n hx hb dX4_list_24 rfl (lv_at hl 0 rfl) ?_
      refine va_get (D := D) (ci := 3) (v := .ref a1) (C := RX4) (T := TX4) (N := 7) hx hb hts hinX4 hown hE.1 hP 0 rfl rfl 0 (by decide) (hts _ (List.mem_of_getElem? (i := 2) rfl)) (fun _ h9 => h9) rfl dX4_list_25 ?_
      refine lv_iload_n hx hb dX4_list_28 rfl (lv_at hl 1 rfl) ?_
      have hPc := hP.sub (ws' := (wX0 cI cS a1 a2 a3 a4 a5 ppl psp psy psh psc pnc pdy pzz)) [1, 2, 3, 4, 5] rfl
      refine kRi (rV C0 (tX0_placeAt l D cI cS a1 a2 a3 a4 a5 ppl psp psy psh psc pnc pdy pzz v1 (fX0_placeAt ppl v1) rfl) RX0 gX4_list_X0_placeAt rfl ⟨rfl, rfl⟩ pdX0_placeAt rfl ⟨Nat.le_of_ble_eq_true rfl, Nat.le_of_ble_eq_true rfl⟩ (fun _ _ _ _ q => q) (va_recv hE.1 hPc (ci := 0) (q0 := 0) rfl rfl) (fun U hU _ _ => by rw [hU]; exact hPc) hl.1 rfl (Nat.le_of_ble_eq_true rfl) dX4_list_29 ⟨Nat.zero_le _, Nat.zero_le _⟩) ?_
      refine lv_istore_n (lv' := [(3, .int (fX0_placeAt ppl v1)), (0, .ref a0), (1, .int v1), (2, .int v2)]) hx hb dX4_list_32 rfl hl (by decide) rfl (fun ls hl => ?_)
      refine lv_aload_n hx hb dX4_list_33 rfl (lv_at hl 1 rfl) ?_
      refine va_get (D := D) (ci := 3) (v := .ref a1) (C := RX4) (T := TX4) (N := 7) hx hb hts hinX4 hown hE.1 hP 0 rfl rfl 0 (by decide) (hts _ (List.mem_of_getElem? (i := 2) rfl)) (fun _ h9 => h9) rfl dX4_list_34 ?_
      refine lv_iload_n hx hb dX4_list_37 rfl (lv_at hl 2 rfl) ?_
      refine lv_iload_n hx hb dX4_list_38 rfl (lv_at hl 3 rfl) ?_
      have hPc := hP.sub (ws' := (wX0 cI cS a1 a2 a3 a4 a5 ppl psp psy psh psc pnc pdy pzz)) [1, 2, 3, 4, 5] rfl
      refine kMv (wf' := (wX4 cI cS a0 a1 a2 a3 a4 a5 a6 a7 a8 a9 a10 a11 a12 a13 a14 a15 a16 a17 a18 a19 a20 a21 a22 (fX0_setPlace ppl v1 v2) psp psy psh tpl tsp tsy tsh kpl ksp ksy ksh bs bt sz nm fd ik psc pnc pdy pzz tsc tnc tdy tzz ksc knc kdy kzz ln so be en va)) [1, 2, 3, 4, 5] [none, some 0, some 1, some 2, some 3, some 4, none, none, none, none, none, none, none, none, none, none, none, none, none, none, none, none, none] (rV C0 (tX0_setPlace l D cI cS a1 a2 a3 a4 a5 ppl psp psy psh psc pnc pdy pzz v1 v2 (fX0_setPlace ppl v1 v2) rfl (((hD (wX4 cI cS a0 a1 a2 a3 a4 a5 a6 a7 a8 a9 a10 a11 a12 a13 a14 a15 a16 a17 a18 a19 a20 a21 a22 ppl psp psy psh tpl tsp tsy tsh kpl ksp ksy ksh bs bt sz nm fd ik psc pnc pdy pzz tsc tnc tdy tzz ksc knc kdy kzz ln so be en va) rfl).sub [1, 2, 3, 4, 5] (by decide) rfl).weaken (fun _ _ _ _ => trivial))) RX0 gX4_list_X0_setPlace rfl ⟨rfl, rfl⟩ pdX0_setPlace rfl ⟨Nat.le_of_ble_eq_true rfl, Nat.le_of_ble_eq_true rfl⟩ (fun _ _ _ _ q => q) (va_recv hE.1 hPc (ci := 0) (q0 := 0) rfl rfl) (fun U hU _ _ => by rw [hU]; exact hPc) hl.1 rfl (Nat.le_of_ble_eq_true rfl) dX4_list_39 ⟨Nat.zero_le _, Nat.zero_le _⟩) hP (hD _ rfl) hS rfl rfl rfl (fun H locs hP hS => ?_)
      refine lv_iload_n hx hb dX4_list_42 rfl (lv_at hl 0 rfl) ?_
      obtain ⟨q0, g0⟩ := Prod.mk.inj (h)
      obtain ⟨q1, q2⟩ := Prod.mk.inj g0
      subst q0 q1 q2
      exact eMi C0 hP hS rfl rfl dX4_list_43
    · have h := ifp c_2 h
      refine lv_aload_n hx hb dX4_list_17 rfl (lv_at hl 0 rfl) ?_
      refine lv_ldc (v := (-1000001)) hx hb hown (hts _ (List.mem_of_getElem? (i := 1) rfl)) dX4_list_18 ?_
      have hPc := hP.sub (ws' := (wX4 cI cS a0 a1 a2 a3 a4 a5 a6 a7 a8 a9 a10 a11 a12 a13 a14 a15 a16 a17 a18 a19 a20 a21 a22 ppl psp psy psh tpl tsp tsy tsh kpl ksp ksy ksh bs bt sz nm fd ik psc pnc pdy pzz tsc tnc tdy tzz ksc knc kdy kzz ln so be en va)) [0, 1, 2, 3, 4, 5, 6, 7, 8, 9, 10, 11, 12, 13, 14, 15, 16, 17, 18, 19, 20, 21, 22] rfl
      refine kMi (wf' := (wX4 cI cS a0 a1 a2 a3 a4 a5 a6 a7 a8 a9 a10 a11 a12 a13 a14 a15 a16 a17 a18 a19 a20 a21 a22 ppl psp psy psh tpl tsp tsy tsh kpl ksp ksy ksh bs bt sz nm (fX4_finding_o1 fd (-1000001)) ik psc pnc pdy pzz tsc tnc tdy tzz ksc knc kdy kzz ln so be en va)) [0, 1, 2, 3, 4, 5, 6, 7, 8, 9, 10, 11, 12, 13, 14, 15, 16, 17, 18, 19, 20, 21, 22] [some 0, some 1, some 2, some 3, some 4, some 5, some 6, some 7, some 8, some 9, some 10, some 11, some 12, some 13, some 14, some 15, some 16, some 17, some 18, some 19, some 20, some 21, some 22] (rV C0 (tX4_finding l D cI cS a0 a1 a2 a3 a4 a5 a6 a7 a8 a9 a10 a11 a12 a13 a14 a15 a16 a17 a18 a19 a20 a21 a22 ppl psp psy psh tpl tsp tsy tsh kpl ksp ksy ksh bs bt sz nm fd ik psc pnc pdy pzz tsc tnc tdy tzz ksc knc kdy kzz ln so be en va (-1000001) (-1000001) (fX4_finding_o1 fd (-1000001)) (eeX4_finding ..) (((hD (wX4 cI cS a0 a1 a2 a3 a4 a5 a6 a7 a8 a9 a10 a11 a12 a13 a14 a15 a16 a17 a18 a19 a20 a21 a22 ppl psp psy psh tpl tsp tsy tsh kpl ksp ksy ksh bs bt sz nm fd ik psc pnc pdy pzz tsc tnc tdy tzz ksc knc kdy kzz ln so be en va) rfl).sub [0, 1, 2, 3, 4, 5, 6, 7, 8, 9, 10, 11, 12, 13, 14, 15, 16, 17, 18, 19, 20, 21, 22] (by decide) rfl).weaken (fun _ _ _ _ => trivial))) RX4 gX4_list_X4_finding rfl ⟨rfl, rfl⟩ pdX4_finding rfl ⟨Nat.le_of_ble_eq_true rfl, Nat.le_of_ble_eq_true rfl⟩ (fun _ _ _ _ q => q) (va_recv hE.1 hPc (ci := 3) (q0 := 0) rfl rfl) (fun U hU _ _ => by rw [hU]; exact hPc) hl.1 rfl (Nat.le_of_ble_eq_true rfl) dX4_list_20 ⟨Nat.zero_le _, Nat.zero_le _⟩) hP (hD _ rfl) hS rfl rfl rfl (fun H locs hP hS => ?_)
      obtain ⟨q0, g0⟩ := Prod.mk.inj (h)
      obtain ⟨q1, q2⟩ := Prod.mk.inj g0
      subst q0 q1 q2
      exact eMi C0 hP hS rfl rfl dX4_list_23
def fX4_listed (ppl : Nat → Int32) (fd : Nat → Int32) (v1 : Int32) : Int32 × (Nat → Int32) := (if (fX4_isPlace v1) = 0 then ((-1000001), fX4_finding_o1 fd (-1000001)) else ((fX0_placeAt ppl v1), fd))
def fX4_listed_o0 (ppl : Nat → Int32) (fd : Nat → Int32) (v1 : Int32) : Int32 := (fX4_listed ppl fd v1).1
def fX4_listed_o1 (ppl : Nat → Int32) (fd : Nat → Int32) (v1 : Int32) : Nat → Int32 := (fX4_listed ppl fd v1).2
theorem eeX4_listed (ppl : Nat → Int32) (fd : Nat → Int32) (v1 : Int32) : fX4_listed ppl fd v1 = (fX4_listed_o0 ppl fd v1, fX4_listed_o1 ppl fd v1) := rfl
abbrev rmX4_listed : Room := { frames := 2, cells := 0, slots := 0, locals := 44 }
theorem pdX4_listed : (yX4_listed.cls = RX4 ∧ yX4_listed.cls ≠ "java/lang/invoke/MethodHandle" ∧ yX4_listed.cls ≠ "java/lang/invoke/VarHandle" ∧ (parseMethodDescriptor yX4_listed.desc).map (fun d => d.parameters.length) = some 1) := by decide +kernel
set_option maxHeartbeats 4000000 in
set_option maxRecDepth 100000 in
theorem tX4_listed (l : Launch) (D : va_G) (cI cS : ClassId) (a0 a1 a2 a3 a4 a5 a6 a7 a8 a9 a10 a11 a12 a13 a14 a15 a16 a17 a18 a19 a20 a21 a22 : Nat) (ppl : Nat → Int32) (psp : Nat → Int32) (psy : Nat → Int32) (psh : Nat → Int32) (tpl : Nat → Int32) (tsp : Nat → Int32) (tsy : Nat → Int32) (tsh : Nat → Int32) (kpl : Nat → Int32) (ksp : Nat → Int32) (ksy : Nat → Int32) (ksh : Nat → Int32) (bs : Nat → Int32) (bt : Nat → Int32) (sz : Nat → Int32) (nm : Nat → Int32) (fd : Nat → Int32) (ik : Int32) (psc : Int32) (pnc : Int32) (pdy : Int32) (pzz : Int32) (tsc : Int32) (tnc : Int32) (tdy : Int32) (tzz : Int32) (ksc : Int32) (knc : Int32) (kdy : Int32) (kzz : Int32) (ln : Int32) (so : Int32) (be : Int32) (en : Int32) (va : Int32) (v1 : Int32) (z0 : Int32) (z1 : Nat → Int32) (h : fX4_listed ppl fd v1 = (z0, z1)) (hD0 : va_D (fun _ => True) (wX4 cI cS a0 a1 a2 a3 a4 a5 a6 a7 a8 a9 a10 a11 a12 a13 a14 a15 a16 a17 a18 a19 a20 a21 a22 ppl psp psy psh tpl tsp tsy tsh kpl ksp ksy ksh bs bt sz nm fd ik psc pnc pdy pzz tsc tnc tdy tzz ksc knc kdy kzz ln so be en va)) : Met l yX4_listed wsX4_listed rmX4_listed (PZ D cI cS [.ref a0, .int v1] (fun U => va_P D vwCl (wX4 cI cS a0 a1 a2 a3 a4 a5 a6 a7 a8 a9 a10 a11 a12 a13 a14 a15 a16 a17 a18 a19 a20 a21 a22 ppl psp psy psh tpl tsp tsy tsh kpl ksp ksy ksh bs bt sz nm fd ik psc pnc pdy pzz tsc tnc tdy tzz ksc knc kdy kzz ln so be en va) U.heap)) (qI D (wX4 cI cS a0 a1 a2 a3 a4 a5 a6 a7 a8 a9 a10 a11 a12 a13 a14 a15 a16 a17 a18 a19 a20 a21 a22 ppl psp psy psh tpl tsp tsy tsh kpl ksp ksy ksh bs bt sz nm fd ik psc pnc pdy pzz tsc tnc tdy tzz ksc knc kdy kzz ln so be en va) (wX4 cI cS a0 a1 a2 a3 a4 a5 a6 a7 a8 a9 a10 a11 a12 a13 a14 a15 a16 a17 a18 a19 a20 a21 a22 ppl psp psy psh tpl tsp tsy tsh kpl ksp ksy ksh bs bt sz nm z1 ik psc pnc pdy pzz tsc tnc tdy tzz ksc knc kdy kzz ln so be en va) z0) 0 0 (wA (wX4 cI cS a0 a1 a2 a3 a4 a5 a6 a7 a8 a9 a10 a11 a12 a13 a14 a15 a16 a17 a18 a19 a20 a21 a22 ppl psp psy psh tpl tsp tsy tsh kpl ksp ksy ksh bs bt sz nm fd ik psc pnc pdy pzz tsc tnc tdy tzz ksc knc kdy kzz ln so be en va)) := by
  refine Met.mk RX4 (by decide) rfl rfl (Nat.le_of_ble_eq_true rfl) ?_
  intro p e s m below meth c ls C0 hP hl
  have hl : lv_has ls 2 [(0, .ref a0), (1, .int v1)] := hl
  obtain ⟨hx, hb, hr, hml, hown, hts, hlk, hE⟩ := id C0
  have hinX4 : ∀ w ∈ u_ws RX4 TX4 7, w ∈ wsX4_listed := by decide +kernel
  have hD : ∀ W : va_W, W.map Prod.fst = [a0, a1, a2, a3, a4, a5, a6, a7, a8, a9, a10, a11, a12, a13, a14, a15, a16, a17, a18, a19, a20, a21, a22] → va_D (wA (wX4 cI cS a0 a1 a2 a3 a4 a5 a6 a7 a8 a9 a10 a11 a12 a13 a14 a15 a16 a17 a18 a19 a20 a21 a22 ppl psp psy psh tpl tsp tsy tsh kpl ksp ksy ksh bs bt sz nm fd ik psc pnc pdy pzz tsc tnc tdy tzz ksc knc kdy kzz ln so be en va)) W := fun W hW => hD0.own.re hW
  have hS : va_S (wA (wX4 cI cS a0 a1 a2 a3 a4 a5 a6 a7 a8 a9 a10 a11 a12 a13 a14 a15 a16 a17 a18 a19 a20 a21 a22 ppl psp psy psh tpl tsp tsy tsh kpl ksp ksy ksh bs bt sz nm fd ik psc pnc pdy pzz tsc tnc tdy tzz ksc knc kdy kzz ln so be en va)) s.heap s.heap [] := va_S.rf
  have hP : va_P D vwCl (wX4 cI cS a0 a1 a2 a3 a4 a5 a6 a7 a8 a9 a10 a11 a12 a13 a14 a15 a16 a17 a18 a19 a20 a21 a22 ppl psp psy psh tpl tsp tsy tsh kpl ksp ksy ksh bs bt sz nm fd ik psc pnc pdy pzz tsc tnc tdy tzz ksc knc kdy kzz ln so be en va) s.heap := hP
  rw [fX4_listed] at h
  refine lv_iload_n hx hb dX4_listed_0 rfl (lv_at hl 1 rfl) ?_
  refine kRi (rS C0 (tX4_isPlace l D cI cS v1 (fX4_isPlace v1) rfl) gX4_listed_X4_isPlace rfl ⟨rfl, rfl⟩ pdX4_isPlace rfl ⟨Nat.le_of_ble_eq_true rfl, Nat.le_of_ble_eq_true rfl⟩ (fun _ _ _ _ q => q) (fun _ _ _ _ => vp0) hl.1 rfl (Nat.le_of_ble_eq_true rfl) dX4_listed_1 ⟨Nat.zero_le _, Nat.zero_le _⟩) ?_
  refine lv_if_eq (tgt := 18) hx hb dX4_listed_4 (by decide) (fun c_1 => ?_) (fun c_1 => ?_)
  · have h := ifp c_1 h
    refine lv_aload_n hx hb dX4_listed_18 rfl (lv_at hl 0 rfl) ?_
    refine lv_ldc (v := (-1000001)) hx hb hown (hts _ (List.mem_of_getElem? (i := 2) rfl)) dX4_listed_19 ?_
    have hPc := hP.sub (ws' := (wX4 cI cS a0 a1 a2 a3 a4 a5 a6 a7 a8 a9 a10 a11 a12 a13 a14 a15 a16 a17 a18 a19 a20 a21 a22 ppl psp psy psh tpl tsp tsy tsh kpl ksp ksy ksh bs bt sz nm fd ik psc pnc pdy pzz tsc tnc tdy tzz ksc knc kdy kzz ln so be en va)) [0, 1, 2, 3, 4, 5, 6, 7, 8, 9, 10, 11, 12, 13, 14, 15, 16, 17, 18, 19, 20, 21, 22] rfl
    refine kMi (wf' := (wX4 cI cS a0 a1 a2 a3 a4 a5 a6 a7 a8 a9 a10 a11 a12 a13 a14 a15 a16 a17 a18 a19 a20 a21 a22 ppl psp psy psh tpl tsp tsy tsh kpl ksp ksy ksh bs bt sz nm (fX4_finding_o1 fd (-1000001)) ik psc pnc pdy pzz tsc tnc tdy tzz ksc knc kdy kzz ln so be en va)) [0, 1, 2, 3, 4, 5, 6, 7, 8, 9, 10, 11, 12, 13, 14, 15, 16, 17, 18, 19, 20, 21, 22] [some 0, some 1, some 2, some 3, some 4, some 5, some 6, some 7, some 8, some 9, some 10, some 11, some 12, some 13, some 14, some 15, some 16, some 17, some 18, some 19, some 20, some 21, some 22] (rV C0 (tX4_finding l D cI cS a0 a1 a2 a3 a4 a5 a6 a7 a8 a9 a10 a11 a12 a13 a14 a15 a16 a17 a18 a19 a20 a21 a22 ppl psp psy psh tpl tsp tsy tsh kpl ksp ksy ksh bs bt sz nm fd ik psc pnc pdy pzz tsc tnc tdy tzz ksc knc kdy kzz ln so be en va (-1000001) (-1000001) (fX4_finding_o1 fd (-1000001)) (eeX4_finding ..) (((hD (wX4 cI cS a0 a1 a2 a3 a4 a5 a6 a7 a8 a9 a10 a11 a12 a13 a14 a15 a16 a17 a18 a19 a20 a21 a22 ppl psp psy psh tpl tsp tsy tsh kpl ksp ksy ksh bs bt sz nm fd ik psc pnc pdy pzz tsc tnc tdy tzz ksc knc kdy kzz ln so be en va) rfl).sub [0, 1, 2, 3, 4, 5, 6, 7, 8, 9, 10, 11, 12, 13, 14, 15, 16, 17, 18, 19, 20, 21, 22] (by decide) rfl).weaken (fun _ _ _ _ => trivial))) RX4 gX4_listed_X4_finding rfl ⟨rfl, rfl⟩ pdX4_finding rfl ⟨Nat.le_of_ble_eq_true rfl, Nat.le_of_ble_eq_true rfl⟩ (fun _ _ _ _ q => q) (va_recv hE.1 hPc (ci := 3) (q0 := 0) rfl rfl) (fun U hU _ _ => by rw [hU]; exact hPc) hl.1 rfl (Nat.le_of_ble_eq_true rfl) dX4_listed_21 ⟨Nat.zero_le _, Nat.zero_le _⟩) hP (hD _ rfl) hS rfl rfl rfl (fun H locs hP hS => ?_)
    obtain ⟨q0, q1⟩ := Prod.mk.inj (h)
    subst q0 q1
    exact eMi C0 hP hS rfl rfl dX4_listed_24
  · have h := ifn c_1 h
    refine lv_aload_n hx hb dX4_listed_7 rfl (lv_at hl 0 rfl) ?_
    refine va_get (D := D) (ci := 3) (v := .ref a1) (C := RX4) (T := TX4) (N := 7) hx hb hts hinX4 hown hE.1 hP 0 rfl rfl 0 (by decide) (hts _ (List.mem_of_getElem? (i := 1) rfl)) (fun _ h9 => h9) rfl dX4_listed_8 ?_
    refine lv_iload_n hx hb dX4_listed_11 rfl (lv_at hl 1 rfl) ?_
    have hPc := hP.sub (ws' := (wX0 cI cS a1 a2 a3 a4 a5 ppl psp psy psh psc pnc pdy pzz)) [1, 2, 3, 4, 5] rfl
    refine kRi (rV C0 (tX0_placeAt l D cI cS a1 a2 a3 a4 a5 ppl psp psy psh psc pnc pdy pzz v1 (fX0_placeAt ppl v1) rfl) RX0 gX4_listed_X0_placeAt rfl ⟨rfl, rfl⟩ pdX0_placeAt rfl ⟨Nat.le_of_ble_eq_true rfl, Nat.le_of_ble_eq_true rfl⟩ (fun _ _ _ _ q => q) (va_recv hE.1 hPc (ci := 0) (q0 := 0) rfl rfl) (fun U hU _ _ => by rw [hU]; exact hPc) hl.1 rfl (Nat.le_of_ble_eq_true rfl) dX4_listed_12 ⟨Nat.zero_le _, Nat.zero_le _⟩) ?_
    refine lv_goto (tgt := 24) hx hb dX4_listed_15 (by decide) ?_
    obtain ⟨q0, q1⟩ := Prod.mk.inj (h)
    subst q0 q1
    exact eMi C0 hP hS rfl rfl dX4_listed_24
def fX4_saying (psy : Nat → Int32) (fd : Nat → Int32) (psc : Int32) (v1 : Int32) (v2 : Int32) (v3 : Int32) : Int32 × (Nat → Int32) × (Nat → Int32) × Int32 := (if (fX4_isKind v1) = 0 then ((-1000001), psy, fX4_finding_o1 fd (-1000001), psc) else (if (fX4_within v2 0 99) = 0 then ((-1000001), psy, fX4_finding_o1 fd (-1000001), psc) else (if (fX4_isCell v3) = 0 then ((-1000001), psy, fX4_finding_o1 fd (-1000001), psc) else (if psc < 8 then (fX0_addSaying_o0 psy psc v1 v2 v3, fX0_addSaying_o1 psy psc v1 v2 v3, fd, fX0_addSaying_o2 psy psc v1 v2 v3) else ((-1000002), psy, fX4_finding_o1 fd (-1000002), psc)))))
def fX4_saying_o0 (psy : Nat → Int32) (fd : Nat → Int32) (psc : Int32) (v1 : Int32) (v2 : Int32) (v3 : Int32) : Int32 := (fX4_saying psy fd psc v1 v2 v3).1
def fX4_saying_o1 (psy : Nat → Int32) (fd : Nat → Int32) (psc : Int32) (v1 : Int32) (v2 : Int32) (v3 : Int32) : Nat → Int32 := (fX4_saying psy fd psc v1 v2 v3).2.1
def fX4_saying_o2 (psy : Nat → Int32) (fd : Nat → Int32) (psc : Int32) (v1 : Int32) (v2 : Int32) (v3 : Int32) : Nat → Int32 := (fX4_saying psy fd psc v1 v2 v3).2.2.1
def fX4_saying_o3 (psy : Nat → Int32) (fd : Nat → Int32) (psc : Int32) (v1 : Int32) (v2 : Int32) (v3 : Int32) : Int32 := (fX4_saying psy fd psc v1 v2 v3).2.2.2
theorem eeX4_saying (psy : Nat → Int32) (fd : Nat → Int32) (psc : Int32) (v1 : Int32) (v2 : Int32) (v3 : Int32) : fX4_saying psy fd psc v1 v2 v3 = (fX4_saying_o0 psy fd psc v1 v2 v3, fX4_saying_o1 psy fd psc v1 v2 v3, fX4_saying_o2 psy fd psc v1 v2 v3, fX4_saying_o3 psy fd psc v1 v2 v3) := rfl
abbrev rmX4_saying : Room := { frames := 3, cells := 0, slots := 0, locals := 69 }
theorem pdX4_saying : (yX4_saying.cls = RX4 ∧ yX4_saying.cls ≠ "java/lang/invoke/MethodHandle" ∧ yX4_saying.cls ≠ "java/lang/invoke/VarHandle" ∧ (parseMethodDescriptor yX4_saying.desc).map (fun d => d.parameters.length) = some 3) := by decide +kernel
set_option maxHeartbeats 4000000 in
set_option maxRecDepth 100000 in
theorem tX4_saying (l : Launch) (D : va_G) (cI cS : ClassId) (a0 a1 a2 a3 a4 a5 a6 a7 a8 a9 a10 a11 a12 a13 a14 a15 a16 a17 a18 a19 a20 a21 a22 : Nat) (ppl : Nat → Int32) (psp : Nat → Int32) (psy : Nat → Int32) (psh : Nat → Int32) (tpl : Nat → Int32) (tsp : Nat → Int32) (tsy : Nat → Int32) (tsh : Nat → Int32) (kpl : Nat → Int32) (ksp : Nat → Int32) (ksy : Nat → Int32) (ksh : Nat → Int32) (bs : Nat → Int32) (bt : Nat → Int32) (sz : Nat → Int32) (nm : Nat → Int32) (fd : Nat → Int32) (ik : Int32) (psc : Int32) (pnc : Int32) (pdy : Int32) (pzz : Int32) (tsc : Int32) (tnc : Int32) (tdy : Int32) (tzz : Int32) (ksc : Int32) (knc : Int32) (kdy : Int32) (kzz : Int32) (ln : Int32) (so : Int32) (be : Int32) (en : Int32) (va : Int32) (v1 : Int32) (v2 : Int32) (v3 : Int32) (z0 : Int32) (z1 : Nat → Int32) (z2 : Nat → Int32) (z3 : Int32) (h : fX4_saying psy fd psc v1 v2 v3 = (z0, z1, z2, z3)) (hD0 : va_D (fun _ => True) (wX4 cI cS a0 a1 a2 a3 a4 a5 a6 a7 a8 a9 a10 a11 a12 a13 a14 a15 a16 a17 a18 a19 a20 a21 a22 ppl psp psy psh tpl tsp tsy tsh kpl ksp ksy ksh bs bt sz nm fd ik psc pnc pdy pzz tsc tnc tdy tzz ksc knc kdy kzz ln so be en va)) : Met l yX4_saying wsX4_saying rmX4_saying (PZ D cI cS [.ref a0, .int v1, .int v2, .int v3] (fun U => va_P D vwCl (wX4 cI cS a0 a1 a2 a3 a4 a5 a6 a7 a8 a9 a10 a11 a12 a13 a14 a15 a16 a17 a18 a19 a20 a21 a22 ppl psp psy psh tpl tsp tsy tsh kpl ksp ksy ksh bs bt sz nm fd ik psc pnc pdy pzz tsc tnc tdy tzz ksc knc kdy kzz ln so be en va) U.heap)) (qI D (wX4 cI cS a0 a1 a2 a3 a4 a5 a6 a7 a8 a9 a10 a11 a12 a13 a14 a15 a16 a17 a18 a19 a20 a21 a22 ppl psp psy psh tpl tsp tsy tsh kpl ksp ksy ksh bs bt sz nm fd ik psc pnc pdy pzz tsc tnc tdy tzz ksc knc kdy kzz ln so be en va) (wX4 cI cS a0 a1 a2 a3 a4 a5 a6 a7 a8 a9 a10 a11 a12 a13 a14 a15 a16 a17 a18 a19 a20 a21 a22 ppl psp z1 psh tpl tsp tsy tsh kpl ksp ksy ksh bs bt sz nm z2 ik z3 pnc pdy pzz tsc tnc tdy tzz ksc knc kdy kzz ln so be en va) z0) 0 0 (wA (wX4 cI cS a0 a1 a2 a3 a4 a5 a6 a7 a8 a9 a10 a11 a12 a13 a14 a15 a16 a17 a18 a19 a20 a21 a22 ppl psp psy psh tpl tsp tsy tsh kpl ksp ksy ksh bs bt sz nm fd ik psc pnc pdy pzz tsc tnc tdy tzz ksc knc kdy kzz ln so be en va)) := by
  refine Met.mk RX4 (by decide) rfl rfl (Nat.le_of_ble_eq_true rfl) ?_
  intro p e s m below meth c ls C0 hP hl
  have hl : lv_has ls 4 [(0, .ref a0), (1, .int v1), (2, .int v2), (3, .int v3)] := hl
  obtain ⟨hx, hb, hr, hml, hown, hts, hlk, hE⟩ := id C0
  have hinX0 : ∀ w ∈ u_ws RX0 TX0 8, w ∈ wsX4_saying := by decide +kernel
  have hinX4 : ∀ w ∈ u_ws RX4 TX4 7, w ∈ wsX4_saying := by decide +kernel
  have hD : ∀ W : va_W, W.map Prod.fst = [a0, a1, a2, a3, a4, a5, a6, a7, a8, a9, a10, a11, a12, a13, a14, a15, a16, a17, a18, a19, a20, a21, a22] → va_D (wA (wX4 cI cS a0 a1 a2 a3 a4 a5 a6 a7 a8 a9 a10 a11 a12 a13 a14 a15 a16 a17 a18 a19 a20 a21 a22 ppl psp psy psh tpl tsp tsy tsh kpl ksp ksy ksh bs bt sz nm fd ik psc pnc pdy pzz tsc tnc tdy tzz ksc knc kdy kzz ln so be en va)) W := fun W hW => hD0.own.re hW
  have hS : va_S (wA (wX4 cI cS a0 a1 a2 a3 a4 a5 a6 a7 a8 a9 a10 a11 a12 a13 a14 a15 a16 a17 a18 a19 a20 a21 a22 ppl psp psy psh tpl tsp tsy tsh kpl ksp ksy ksh bs bt sz nm fd ik psc pnc pdy pzz tsc tnc tdy tzz ksc knc kdy kzz ln so be en va)) s.heap s.heap [] := va_S.rf
  have hP : va_P D vwCl (wX4 cI cS a0 a1 a2 a3 a4 a5 a6 a7 a8 a9 a10 a11 a12 a13 a14 a15 a16 a17 a18 a19 a20 a21 a22 ppl psp psy psh tpl tsp tsy tsh kpl ksp ksy ksh bs bt sz nm fd ik psc pnc pdy pzz tsc tnc tdy tzz ksc knc kdy kzz ln so be en va) s.heap := hP
  rw [fX4_saying] at h
  refine lv_iload_n hx hb dX4_saying_0 rfl (lv_at hl 1 rfl) ?_
  refine kRi (rS C0 (tX4_isKind l D cI cS v1 (fX4_isKind v1) rfl) gX4_saying_X4_isKind rfl ⟨rfl, rfl⟩ pdX4_isKind rfl ⟨Nat.le_of_ble_eq_true rfl, Nat.le_of_ble_eq_true rfl⟩ (fun _ _ _ _ q => q) (fun _ _ _ _ => vp0) hl.1 rfl (Nat.le_of_ble_eq_true rfl) dX4_saying_1 ⟨Nat.zero_le _, Nat.zero_le _⟩) ?_
  refine lv_if_eq (tgt := 24) hx hb dX4_saying_4 (by decide) (fun c_1 => ?_) (fun c_1 => ?_)
  · have h := ifp c_1 h
    refine lv_aload_n hx hb dX4_saying_24 rfl (lv_at hl 0 rfl) ?_
    refine lv_ldc (v := (-1000001)) hx hb hown (hts _ (List.mem_of_getElem? (i := 1) rfl)) dX4_saying_25 ?_
    have hPc := hP.sub (ws' := (wX4 cI cS a0 a1 a2 a3 a4 a5 a6 a7 a8 a9 a10 a11 a12 a13 a14 a15 a16 a17 a18 a19 a20 a21 a22 ppl psp psy psh tpl tsp tsy tsh kpl ksp ksy ksh bs bt sz nm fd ik psc pnc pdy pzz tsc tnc tdy tzz ksc knc kdy kzz ln so be en va)) [0, 1, 2, 3, 4, 5, 6, 7, 8, 9, 10, 11, 12, 13, 14, 15, 16, 17, 18, 19, 20, 21, 22] rfl
    refine kMi (wf' := (wX4 cI cS a0 a1 a2 a3 a4 a5 a6 a7 a8 a9 a10 a11 a12 a13 a14 a15 a16 a17 a18 a19 a20 a21 a22 ppl psp psy psh tpl tsp tsy tsh kpl ksp ksy ksh bs bt sz nm (fX4_finding_o1 fd (-1000001)) ik psc pnc pdy pzz tsc tnc tdy tzz ksc knc kdy kzz ln so be en va)) [0, 1, 2, 3, 4, 5, 6, 7, 8, 9, 10, 11, 12, 13, 14, 15, 16, 17, 18, 19, 20, 21, 22] [some 0, some 1, some 2, some 3, some 4, some 5, some 6, some 7, some 8, some 9, some 10, some 11, some 12, some 13, some 14, some 15, some 16, some 17, some 18, some 19, some 20, some 21, some 22] (rV C0 (tX4_finding l D cI cS a0 a1 a2 a3 a4 a5 a6 a7 a8 a9 a10 a11 a12 a13 a14 a15 a16 a17 a18 a19 a20 a21 a22 ppl psp psy psh tpl tsp tsy tsh kpl ksp ksy ksh bs bt sz nm fd ik psc pnc pdy pzz tsc tnc tdy tzz ksc knc kdy kzz ln so be en va (-1000001) (-1000001) (fX4_finding_o1 fd (-1000001)) (eeX4_finding ..) (((hD (wX4 cI cS a0 a1 a2 a3 a4 a5 a6 a7 a8 a9 a10 a11 a12 a13 a14 a15 a16 a17 a18 a19 a20 a21 a22 ppl psp psy psh tpl tsp tsy tsh kpl ksp ksy ksh bs bt sz nm fd ik psc pnc pdy pzz tsc tnc tdy tzz ksc knc kdy kzz ln so be en va) rfl).sub [0, 1, 2, 3, 4, 5, 6, 7, 8, 9, 10, 11, 12, 13, 14, 15, 16, 17, 18, 19, 20, 21, 22] (by decide) rfl).weaken (fun _ _ _ _ => trivial))) RX4 gX4_saying_X4_finding rfl ⟨rfl, rfl⟩ pdX4_finding rfl ⟨Nat.le_of_ble_eq_true rfl, Nat.le_of_ble_eq_true rfl⟩ (fun _ _ _ _ q => q) (va_recv hE.1 hPc (ci := 3) (q0 := 0) rfl rfl) (fun U hU _ _ => by rw [hU]; exact hPc) hl.1 rfl (Nat.le_of_ble_eq_true rfl) dX4_saying_27 ⟨Nat.zero_le _, Nat.zero_le _⟩) hP (hD _ rfl) hS rfl rfl rfl (fun H locs hP hS => ?_)
    obtain ⟨q0, g0⟩ := Prod.mk.inj (h)
    obtain ⟨q1, g1⟩ := Prod.mk.inj g0
    obtain ⟨q2, q3⟩ := Prod.mk.inj g1
    subst q0 q1 q2 q3
    exact eMi C0 hP hS rfl rfl dX4_saying_30
  · have h := ifn c_1 h
    refine lv_iload_n hx hb dX4_saying_7 rfl (lv_at hl 2 rfl) ?_
    refine lv_iconst (v := 0) hx hb dX4_saying_8 (by decide) ?_
    refine lv_bipush (v := 99) hx hb dX4_saying_9 (by decide) ?_
    refine kRi (rS C0 (tX4_within l D cI cS v2 0 99 (fX4_within v2 0 99) rfl) gX4_saying_X4_within rfl ⟨rfl, rfl⟩ pdX4_within rfl ⟨Nat.le_of_ble_eq_true rfl, Nat.le_of_ble_eq_true rfl⟩ (fun _ _ _ _ q => q) (fun _ _ _ _ => vp0) hl.1 rfl (Nat.le_of_ble_eq_true rfl) dX4_saying_11 ⟨Nat.zero_le _, Nat.zero_le _⟩) ?_
    refine lv_if_eq (tgt := 24) hx hb dX4_saying_14 (by decide) (fun c_2 => ?_) (fun c_2 => ?_)
    · have h := ifp c_2 h
      refine lv_aload_n hx hb dX4_saying_24 rfl (lv_at hl 0 rfl) ?_
      refine lv_ldc (v := (-1000001)) hx hb hown (hts _ (List.mem_of_getElem? (i := 1) rfl)) dX4_saying_25 ?_
      have hPc := hP.sub (ws' := (wX4 cI cS a0 a1 a2 a3 a4 a5 a6 a7 a8 a9 a10 a11 a12 a13 a14 a15 a16 a17 a18 a19 a20 a21 a22 ppl psp psy psh tpl tsp tsy tsh kpl ksp ksy ksh bs bt sz nm fd ik psc pnc pdy pzz tsc tnc tdy tzz ksc knc kdy kzz ln so be en va)) [0, 1, 2, 3, 4, 5, 6, 7, 8, 9, 10, 11, 12, 13, 14, 15, 16, 17, 18, 19, 20, 21, 22] rfl
      refine kMi (wf' := (wX4 cI cS a0 a1 a2 a3 a4 a5 a6 a7 a8 a9 a10 a11 a12 a13 a14 a15 a16 a17 a18 a19 a20 a21 a22 ppl psp psy psh tpl tsp tsy tsh kpl ksp ksy ksh bs bt sz nm (fX4_finding_o1 fd (-1000001)) ik psc pnc pdy pzz tsc tnc tdy tzz ksc knc kdy kzz ln so be en va)) [0, 1, 2, 3, 4, 5, 6, 7, 8, 9, 10, 11, 12, 13, 14, 15, 16, 17, 18, 19, 20, 21, 22] [some 0, some 1, some 2, some 3, some 4, some 5, some 6, some 7, some 8, some 9, some 10, some 11, some 12, some 13, some 14, some 15, some 16, some 17, some 18, some 19, some 20, some 21, some 22] (rV C0 (tX4_finding l D cI cS a0 a1 a2 a3 a4 a5 a6 a7 a8 a9 a10 a11 a12 a13 a14 a15 a16 a17 a18 a19 a20 a21 a22 ppl psp psy psh tpl tsp tsy tsh kpl ksp ksy ksh bs bt sz nm fd ik psc pnc pdy pzz tsc tnc tdy tzz ksc knc kdy kzz ln so be en va (-1000001) (-1000001) (fX4_finding_o1 fd (-1000001)) (eeX4_finding ..) (((hD (wX4 cI cS a0 a1 a2 a3 a4 a5 a6 a7 a8 a9 a10 a11 a12 a13 a14 a15 a16 a17 a18 a19 a20 a21 a22 ppl psp psy psh tpl tsp tsy tsh kpl ksp ksy ksh bs bt sz nm fd ik psc pnc pdy pzz tsc tnc tdy tzz ksc knc kdy kzz ln so be en va) rfl).sub [0, 1, 2, 3, 4, 5, 6, 7, 8, 9, 10, 11, 12, 13, 14, 15, 16, 17, 18, 19, 20, 21, 22] (by decide) rfl).weaken (fun _ _ _ _ => trivial))) RX4 gX4_saying_X4_finding rfl ⟨rfl, rfl⟩ pdX4_finding rfl ⟨Nat.le_of_ble_eq_true rfl, Nat.le_of_ble_eq_true rfl⟩ (fun _ _ _ _ q => q) (va_recv hE.1 hPc (ci := 3) (q0 := 0) rfl rfl) (fun U hU _ _ => by rw [hU]; exact hPc) hl.1 rfl (Nat.le_of_ble_eq_true rfl) dX4_saying_27 ⟨Nat.zero_le _, Nat.zero_le _⟩) hP (hD _ rfl) hS rfl rfl rfl (fun H locs hP hS => ?_)
      obtain ⟨q0, g0⟩ := Prod.mk.inj (h)
      obtain ⟨q1, g1⟩ := Prod.mk.inj g0
      obtain ⟨q2, q3⟩ := Prod.mk.inj g1
      subst q0 q1 q2 q3
      exact eMi C0 hP hS rfl rfl dX4_saying_30
    · have h := ifn c_2 h
      refine lv_iload_n hx hb dX4_saying_17 rfl (lv_at hl 3 rfl) ?_
      refine kRi (rS C0 (tX4_isCell l D cI cS v3 (fX4_isCell v3) rfl) gX4_saying_X4_isCell rfl ⟨rfl, rfl⟩ pdX4_isCell rfl ⟨Nat.le_of_ble_eq_true rfl, Nat.le_of_ble_eq_true rfl⟩ (fun _ _ _ _ q => q) (fun _ _ _ _ => vp0) hl.1 rfl (Nat.le_of_ble_eq_true rfl) dX4_saying_18 ⟨Nat.zero_le _, Nat.zero_le _⟩) ?_
      refine lv_if_ne (tgt := 31) hx hb dX4_saying_21 (by decide) (fun c_3 => ?_) (fun c_3 => ?_)
      · have h := ifn c_3 h
        refine lv_aload_n hx hb dX4_saying_31 rfl (lv_at hl 0 rfl) ?_
        refine va_get (D := D) (ci := 3) (v := .ref a1) (C := RX4) (T := TX4) (N := 7) hx hb hts hinX4 hown hE.1 hP 0 rfl rfl 0 (by decide) (hts _ (List.mem_of_getElem? (i := 2) rfl)) (fun _ h9 => h9) rfl dX4_saying_32 ?_
        refine va_getN (D := D) (ci := 0) (v := .int psc) (C := RX0) (T := TX0) (N := 8) hx hb hts hinX0 hown hE.1 hP 1 rfl rfl 4 (by decide) (va_Nw.use rfl (hE.2 _ (List.mem_of_getElem? (i := 0) rfl))) (fun _ h9 => h9) rfl dX4_saying_35 ?_
        refine lv_bipush (v := 8) hx hb dX4_saying_38 (by decide) ?_
        refine lv_icmp_lt (tgt := 50) hx hb dX4_saying_40 (by decide) (fun c_4 => ?_) (fun c_4 => ?_)
        · have h := ifp c_4 h
          refine lv_aload_n hx hb dX4_saying_50 rfl (lv_at hl 0 rfl) ?_
          refine va_get (D := D) (ci := 3) (v := .ref a1) (C := RX4) (T := TX4) (N := 7) hx hb hts hinX4 hown hE.1 hP 0 rfl rfl 0 (by decide) (hts _ (List.mem_of_getElem? (i := 2) rfl)) (fun _ h9 => h9) rfl dX4_saying_51 ?_
          refine lv_iload_n hx hb dX4_saying_54 rfl (lv_at hl 1 rfl) ?_
          refine lv_iload_n hx hb dX4_saying_55 rfl (lv_at hl 2 rfl) ?_
          refine lv_iload_n hx hb dX4_saying_56 rfl (lv_at hl 3 rfl) ?_
          have hPc := hP.sub (ws' := (wX0 cI cS a1 a2 a3 a4 a5 ppl psp psy psh psc pnc pdy pzz)) [1, 2, 3, 4, 5] rfl
          refine kMi (wf' := (wX4 cI cS a0 a1 a2 a3 a4 a5 a6 a7 a8 a9 a10 a11 a12 a13 a14 a15 a16 a17 a18 a19 a20 a21 a22 ppl psp (fX0_addSaying_o1 psy psc v1 v2 v3) psh tpl tsp tsy tsh kpl ksp ksy ksh bs bt sz nm fd ik (fX0_addSaying_o2 psy psc v1 v2 v3) pnc pdy pzz tsc tnc tdy tzz ksc knc kdy kzz ln so be en va)) [1, 2, 3, 4, 5] [none, some 0, some 1, some 2, some 3, some 4, none, none, none, none, none, none, none, none, none, none, none, none, none, none, none, none, none] (rV C0 (tX0_addSaying l D cI cS a1 a2 a3 a4 a5 ppl psp psy psh psc pnc pdy pzz v1 v2 v3 (fX0_addSaying_o0 psy psc v1 v2 v3) (fX0_addSaying_o1 psy psc v1 v2 v3) (fX0_addSaying_o2 psy psc v1 v2 v3) (eeX0_addSaying ..) (((hD (wX4 cI cS a0 a1 a2 a3 a4 a5 a6 a7 a8 a9 a10 a11 a12 a13 a14 a15 a16 a17 a18 a19 a20 a21 a22 ppl psp psy psh tpl tsp tsy tsh kpl ksp ksy ksh bs bt sz nm fd ik psc pnc pdy pzz tsc tnc tdy tzz ksc knc kdy kzz ln so be en va) rfl).sub [1, 2, 3, 4, 5] (by decide) rfl).weaken (fun _ _ _ _ => trivial))) RX0 gX4_saying_X0_addSaying rfl ⟨rfl, rfl⟩ pdX0_addSaying rfl ⟨Nat.le_of_ble_eq_true rfl, Nat.le_of_ble_eq_true rfl⟩ (fun _ _ _ _ q => q) (va_recv hE.1 hPc (ci := 0) (q0 := 0) rfl rfl) (fun U hU _ _ => by rw [hU]; exact hPc) hl.1 rfl (Nat.le_of_ble_eq_true rfl) dX4_saying_57 ⟨Nat.zero_le _, Nat.zero_le _⟩) hP (hD _ rfl) hS rfl rfl rfl (fun H locs hP hS => ?_)
          obtain ⟨q0, g0⟩ := Prod.mk.inj (h)
          obtain ⟨q1, g1⟩ := Prod.mk.inj g0
          obtain ⟨q2, q3⟩ := Prod.mk.inj g1
          subst q0 q1 q2 q3
          exact eMi C0 hP hS rfl rfl dX4_saying_60
        · have h := ifn c_4 h
          refine lv_aload_n hx hb dX4_saying_43 rfl (lv_at hl 0 rfl) ?_
          refine lv_ldc (v := (-1000002)) hx hb hown (hts _ (List.mem_of_getElem? (i := 3) rfl)) dX4_saying_44 ?_
          have hPc := hP.sub (ws' := (wX4 cI cS a0 a1 a2 a3 a4 a5 a6 a7 a8 a9 a10 a11 a12 a13 a14 a15 a16 a17 a18 a19 a20 a21 a22 ppl psp psy psh tpl tsp tsy tsh kpl ksp ksy ksh bs bt sz nm fd ik psc pnc pdy pzz tsc tnc tdy tzz ksc knc kdy kzz ln so be en va)) [0, 1, 2, 3, 4, 5, 6, 7, 8, 9, 10, 11, 12, 13, 14, 15, 16, 17, 18, 19, 20, 21, 22] rfl
          refine kMi (wf' := (wX4 cI cS a0 a1 a2 a3 a4 a5 a6 a7 a8 a9 a10 a11 a12 a13 a14 a15 a16 a17 a18 a19 a20 a21 a22 ppl psp psy psh tpl tsp tsy tsh kpl ksp ksy ksh bs bt sz nm (fX4_finding_o1 fd (-1000002)) ik psc pnc pdy pzz tsc tnc tdy tzz ksc knc kdy kzz ln so be en va)) [0, 1, 2, 3, 4, 5, 6, 7, 8, 9, 10, 11, 12, 13, 14, 15, 16, 17, 18, 19, 20, 21, 22] [some 0, some 1, some 2, some 3, some 4, some 5, some 6, some 7, some 8, some 9, some 10, some 11, some 12, some 13, some 14, some 15, some 16, some 17, some 18, some 19, some 20, some 21, some 22] (rV C0 (tX4_finding l D cI cS a0 a1 a2 a3 a4 a5 a6 a7 a8 a9 a10 a11 a12 a13 a14 a15 a16 a17 a18 a19 a20 a21 a22 ppl psp psy psh tpl tsp tsy tsh kpl ksp ksy ksh bs bt sz nm fd ik psc pnc pdy pzz tsc tnc tdy tzz ksc knc kdy kzz ln so be en va (-1000002) (-1000002) (fX4_finding_o1 fd (-1000002)) (eeX4_finding ..) (((hD (wX4 cI cS a0 a1 a2 a3 a4 a5 a6 a7 a8 a9 a10 a11 a12 a13 a14 a15 a16 a17 a18 a19 a20 a21 a22 ppl psp psy psh tpl tsp tsy tsh kpl ksp ksy ksh bs bt sz nm fd ik psc pnc pdy pzz tsc tnc tdy tzz ksc knc kdy kzz ln so be en va) rfl).sub [0, 1, 2, 3, 4, 5, 6, 7, 8, 9, 10, 11, 12, 13, 14, 15, 16, 17, 18, 19, 20, 21, 22] (by decide) rfl).weaken (fun _ _ _ _ => trivial))) RX4 gX4_saying_X4_finding rfl ⟨rfl, rfl⟩ pdX4_finding rfl ⟨Nat.le_of_ble_eq_true rfl, Nat.le_of_ble_eq_true rfl⟩ (fun _ _ _ _ q => q) (va_recv hE.1 hPc (ci := 3) (q0 := 0) rfl rfl) (fun U hU _ _ => by rw [hU]; exact hPc) hl.1 rfl (Nat.le_of_ble_eq_true rfl) dX4_saying_46 ⟨Nat.zero_le _, Nat.zero_le _⟩) hP (hD _ rfl) hS rfl rfl rfl (fun H locs hP hS => ?_)
          obtain ⟨q0, g0⟩ := Prod.mk.inj (h)
          obtain ⟨q1, g1⟩ := Prod.mk.inj g0
          obtain ⟨q2, q3⟩ := Prod.mk.inj g1
          subst q0 q1 q2 q3
          exact eMi C0 hP hS rfl rfl dX4_saying_49
      · have h := ifp c_3 h
        refine lv_aload_n hx hb dX4_saying_24 rfl (lv_at hl 0 rfl) ?_
        refine lv_ldc (v := (-1000001)) hx hb hown (hts _ (List.mem_of_getElem? (i := 1) rfl)) dX4_saying_25 ?_
        have hPc := hP.sub (ws' := (wX4 cI cS a0 a1 a2 a3 a4 a5 a6 a7 a8 a9 a10 a11 a12 a13 a14 a15 a16 a17 a18 a19 a20 a21 a22 ppl psp psy psh tpl tsp tsy tsh kpl ksp ksy ksh bs bt sz nm fd ik psc pnc pdy pzz tsc tnc tdy tzz ksc knc kdy kzz ln so be en va)) [0, 1, 2, 3, 4, 5, 6, 7, 8, 9, 10, 11, 12, 13, 14, 15, 16, 17, 18, 19, 20, 21, 22] rfl
        refine kMi (wf' := (wX4 cI cS a0 a1 a2 a3 a4 a5 a6 a7 a8 a9 a10 a11 a12 a13 a14 a15 a16 a17 a18 a19 a20 a21 a22 ppl psp psy psh tpl tsp tsy tsh kpl ksp ksy ksh bs bt sz nm (fX4_finding_o1 fd (-1000001)) ik psc pnc pdy pzz tsc tnc tdy tzz ksc knc kdy kzz ln so be en va)) [0, 1, 2, 3, 4, 5, 6, 7, 8, 9, 10, 11, 12, 13, 14, 15, 16, 17, 18, 19, 20, 21, 22] [some 0, some 1, some 2, some 3, some 4, some 5, some 6, some 7, some 8, some 9, some 10, some 11, some 12, some 13, some 14, some 15, some 16, some 17, some 18, some 19, some 20, some 21, some 22] (rV C0 (tX4_finding l D cI cS a0 a1 a2 a3 a4 a5 a6 a7 a8 a9 a10 a11 a12 a13 a14 a15 a16 a17 a18 a19 a20 a21 a22 ppl psp psy psh tpl tsp tsy tsh kpl ksp ksy ksh bs bt sz nm fd ik psc pnc pdy pzz tsc tnc tdy tzz ksc knc kdy kzz ln so be en va (-1000001) (-1000001) (fX4_finding_o1 fd (-1000001)) (eeX4_finding ..) (((hD (wX4 cI cS a0 a1 a2 a3 a4 a5 a6 a7 a8 a9 a10 a11 a12 a13 a14 a15 a16 a17 a18 a19 a20 a21 a22 ppl psp psy psh tpl tsp tsy tsh kpl ksp ksy ksh bs bt sz nm fd ik psc pnc pdy pzz tsc tnc tdy tzz ksc knc kdy kzz ln so be en va) rfl).sub [0, 1, 2, 3, 4, 5, 6, 7, 8, 9, 10, 11, 12, 13, 14, 15, 16, 17, 18, 19, 20, 21, 22] (by decide) rfl).weaken (fun _ _ _ _ => trivial))) RX4 gX4_saying_X4_finding rfl ⟨rfl, rfl⟩ pdX4_finding rfl ⟨Nat.le_of_ble_eq_true rfl, Nat.le_of_ble_eq_true rfl⟩ (fun _ _ _ _ q => q) (va_recv hE.1 hPc (ci := 3) (q0 := 0) rfl rfl) (fun U hU _ _ => by rw [hU]; exact hPc) hl.1 rfl (Nat.le_of_ble_eq_true rfl) dX4_saying_27 ⟨Nat.zero_le _, Nat.zero_le _⟩) hP (hD _ rfl) hS rfl rfl rfl (fun H locs hP hS => ?_)
        obtain ⟨q0, g0⟩ := Prod.mk.inj (h)
        obtain ⟨q1, g1⟩ := Prod.mk.inj g0
        obtain ⟨q2, q3⟩ := Prod.mk.inj g1
        subst q0 q1 q2 q3
        exact eMi C0 hP hS rfl rfl dX4_saying_30
def fX4_ship (psh : Nat → Int32) (fd : Nat → Int32) (pnc : Int32) (v1 : Int32) (v2 : Int32) : Int32 × (Nat → Int32) × (Nat → Int32) × Int32 := (if (fX4_isCell v1) = 0 then ((-1000001), psh, fX4_finding_o1 fd (-1000001), pnc) else (if (fX4_within v2 1 5) = 0 then ((-1000001), psh, fX4_finding_o1 fd (-1000001), pnc) else (if pnc < 6 then (fX0_addShip_o0 psh pnc v1 30 v2, fX0_addShip_o1 psh pnc v1 30 v2, fd, fX0_addShip_o2 psh pnc v1 30 v2) else ((-1000002), psh, fX4_finding_o1 fd (-1000002), pnc))))
def fX4_ship_o0 (psh : Nat → Int32) (fd : Nat → Int32) (pnc : Int32) (v1 : Int32) (v2 : Int32) : Int32 := (fX4_ship psh fd pnc v1 v2).1
def fX4_ship_o1 (psh : Nat → Int32) (fd : Nat → Int32) (pnc : Int32) (v1 : Int32) (v2 : Int32) : Nat → Int32 := (fX4_ship psh fd pnc v1 v2).2.1
def fX4_ship_o2 (psh : Nat → Int32) (fd : Nat → Int32) (pnc : Int32) (v1 : Int32) (v2 : Int32) : Nat → Int32 := (fX4_ship psh fd pnc v1 v2).2.2.1
def fX4_ship_o3 (psh : Nat → Int32) (fd : Nat → Int32) (pnc : Int32) (v1 : Int32) (v2 : Int32) : Int32 := (fX4_ship psh fd pnc v1 v2).2.2.2
theorem eeX4_ship (psh : Nat → Int32) (fd : Nat → Int32) (pnc : Int32) (v1 : Int32) (v2 : Int32) : fX4_ship psh fd pnc v1 v2 = (fX4_ship_o0 psh fd pnc v1 v2, fX4_ship_o1 psh fd pnc v1 v2, fX4_ship_o2 psh fd pnc v1 v2, fX4_ship_o3 psh fd pnc v1 v2) := rfl
abbrev rmX4_ship : Room := { frames := 3, cells := 0, slots := 0, locals := 69 }
theorem pdX4_ship : (yX4_ship.cls = RX4 ∧ yX4_ship.cls ≠ "java/lang/invoke/MethodHandle" ∧ yX4_ship.cls ≠ "java/lang/invoke/VarHandle" ∧ (parseMethodDescriptor yX4_ship.desc).map (fun d => d.parameters.length) = some 2) := by decide +kernel
set_option maxHeartbeats 4000000 in
set_option maxRecDepth 100000 in
theorem tX4_ship (l : Launch) (D : va_G) (cI cS : ClassId) (a0 a1 a2 a3 a4 a5 a6 a7 a8 a9 a10 a11 a12 a13 a14 a15 a16 a17 a18 a19 a20 a21 a22 : Nat) (ppl : Nat → Int32) (psp : Nat → Int32) (psy : Nat → Int32) (psh : Nat → Int32) (tpl : Nat → Int32) (tsp : Nat → Int32) (tsy : Nat → Int32) (tsh : Nat → Int32) (kpl : Nat → Int32) (ksp : Nat → Int32) (ksy : Nat → Int32) (ksh : Nat → Int32) (bs : Nat → Int32) (bt : Nat → Int32) (sz : Nat → Int32) (nm : Nat → Int32) (fd : Nat → Int32) (ik : Int32) (psc : Int32) (pnc : Int32) (pdy : Int32) (pzz : Int32) (tsc : Int32) (tnc : Int32) (tdy : Int32) (tzz : Int32) (ksc : Int32) (knc : Int32) (kdy : Int32) (kzz : Int32) (ln : Int32) (so : Int32) (be : Int32) (en : Int32) (va : Int32) (v1 : Int32) (v2 : Int32) (z0 : Int32) (z1 : Nat → Int32) (z2 : Nat → Int32) (z3 : Int32) (h : fX4_ship psh fd pnc v1 v2 = (z0, z1, z2, z3)) (hD0 : va_D (fun _ => True) (wX4 cI cS a0 a1 a2 a3 a4 a5 a6 a7 a8 a9 a10 a11 a12 a13 a14 a15 a16 a17 a18 a19 a20 a21 a22 ppl psp psy psh tpl tsp tsy tsh kpl ksp ksy ksh bs bt sz nm fd ik psc pnc pdy pzz tsc tnc tdy tzz ksc knc kdy kzz ln so be en va)) : Met l yX4_ship wsX4_ship rmX4_ship (PZ D cI cS [.ref a0, .int v1, .int v2] (fun U => va_P D vwCl (wX4 cI cS a0 a1 a2 a3 a4 a5 a6 a7 a8 a9 a10 a11 a12 a13 a14 a15 a16 a17 a18 a19 a20 a21 a22 ppl psp psy psh tpl tsp tsy tsh kpl ksp ksy ksh bs bt sz nm fd ik psc pnc pdy pzz tsc tnc tdy tzz ksc knc kdy kzz ln so be en va) U.heap)) (qI D (wX4 cI cS a0 a1 a2 a3 a4 a5 a6 a7 a8 a9 a10 a11 a12 a13 a14 a15 a16 a17 a18 a19 a20 a21 a22 ppl psp psy psh tpl tsp tsy tsh kpl ksp ksy ksh bs bt sz nm fd ik psc pnc pdy pzz tsc tnc tdy tzz ksc knc kdy kzz ln so be en va) (wX4 cI cS a0 a1 a2 a3 a4 a5 a6 a7 a8 a9 a10 a11 a12 a13 a14 a15 a16 a17 a18 a19 a20 a21 a22 ppl psp psy z1 tpl tsp tsy tsh kpl ksp ksy ksh bs bt sz nm z2 ik psc z3 pdy pzz tsc tnc tdy tzz ksc knc kdy kzz ln so be en va) z0) 0 0 (wA (wX4 cI cS a0 a1 a2 a3 a4 a5 a6 a7 a8 a9 a10 a11 a12 a13 a14 a15 a16 a17 a18 a19 a20 a21 a22 ppl psp psy psh tpl tsp tsy tsh kpl ksp ksy ksh bs bt sz nm fd ik psc pnc pdy pzz tsc tnc tdy tzz ksc knc kdy kzz ln so be en va)) := by
  refine Met.mk RX4 (by decide) rfl rfl (Nat.le_of_ble_eq_true rfl) ?_
  intro p e s m below meth c ls C0 hP hl
  have hl : lv_has ls 3 [(0, .ref a0), (1, .int v1), (2, .int v2)] := hl
  obtain ⟨hx, hb, hr, hml, hown, hts, hlk, hE⟩ := id C0
  have hinX0 : ∀ w ∈ u_ws RX0 TX0 8, w ∈ wsX4_ship := by decide +kernel
  have hinX4 : ∀ w ∈ u_ws RX4 TX4 7, w ∈ wsX4_ship := by decide +kernel
  have hD : ∀ W : va_W, W.map Prod.fst = [a0, a1, a2, a3, a4, a5, a6, a7, a8, a9, a10, a11, a12, a13, a14, a15, a16, a17, a18, a19, a20, a21, a22] → va_D (wA (wX4 cI cS a0 a1 a2 a3 a4 a5 a6 a7 a8 a9 a10 a11 a12 a13 a14 a15 a16 a17 a18 a19 a20 a21 a22 ppl psp psy psh tpl tsp tsy tsh kpl ksp ksy ksh bs bt sz nm fd ik psc pnc pdy pzz tsc tnc tdy tzz ksc knc kdy kzz ln so be en va)) W := fun W hW => hD0.own.re hW
  have hS : va_S (wA (wX4 cI cS a0 a1 a2 a3 a4 a5 a6 a7 a8 a9 a10 a11 a12 a13 a14 a15 a16 a17 a18 a19 a20 a21 a22 ppl psp psy psh tpl tsp tsy tsh kpl ksp ksy ksh bs bt sz nm fd ik psc pnc pdy pzz tsc tnc tdy tzz ksc knc kdy kzz ln so be en va)) s.heap s.heap [] := va_S.rf
  have hP : va_P D vwCl (wX4 cI cS a0 a1 a2 a3 a4 a5 a6 a7 a8 a9 a10 a11 a12 a13 a14 a15 a16 a17 a18 a19 a20 a21 a22 ppl psp psy psh tpl tsp tsy tsh kpl ksp ksy ksh bs bt sz nm fd ik psc pnc pdy pzz tsc tnc tdy tzz ksc knc kdy kzz ln so be en va) s.heap := hP
  rw [fX4_ship] at h
  refine lv_iload_n hx hb dX4_ship_0 rfl (lv_at hl 1 rfl) ?_
  refine kRi (rS C0 (tX4_isCell l D cI cS v1 (fX4_isCell v1) rfl) gX4_ship_X4_isCell rfl ⟨rfl, rfl⟩ pdX4_isCell rfl ⟨Nat.le_of_ble_eq_true rfl, Nat.le_of_ble_eq_true rfl⟩ (fun _ _ _ _ q => q) (fun _ _ _ _ => vp0) hl.1 rfl (Nat.le_of_ble_eq_true rfl) dX4_ship_1 ⟨Nat.zero_le _, Nat.zero_le _⟩) ?_
  refine lv_if_eq (tgt := 16) hx hb dX4_ship_4 (by decide) (fun c_1 => ?_) (fun c_1 => ?_)
  · have h := ifp c_1 h
    refine lv_aload_n hx hb dX4_ship_16 rfl (lv_at hl 0 rfl) ?_
    refine lv_ldc (v := (-1000001)) hx hb hown (hts _ (List.mem_of_getElem? (i := 1) rfl)) dX4_ship_17 ?_
    have hPc := hP.sub (ws' := (wX4 cI cS a0 a1 a2 a3 a4 a5 a6 a7 a8 a9 a10 a11 a12 a13 a14 a15 a16 a17 a18 a19 a20 a21 a22 ppl psp psy psh tpl tsp tsy tsh kpl ksp ksy ksh bs bt sz nm fd ik psc pnc pdy pzz tsc tnc tdy tzz ksc knc kdy kzz ln so be en va)) [0, 1, 2, 3, 4, 5, 6, 7, 8, 9, 10, 11, 12, 13, 14, 15, 16, 17, 18, 19, 20, 21, 22] rfl
    refine kMi (wf' := (wX4 cI cS a0 a1 a2 a3 a4 a5 a6 a7 a8 a9 a10 a11 a12 a13 a14 a15 a16 a17 a18 a19 a20 a21 a22 ppl psp psy psh tpl tsp tsy tsh kpl ksp ksy ksh bs bt sz nm (fX4_finding_o1 fd (-1000001)) ik psc pnc pdy pzz tsc tnc tdy tzz ksc knc kdy kzz ln so be en va)) [0, 1, 2, 3, 4, 5, 6, 7, 8, 9, 10, 11, 12, 13, 14, 15, 16, 17, 18, 19, 20, 21, 22] [some 0, some 1, some 2, some 3, some 4, some 5, some 6, some 7, some 8, some 9, some 10, some 11, some 12, some 13, some 14, some 15, some 16, some 17, some 18, some 19, some 20, some 21, some 22] (rV C0 (tX4_finding l D cI cS a0 a1 a2 a3 a4 a5 a6 a7 a8 a9 a10 a11 a12 a13 a14 a15 a16 a17 a18 a19 a20 a21 a22 ppl psp psy psh tpl tsp tsy tsh kpl ksp ksy ksh bs bt sz nm fd ik psc pnc pdy pzz tsc tnc tdy tzz ksc knc kdy kzz ln so be en va (-1000001) (-1000001) (fX4_finding_o1 fd (-1000001)) (eeX4_finding ..) (((hD (wX4 cI cS a0 a1 a2 a3 a4 a5 a6 a7 a8 a9 a10 a11 a12 a13 a14 a15 a16 a17 a18 a19 a20 a21 a22 ppl psp psy psh tpl tsp tsy tsh kpl ksp ksy ksh bs bt sz nm fd ik psc pnc pdy pzz tsc tnc tdy tzz ksc knc kdy kzz ln so be en va) rfl).sub [0, 1, 2, 3, 4, 5, 6, 7, 8, 9, 10, 11, 12, 13, 14, 15, 16, 17, 18, 19, 20, 21, 22] (by decide) rfl).weaken (fun _ _ _ _ => trivial))) RX4 gX4_ship_X4_finding rfl ⟨rfl, rfl⟩ pdX4_finding rfl ⟨Nat.le_of_ble_eq_true rfl, Nat.le_of_ble_eq_true rfl⟩ (fun _ _ _ _ q => q) (va_recv hE.1 hPc (ci := 3) (q0 := 0) rfl rfl) (fun U hU _ _ => by rw [hU]; exact hPc) hl.1 rfl (Nat.le_of_ble_eq_true rfl) dX4_ship_19 ⟨Nat.zero_le _, Nat.zero_le _⟩) hP (hD _ rfl) hS rfl rfl rfl (fun H locs hP hS => ?_)
    obtain ⟨q0, g0⟩ := Prod.mk.inj (h)
    obtain ⟨q1, g1⟩ := Prod.mk.inj g0
    obtain ⟨q2, q3⟩ := Prod.mk.inj g1
    subst q0 q1 q2 q3
    exact eMi C0 hP hS rfl rfl dX4_ship_22
  · have h := ifn c_1 h
    refine lv_iload_n hx hb dX4_ship_7 rfl (lv_at hl 2 rfl) ?_
    refine lv_iconst (v := 1) hx hb dX4_ship_8 (by decide) ?_
    refine lv_iconst (v := 5) hx hb dX4_ship_9 (by decide) ?_
    refine kRi (rS C0 (tX4_within l D cI cS v2 1 5 (fX4_within v2 1 5) rfl) gX4_ship_X4_within rfl ⟨rfl, rfl⟩ pdX4_within rfl ⟨Nat.le_of_ble_eq_true rfl, Nat.le_of_ble_eq_true rfl⟩ (fun _ _ _ _ q => q) (fun _ _ _ _ => vp0) hl.1 rfl (Nat.le_of_ble_eq_true rfl) dX4_ship_10 ⟨Nat.zero_le _, Nat.zero_le _⟩) ?_
    refine lv_if_ne (tgt := 23) hx hb dX4_ship_13 (by decide) (fun c_2 => ?_) (fun c_2 => ?_)
    · have h := ifn c_2 h
      refine lv_aload_n hx hb dX4_ship_23 rfl (lv_at hl 0 rfl) ?_
      refine va_get (D := D) (ci := 3) (v := .ref a1) (C := RX4) (T := TX4) (N := 7) hx hb hts hinX4 hown hE.1 hP 0 rfl rfl 0 (by decide) (hts _ (List.mem_of_getElem? (i := 2) rfl)) (fun _ h9 => h9) rfl dX4_ship_24 ?_
      refine va_getN (D := D) (ci := 0) (v := .int pnc) (C := RX0) (T := TX0) (N := 8) hx hb hts hinX0 hown hE.1 hP 1 rfl rfl 5 (by decide) (va_Nw.use rfl (hE.2 _ (List.mem_of_getElem? (i := 2) rfl))) (fun _ h9 => h9) rfl dX4_ship_27 ?_
      refine lv_bipush (v := 6) hx hb dX4_ship_30 (by decide) ?_
      refine lv_icmp_lt (tgt := 42) hx hb dX4_ship_32 (by decide) (fun c_3 => ?_) (fun c_3 => ?_)
      · have h := ifp c_3 h
        refine lv_aload_n hx hb dX4_ship_42 rfl (lv_at hl 0 rfl) ?_
        refine va_get (D := D) (ci := 3) (v := .ref a1) (C := RX4) (T := TX4) (N := 7) hx hb hts hinX4 hown hE.1 hP 0 rfl rfl 0 (by decide) (hts _ (List.mem_of_getElem? (i := 2) rfl)) (fun _ h9 => h9) rfl dX4_ship_43 ?_
        refine lv_iload_n hx hb dX4_ship_46 rfl (lv_at hl 1 rfl) ?_
        refine lv_bipush (v := 30) hx hb dX4_ship_47 (by decide) ?_
        refine lv_iload_n hx hb dX4_ship_49 rfl (lv_at hl 2 rfl) ?_
        have hPc := hP.sub (ws' := (wX0 cI cS a1 a2 a3 a4 a5 ppl psp psy psh psc pnc pdy pzz)) [1, 2, 3, 4, 5] rfl
        refine kMi (wf' := (wX4 cI cS a0 a1 a2 a3 a4 a5 a6 a7 a8 a9 a10 a11 a12 a13 a14 a15 a16 a17 a18 a19 a20 a21 a22 ppl psp psy (fX0_addShip_o1 psh pnc v1 30 v2) tpl tsp tsy tsh kpl ksp ksy ksh bs bt sz nm fd ik psc (fX0_addShip_o2 psh pnc v1 30 v2) pdy pzz tsc tnc tdy tzz ksc knc kdy kzz ln so be en va)) [1, 2, 3, 4, 5] [none, some 0, some 1, some 2, some 3, some 4, none, none, none, none, none, none, none, none, none, none, none, none, none, none, none, none, none] (rV C0 (tX0_addShip l D cI cS a1 a2 a3 a4 a5 ppl psp psy psh psc pnc pdy pzz v1 30 v2 (fX0_addShip_o0 psh pnc v1 30 v2) (fX0_addShip_o1 psh pnc v1 30 v2) (fX0_addShip_o2 psh pnc v1 30 v2) (eeX0_addShip ..) (((hD (wX4 cI cS a0 a1 a2 a3 a4 a5 a6 a7 a8 a9 a10 a11 a12 a13 a14 a15 a16 a17 a18 a19 a20 a21 a22 ppl psp psy psh tpl tsp tsy tsh kpl ksp ksy ksh bs bt sz nm fd ik psc pnc pdy pzz tsc tnc tdy tzz ksc knc kdy kzz ln so be en va) rfl).sub [1, 2, 3, 4, 5] (by decide) rfl).weaken (fun _ _ _ _ => trivial))) RX0 gX4_ship_X0_addShip rfl ⟨rfl, rfl⟩ pdX0_addShip rfl ⟨Nat.le_of_ble_eq_true rfl, Nat.le_of_ble_eq_true rfl⟩ (fun _ _ _ _ q => q) (va_recv hE.1 hPc (ci := 0) (q0 := 0) rfl rfl) (fun U hU _ _ => by rw [hU]; exact hPc) hl.1 rfl (Nat.le_of_ble_eq_true rfl) dX4_ship_50 ⟨Nat.zero_le _, Nat.zero_le _⟩) hP (hD _ rfl) hS rfl rfl rfl (fun H locs hP hS => ?_)
        obtain ⟨q0, g0⟩ := Prod.mk.inj (h)
        obtain ⟨q1, g1⟩ := Prod.mk.inj g0
        obtain ⟨q2, q3⟩ := Prod.mk.inj g1
        subst q0 q1 q2 q3
        exact eMi C0 hP hS rfl rfl dX4_ship_53
      · have h := ifn c_3 h
        refine lv_aload_n hx hb dX4_ship_35 rfl (lv_at hl 0 rfl) ?_
        refine lv_ldc (v := (-1000002)) hx hb hown (hts _ (List.mem_of_getElem? (i := 3) rfl)) dX4_ship_36 ?_
        have hPc := hP.sub (ws' := (wX4 cI cS a0 a1 a2 a3 a4 a5 a6 a7 a8 a9 a10 a11 a12 a13 a14 a15 a16 a17 a18 a19 a20 a21 a22 ppl psp psy psh tpl tsp tsy tsh kpl ksp ksy ksh bs bt sz nm fd ik psc pnc pdy pzz tsc tnc tdy tzz ksc knc kdy kzz ln so be en va)) [0, 1, 2, 3, 4, 5, 6, 7, 8, 9, 10, 11, 12, 13, 14, 15, 16, 17, 18, 19, 20, 21, 22] rfl
        refine kMi (wf' := (wX4 cI cS a0 a1 a2 a3 a4 a5 a6 a7 a8 a9 a10 a11 a12 a13 a14 a15 a16 a17 a18 a19 a20 a21 a22 ppl psp psy psh tpl tsp tsy tsh kpl ksp ksy ksh bs bt sz nm (fX4_finding_o1 fd (-1000002)) ik psc pnc pdy pzz tsc tnc tdy tzz ksc knc kdy kzz ln so be en va)) [0, 1, 2, 3, 4, 5, 6, 7, 8, 9, 10, 11, 12, 13, 14, 15, 16, 17, 18, 19, 20, 21, 22] [some 0, some 1, some 2, some 3, some 4, some 5, some 6, some 7, some 8, some 9, some 10, some 11, some 12, some 13, some 14, some 15, some 16, some 17, some 18, some 19, some 20, some 21, some 22] (rV C0 (tX4_finding l D cI cS a0 a1 a2 a3 a4 a5 a6 a7 a8 a9 a10 a11 a12 a13 a14 a15 a16 a17 a18 a19 a20 a21 a22 ppl psp psy psh tpl tsp tsy tsh kpl ksp ksy ksh bs bt sz nm fd ik psc pnc pdy pzz tsc tnc tdy tzz ksc knc kdy kzz ln so be en va (-1000002) (-1000002) (fX4_finding_o1 fd (-1000002)) (eeX4_finding ..) (((hD (wX4 cI cS a0 a1 a2 a3 a4 a5 a6 a7 a8 a9 a10 a11 a12 a13 a14 a15 a16 a17 a18 a19 a20 a21 a22 ppl psp psy psh tpl tsp tsy tsh kpl ksp ksy ksh bs bt sz nm fd ik psc pnc pdy pzz tsc tnc tdy tzz ksc knc kdy kzz ln so be en va) rfl).sub [0, 1, 2, 3, 4, 5, 6, 7, 8, 9, 10, 11, 12, 13, 14, 15, 16, 17, 18, 19, 20, 21, 22] (by decide) rfl).weaken (fun _ _ _ _ => trivial))) RX4 gX4_ship_X4_finding rfl ⟨rfl, rfl⟩ pdX4_finding rfl ⟨Nat.le_of_ble_eq_true rfl, Nat.le_of_ble_eq_true rfl⟩ (fun _ _ _ _ q => q) (va_recv hE.1 hPc (ci := 3) (q0 := 0) rfl rfl) (fun U hU _ _ => by rw [hU]; exact hPc) hl.1 rfl (Nat.le_of_ble_eq_true rfl) dX4_ship_38 ⟨Nat.zero_le _, Nat.zero_le _⟩) hP (hD _ rfl) hS rfl rfl rfl (fun H locs hP hS => ?_)
        obtain ⟨q0, g0⟩ := Prod.mk.inj (h)
        obtain ⟨q1, g1⟩ := Prod.mk.inj g0
        obtain ⟨q2, q3⟩ := Prod.mk.inj g1
        subst q0 q1 q2 q3
        exact eMi C0 hP hS rfl rfl dX4_ship_41
    · have h := ifp c_2 h
      refine lv_aload_n hx hb dX4_ship_16 rfl (lv_at hl 0 rfl) ?_
      refine lv_ldc (v := (-1000001)) hx hb hown (hts _ (List.mem_of_getElem? (i := 1) rfl)) dX4_ship_17 ?_
      have hPc := hP.sub (ws' := (wX4 cI cS a0 a1 a2 a3 a4 a5 a6 a7 a8 a9 a10 a11 a12 a13 a14 a15 a16 a17 a18 a19 a20 a21 a22 ppl psp psy psh tpl tsp tsy tsh kpl ksp ksy ksh bs bt sz nm fd ik psc pnc pdy pzz tsc tnc tdy tzz ksc knc kdy kzz ln so be en va)) [0, 1, 2, 3, 4, 5, 6, 7, 8, 9, 10, 11, 12, 13, 14, 15, 16, 17, 18, 19, 20, 21, 22] rfl
      refine kMi (wf' := (wX4 cI cS a0 a1 a2 a3 a4 a5 a6 a7 a8 a9 a10 a11 a12 a13 a14 a15 a16 a17 a18 a19 a20 a21 a22 ppl psp psy psh tpl tsp tsy tsh kpl ksp ksy ksh bs bt sz nm (fX4_finding_o1 fd (-1000001)) ik psc pnc pdy pzz tsc tnc tdy tzz ksc knc kdy kzz ln so be en va)) [0, 1, 2, 3, 4, 5, 6, 7, 8, 9, 10, 11, 12, 13, 14, 15, 16, 17, 18, 19, 20, 21, 22] [some 0, some 1, some 2, some 3, some 4, some 5, some 6, some 7, some 8, some 9, some 10, some 11, some 12, some 13, some 14, some 15, some 16, some 17, some 18, some 19, some 20, some 21, some 22] (rV C0 (tX4_finding l D cI cS a0 a1 a2 a3 a4 a5 a6 a7 a8 a9 a10 a11 a12 a13 a14 a15 a16 a17 a18 a19 a20 a21 a22 ppl psp psy psh tpl tsp tsy tsh kpl ksp ksy ksh bs bt sz nm fd ik psc pnc pdy pzz tsc tnc tdy tzz ksc knc kdy kzz ln so be en va (-1000001) (-1000001) (fX4_finding_o1 fd (-1000001)) (eeX4_finding ..) (((hD (wX4 cI cS a0 a1 a2 a3 a4 a5 a6 a7 a8 a9 a10 a11 a12 a13 a14 a15 a16 a17 a18 a19 a20 a21 a22 ppl psp psy psh tpl tsp tsy tsh kpl ksp ksy ksh bs bt sz nm fd ik psc pnc pdy pzz tsc tnc tdy tzz ksc knc kdy kzz ln so be en va) rfl).sub [0, 1, 2, 3, 4, 5, 6, 7, 8, 9, 10, 11, 12, 13, 14, 15, 16, 17, 18, 19, 20, 21, 22] (by decide) rfl).weaken (fun _ _ _ _ => trivial))) RX4 gX4_ship_X4_finding rfl ⟨rfl, rfl⟩ pdX4_finding rfl ⟨Nat.le_of_ble_eq_true rfl, Nat.le_of_ble_eq_true rfl⟩ (fun _ _ _ _ q => q) (va_recv hE.1 hPc (ci := 3) (q0 := 0) rfl rfl) (fun U hU _ _ => by rw [hU]; exact hPc) hl.1 rfl (Nat.le_of_ble_eq_true rfl) dX4_ship_19 ⟨Nat.zero_le _, Nat.zero_le _⟩) hP (hD _ rfl) hS rfl rfl rfl (fun H locs hP hS => ?_)
      obtain ⟨q0, g0⟩ := Prod.mk.inj (h)
      obtain ⟨q1, g1⟩ := Prod.mk.inj g0
      obtain ⟨q2, q3⟩ := Prod.mk.inj g1
      subst q0 q1 q2 q3
      exact eMi C0 hP hS rfl rfl dX4_ship_22
def fX4_of (psy : Nat → Int32) (fd : Nat → Int32) (psc : Int32) (pdy : Int32) (v1 : Int32) (v2 : Int32) : Int32 × (Nat → Int32) := (if (fX0_hasSaying psc v1) = 0 then ((-1000001), fX4_finding_o1 fd (-1000001)) else (if (fX4_within v2 0 8) = 0 then ((-1000001), fX4_finding_o1 fd (-1000001)) else ((fX0_tellOfSaying psy pdy v1 v2), fd)))
def fX4_of_o0 (psy : Nat → Int32) (fd : Nat → Int32) (psc : Int32) (pdy : Int32) (v1 : Int32) (v2 : Int32) : Int32 := (fX4_of psy fd psc pdy v1 v2).1
def fX4_of_o1 (psy : Nat → Int32) (fd : Nat → Int32) (psc : Int32) (pdy : Int32) (v1 : Int32) (v2 : Int32) : Nat → Int32 := (fX4_of psy fd psc pdy v1 v2).2
theorem eeX4_of (psy : Nat → Int32) (fd : Nat → Int32) (psc : Int32) (pdy : Int32) (v1 : Int32) (v2 : Int32) : fX4_of psy fd psc pdy v1 v2 = (fX4_of_o0 psy fd psc pdy v1 v2, fX4_of_o1 psy fd psc pdy v1 v2) := rfl
abbrev rmX4_of : Room := { frames := 2, cells := 0, slots := 0, locals := 48 }
theorem pdX4_of : (yX4_of.cls = RX4 ∧ yX4_of.cls ≠ "java/lang/invoke/MethodHandle" ∧ yX4_of.cls ≠ "java/lang/invoke/VarHandle" ∧ (parseMethodDescriptor yX4_of.desc).map (fun d => d.parameters.length) = some 2) := by decide +kernel
set_option maxHeartbeats 4000000 in
set_option maxRecDepth 100000 in
theorem tX4_of (l : Launch) (D : va_G) (cI cS : ClassId) (a0 a1 a2 a3 a4 a5 a6 a7 a8 a9 a10 a11 a12 a13 a14 a15 a16 a17 a18 a19 a20 a21 a22 : Nat) (ppl : Nat → Int32) (psp : Nat → Int32) (psy : Nat → Int32) (psh : Nat → Int32) (tpl : Nat → Int32) (tsp : Nat → Int32) (tsy : Nat → Int32) (tsh : Nat → Int32) (kpl : Nat → Int32) (ksp : Nat → Int32) (ksy : Nat → Int32) (ksh : Nat → Int32) (bs : Nat → Int32) (bt : Nat → Int32) (sz : Nat → Int32) (nm : Nat → Int32) (fd : Nat → Int32) (ik : Int32) (psc : Int32) (pnc : Int32) (pdy : Int32) (pzz : Int32) (tsc : Int32) (tnc : Int32) (tdy : Int32) (tzz : Int32) (ksc : Int32) (knc : Int32) (kdy : Int32) (kzz : Int32) (ln : Int32) (so : Int32) (be : Int32) (en : Int32) (va : Int32) (v1 : Int32) (v2 : Int32) (z0 : Int32) (z1 : Nat → Int32) (h : fX4_of psy fd psc pdy v1 v2 = (z0, z1)) (hD0 : va_D (fun _ => True) (wX4 cI cS a0 a1 a2 a3 a4 a5 a6 a7 a8 a9 a10 a11 a12 a13 a14 a15 a16 a17 a18 a19 a20 a21 a22 ppl psp psy psh tpl tsp tsy tsh kpl ksp ksy ksh bs bt sz nm fd ik psc pnc pdy pzz tsc tnc tdy tzz ksc knc kdy kzz ln so be en va)) : Met l yX4_of wsX4_of rmX4_of (PZ D cI cS [.ref a0, .int v1, .int v2] (fun U => va_P D vwCl (wX4 cI cS a0 a1 a2 a3 a4 a5 a6 a7 a8 a9 a10 a11 a12 a13 a14 a15 a16 a17 a18 a19 a20 a21 a22 ppl psp psy psh tpl tsp tsy tsh kpl ksp ksy ksh bs bt sz nm fd ik psc pnc pdy pzz tsc tnc tdy tzz ksc knc kdy kzz ln so be en va) U.heap)) (qI D (wX4 cI cS a0 a1 a2 a3 a4 a5 a6 a7 a8 a9 a10 a11 a12 a13 a14 a15 a16 a17 a18 a19 a20 a21 a22 ppl psp psy psh tpl tsp tsy tsh kpl ksp ksy ksh bs bt sz nm fd ik psc pnc pdy pzz tsc tnc tdy tzz ksc knc kdy kzz ln so be en va) (wX4 cI cS a0 a1 a2 a3 a4 a5 a6 a7 a8 a9 a10 a11 a12 a13 a14 a15 a16 a17 a18 a19 a20 a21 a22 ppl psp psy psh tpl tsp tsy tsh kpl ksp ksy ksh bs bt sz nm z1 ik psc pnc pdy pzz tsc tnc tdy tzz ksc knc kdy kzz ln so be en va) z0) 0 0 (wA (wX4 cI cS a0 a1 a2 a3 a4 a5 a6 a7 a8 a9 a10 a11 a12 a13 a14 a15 a16 a17 a18 a19 a20 a21 a22 ppl psp psy psh tpl tsp tsy tsh kpl ksp ksy ksh bs bt sz nm fd ik psc pnc pdy pzz tsc tnc tdy tzz ksc knc kdy kzz ln so be en va)) := by
  refine Met.mk RX4 (by decide) rfl rfl (Nat.le_of_ble_eq_true rfl) ?_
  intro p e s m below meth c ls C0 hP hl
  have hl : lv_has ls 3 [(0, .ref a0), (1, .int v1), (2, .int v2)] := hl
  obtain ⟨hx, hb, hr, hml, hown, hts, hlk, hE⟩ := id C0
  have hinX4 : ∀ w ∈ u_ws RX4 TX4 7, w ∈ wsX4_of := by decide +kernel
  have hD : ∀ W : va_W, W.map Prod.fst = [a0, a1, a2, a3, a4, a5, a6, a7, a8, a9, a10, a11, a12, a13, a14, a15, a16, a17, a18, a19, a20, a21, a22] → va_D (wA (wX4 cI cS a0 a1 a2 a3 a4 a5 a6 a7 a8 a9 a10 a11 a12 a13 a14 a15 a16 a17 a18 a19 a20 a21 a22 ppl psp psy psh tpl tsp tsy tsh kpl ksp ksy ksh bs bt sz nm fd ik psc pnc pdy pzz tsc tnc tdy tzz ksc knc kdy kzz ln so be en va)) W := fun W hW => hD0.own.re hW
  have hS : va_S (wA (wX4 cI cS a0 a1 a2 a3 a4 a5 a6 a7 a8 a9 a10 a11 a12 a13 a14 a15 a16 a17 a18 a19 a20 a21 a22 ppl psp psy psh tpl tsp tsy tsh kpl ksp ksy ksh bs bt sz nm fd ik psc pnc pdy pzz tsc tnc tdy tzz ksc knc kdy kzz ln so be en va)) s.heap s.heap [] := va_S.rf
  have hP : va_P D vwCl (wX4 cI cS a0 a1 a2 a3 a4 a5 a6 a7 a8 a9 a10 a11 a12 a13 a14 a15 a16 a17 a18 a19 a20 a21 a22 ppl psp psy psh tpl tsp tsy tsh kpl ksp ksy ksh bs bt sz nm fd ik psc pnc pdy pzz tsc tnc tdy tzz ksc knc kdy kzz ln so be en va) s.heap := hP
  rw [fX4_of] at h
  refine lv_aload_n hx hb dX4_of_0 rfl (lv_at hl 0 rfl) ?_
  refine va_get (D := D) (ci := 3) (v := .ref a1) (C := RX4) (T := TX4) (N := 7) hx hb hts hinX4 hown hE.1 hP 0 rfl rfl 0 (by decide) (hts _ (List.mem_of_getElem? (i := 1) rfl)) (fun _ h9 => h9) rfl dX4_of_1 ?_
  refine lv_iload_n hx hb dX4_of_4 rfl (lv_at hl 1 rfl) ?_
  have hPc := hP.sub (ws' := (wX0 cI cS a1 a2 a3 a4 a5 ppl psp psy psh psc pnc pdy pzz)) [1, 2, 3, 4, 5] rfl
  refine kRi (rV C0 (tX0_hasSaying l D cI cS a1 a2 a3 a4 a5 ppl psp psy psh psc pnc pdy pzz v1 (fX0_hasSaying psc v1) rfl) RX0 gX4_of_X0_hasSaying rfl ⟨rfl, rfl⟩ pdX0_hasSaying rfl ⟨Nat.le_of_ble_eq_true rfl, Nat.le_of_ble_eq_true rfl⟩ (fun _ _ _ _ q => q) (va_recv hE.1 hPc (ci := 0) (q0 := 0) rfl rfl) (fun U hU _ _ => by rw [hU]; exact hPc) hl.1 rfl (Nat.le_of_ble_eq_true rfl) dX4_of_5 ⟨Nat.zero_le _, Nat.zero_le _⟩) ?_
  refine lv_if_eq (tgt := 21) hx hb dX4_of_8 (by decide) (fun c_1 => ?_) (fun c_1 => ?_)
  · have h := ifp c_1 h
    refine lv_aload_n hx hb dX4_of_21 rfl (lv_at hl 0 rfl) ?_
    refine lv_ldc (v := (-1000001)) hx hb hown (hts _ (List.mem_of_getElem? (i := 2) rfl)) dX4_of_22 ?_
    have hPc := hP.sub (ws' := (wX4 cI cS a0 a1 a2 a3 a4 a5 a6 a7 a8 a9 a10 a11 a12 a13 a14 a15 a16 a17 a18 a19 a20 a21 a22 ppl psp psy psh tpl tsp tsy tsh kpl ksp ksy ksh bs bt sz nm fd ik psc pnc pdy pzz tsc tnc tdy tzz ksc knc kdy kzz ln so be en va)) [0, 1, 2, 3, 4, 5, 6, 7, 8, 9, 10, 11, 12, 13, 14, 15, 16, 17, 18, 19, 20, 21, 22] rfl
    refine kMi (wf' := (wX4 cI cS a0 a1 a2 a3 a4 a5 a6 a7 a8 a9 a10 a11 a12 a13 a14 a15 a16 a17 a18 a19 a20 a21 a22 ppl psp psy psh tpl tsp tsy tsh kpl ksp ksy ksh bs bt sz nm (fX4_finding_o1 fd (-1000001)) ik psc pnc pdy pzz tsc tnc tdy tzz ksc knc kdy kzz ln so be en va)) [0, 1, 2, 3, 4, 5, 6, 7, 8, 9, 10, 11, 12, 13, 14, 15, 16, 17, 18, 19, 20, 21, 22] [some 0, some 1, some 2, some 3, some 4, some 5, some 6, some 7, some 8, some 9, some 10, some 11, some 12, some 13, some 14, some 15, some 16, some 17, some 18, some 19, some 20, some 21, some 22] (rV C0 (tX4_finding l D cI cS a0 a1 a2 a3 a4 a5 a6 a7 a8 a9 a10 a11 a12 a13 a14 a15 a16 a17 a18 a19 a20 a21 a22 ppl psp psy psh tpl tsp tsy tsh kpl ksp ksy ksh bs bt sz nm fd ik psc pnc pdy pzz tsc tnc tdy tzz ksc knc kdy kzz ln so be en va (-1000001) (-1000001) (fX4_finding_o1 fd (-1000001)) (eeX4_finding ..) (((hD (wX4 cI cS a0 a1 a2 a3 a4 a5 a6 a7 a8 a9 a10 a11 a12 a13 a14 a15 a16 a17 a18 a19 a20 a21 a22 ppl psp psy psh tpl tsp tsy tsh kpl ksp ksy ksh bs bt sz nm fd ik psc pnc pdy pzz tsc tnc tdy tzz ksc knc kdy kzz ln so be en va) rfl).sub [0, 1, 2, 3, 4, 5, 6, 7, 8, 9, 10, 11, 12, 13, 14, 15, 16, 17, 18, 19, 20, 21, 22] (by decide) rfl).weaken (fun _ _ _ _ => trivial))) RX4 gX4_of_X4_finding rfl ⟨rfl, rfl⟩ pdX4_finding rfl ⟨Nat.le_of_ble_eq_true rfl, Nat.le_of_ble_eq_true rfl⟩ (fun _ _ _ _ q => q) (va_recv hE.1 hPc (ci := 3) (q0 := 0) rfl rfl) (fun U hU _ _ => by rw [hU]; exact hPc) hl.1 rfl (Nat.le_of_ble_eq_true rfl) dX4_of_24 ⟨Nat.zero_le _, Nat.zero_le _⟩) hP (hD _ rfl) hS rfl rfl rfl (fun H locs hP hS => ?_)
    obtain ⟨q0, q1⟩ := Prod.mk.inj (h)
    subst q0 q1
    exact eMi C0 hP hS rfl rfl dX4_of_27
  · have h := ifn c_1 h
    refine lv_iload_n hx hb dX4_of_11 rfl (lv_at hl 2 rfl) ?_
    refine lv_iconst (v := 0) hx hb dX4_of_12 (by decide) ?_
    refine lv_bipush (v := 8) hx hb dX4_of_13 (by decide) ?_
    refine kRi (rS C0 (tX4_within l D cI cS v2 0 8 (fX4_within v2 0 8) rfl) gX4_of_X4_within rfl ⟨rfl, rfl⟩ pdX4_within rfl ⟨Nat.le_of_ble_eq_true rfl, Nat.le_of_ble_eq_true rfl⟩ (fun _ _ _ _ q => q) (fun _ _ _ _ => vp0) hl.1 rfl (Nat.le_of_ble_eq_true rfl) dX4_of_15 ⟨Nat.zero_le _, Nat.zero_le _⟩) ?_
    refine lv_if_ne (tgt := 28) hx hb dX4_of_18 (by decide) (fun c_2 => ?_) (fun c_2 => ?_)
    · have h := ifn c_2 h
      refine lv_aload_n hx hb dX4_of_28 rfl (lv_at hl 0 rfl) ?_
      refine va_get (D := D) (ci := 3) (v := .ref a1) (C := RX4) (T := TX4) (N := 7) hx hb hts hinX4 hown hE.1 hP 0 rfl rfl 0 (by decide) (hts _ (List.mem_of_getElem? (i := 1) rfl)) (fun _ h9 => h9) rfl dX4_of_29 ?_
      refine lv_iload_n hx hb dX4_of_32 rfl (lv_at hl 1 rfl) ?_
      refine lv_iload_n hx hb dX4_of_33 rfl (lv_at hl 2 rfl) ?_
      have hPc := hP.sub (ws' := (wX0 cI cS a1 a2 a3 a4 a5 ppl psp psy psh psc pnc pdy pzz)) [1, 2, 3, 4, 5] rfl
      refine kRi (rV C0 (tX0_tellOfSaying l D cI cS a1 a2 a3 a4 a5 ppl psp psy psh psc pnc pdy pzz v1 v2 (fX0_tellOfSaying psy pdy v1 v2) rfl) RX0 gX4_of_X0_tellOfSaying rfl ⟨rfl, rfl⟩ pdX0_tellOfSaying rfl ⟨Nat.le_of_ble_eq_true rfl, Nat.le_of_ble_eq_true rfl⟩ (fun _ _ _ _ q => q) (va_recv hE.1 hPc (ci := 0) (q0 := 0) rfl rfl) (fun U hU _ _ => by rw [hU]; exact hPc) hl.1 rfl (Nat.le_of_ble_eq_true rfl) dX4_of_34 ⟨Nat.zero_le _, Nat.zero_le _⟩) ?_
      obtain ⟨q0, q1⟩ := Prod.mk.inj (h)
      subst q0 q1
      exact eMi C0 hP hS rfl rfl dX4_of_37
    · have h := ifp c_2 h
      refine lv_aload_n hx hb dX4_of_21 rfl (lv_at hl 0 rfl) ?_
      refine lv_ldc (v := (-1000001)) hx hb hown (hts _ (List.mem_of_getElem? (i := 2) rfl)) dX4_of_22 ?_
      have hPc := hP.sub (ws' := (wX4 cI cS a0 a1 a2 a3 a4 a5 a6 a7 a8 a9 a10 a11 a12 a13 a14 a15 a16 a17 a18 a19 a20 a21 a22 ppl psp psy psh tpl tsp tsy tsh kpl ksp ksy ksh bs bt sz nm fd ik psc pnc pdy pzz tsc tnc tdy tzz ksc knc kdy kzz ln so be en va)) [0, 1, 2, 3, 4, 5, 6, 7, 8, 9, 10, 11, 12, 13, 14, 15, 16, 17, 18, 19, 20, 21, 22] rfl
      refine kMi (wf' := (wX4 cI cS a0 a1 a2 a3 a4 a5 a6 a7 a8 a9 a10 a11 a12 a13 a14 a15 a16 a17 a18 a19 a20 a21 a22 ppl psp psy psh tpl tsp tsy tsh kpl ksp ksy ksh bs bt sz nm (fX4_finding_o1 fd (-1000001)) ik psc pnc pdy pzz tsc tnc tdy tzz ksc knc kdy kzz ln so be en va)) [0, 1, 2, 3, 4, 5, 6, 7, 8, 9, 10, 11, 12, 13, 14, 15, 16, 17, 18, 19, 20, 21, 22] [some 0, some 1, some 2, some 3, some 4, some 5, some 6, some 7, some 8, some 9, some 10, some 11, some 12, some 13, some 14, some 15, some 16, some 17, some 18, some 19, some 20, some 21, some 22] (rV C0 (tX4_finding l D cI cS a0 a1 a2 a3 a4 a5 a6 a7 a8 a9 a10 a11 a12 a13 a14 a15 a16 a17 a18 a19 a20 a21 a22 ppl psp psy psh tpl tsp tsy tsh kpl ksp ksy ksh bs bt sz nm fd ik psc pnc pdy pzz tsc tnc tdy tzz ksc knc kdy kzz ln so be en va (-1000001) (-1000001) (fX4_finding_o1 fd (-1000001)) (eeX4_finding ..) (((hD (wX4 cI cS a0 a1 a2 a3 a4 a5 a6 a7 a8 a9 a10 a11 a12 a13 a14 a15 a16 a17 a18 a19 a20 a21 a22 ppl psp psy psh tpl tsp tsy tsh kpl ksp ksy ksh bs bt sz nm fd ik psc pnc pdy pzz tsc tnc tdy tzz ksc knc kdy kzz ln so be en va) rfl).sub [0, 1, 2, 3, 4, 5, 6, 7, 8, 9, 10, 11, 12, 13, 14, 15, 16, 17, 18, 19, 20, 21, 22] (by decide) rfl).weaken (fun _ _ _ _ => trivial))) RX4 gX4_of_X4_finding rfl ⟨rfl, rfl⟩ pdX4_finding rfl ⟨Nat.le_of_ble_eq_true rfl, Nat.le_of_ble_eq_true rfl⟩ (fun _ _ _ _ q => q) (va_recv hE.1 hPc (ci := 3) (q0 := 0) rfl rfl) (fun U hU _ _ => by rw [hU]; exact hPc) hl.1 rfl (Nat.le_of_ble_eq_true rfl) dX4_of_24 ⟨Nat.zero_le _, Nat.zero_le _⟩) hP (hD _ rfl) hS rfl rfl rfl (fun H locs hP hS => ?_)
      obtain ⟨q0, q1⟩ := Prod.mk.inj (h)
      subst q0 q1
      exact eMi C0 hP hS rfl rfl dX4_of_27
def fX4_ofShip (psh : Nat → Int32) (fd : Nat → Int32) (pnc : Int32) (v1 : Int32) (v2 : Int32) : Int32 × (Nat → Int32) := (if (fX0_hasShip pnc v1) = 0 then ((-1000001), fX4_finding_o1 fd (-1000001)) else (if (fX4_within v2 0 3) = 0 then ((-1000001), fX4_finding_o1 fd (-1000001)) else ((fX0_shipHas psh v1 v2), fd)))
def fX4_ofShip_o0 (psh : Nat → Int32) (fd : Nat → Int32) (pnc : Int32) (v1 : Int32) (v2 : Int32) : Int32 := (fX4_ofShip psh fd pnc v1 v2).1
def fX4_ofShip_o1 (psh : Nat → Int32) (fd : Nat → Int32) (pnc : Int32) (v1 : Int32) (v2 : Int32) : Nat → Int32 := (fX4_ofShip psh fd pnc v1 v2).2
theorem eeX4_ofShip (psh : Nat → Int32) (fd : Nat → Int32) (pnc : Int32) (v1 : Int32) (v2 : Int32) : fX4_ofShip psh fd pnc v1 v2 = (fX4_ofShip_o0 psh fd pnc v1 v2, fX4_ofShip_o1 psh fd pnc v1 v2) := rfl
abbrev rmX4_ofShip : Room := { frames := 2, cells := 0, slots := 0, locals := 44 }
theorem pdX4_ofShip : (yX4_ofShip.cls = RX4 ∧ yX4_ofShip.cls ≠ "java/lang/invoke/MethodHandle" ∧ yX4_ofShip.cls ≠ "java/lang/invoke/VarHandle" ∧ (parseMethodDescriptor yX4_ofShip.desc).map (fun d => d.parameters.length) = some 2) := by decide +kernel
set_option maxHeartbeats 4000000 in
set_option maxRecDepth 100000 in
theorem tX4_ofShip (l : Launch) (D : va_G) (cI cS : ClassId) (a0 a1 a2 a3 a4 a5 a6 a7 a8 a9 a10 a11 a12 a13 a14 a15 a16 a17 a18 a19 a20 a21 a22 : Nat) (ppl : Nat → Int32) (psp : Nat → Int32) (psy : Nat → Int32) (psh : Nat → Int32) (tpl : Nat → Int32) (tsp : Nat → Int32) (tsy : Nat → Int32) (tsh : Nat → Int32) (kpl : Nat → Int32) (ksp : Nat → Int32) (ksy : Nat → Int32) (ksh : Nat → Int32) (bs : Nat → Int32) (bt : Nat → Int32) (sz : Nat → Int32) (nm : Nat → Int32) (fd : Nat → Int32) (ik : Int32) (psc : Int32) (pnc : Int32) (pdy : Int32) (pzz : Int32) (tsc : Int32) (tnc : Int32) (tdy : Int32) (tzz : Int32) (ksc : Int32) (knc : Int32) (kdy : Int32) (kzz : Int32) (ln : Int32) (so : Int32) (be : Int32) (en : Int32) (va : Int32) (v1 : Int32) (v2 : Int32) (z0 : Int32) (z1 : Nat → Int32) (h : fX4_ofShip psh fd pnc v1 v2 = (z0, z1)) (hD0 : va_D (fun _ => True) (wX4 cI cS a0 a1 a2 a3 a4 a5 a6 a7 a8 a9 a10 a11 a12 a13 a14 a15 a16 a17 a18 a19 a20 a21 a22 ppl psp psy psh tpl tsp tsy tsh kpl ksp ksy ksh bs bt sz nm fd ik psc pnc pdy pzz tsc tnc tdy tzz ksc knc kdy kzz ln so be en va)) : Met l yX4_ofShip wsX4_ofShip rmX4_ofShip (PZ D cI cS [.ref a0, .int v1, .int v2] (fun U => va_P D vwCl (wX4 cI cS a0 a1 a2 a3 a4 a5 a6 a7 a8 a9 a10 a11 a12 a13 a14 a15 a16 a17 a18 a19 a20 a21 a22 ppl psp psy psh tpl tsp tsy tsh kpl ksp ksy ksh bs bt sz nm fd ik psc pnc pdy pzz tsc tnc tdy tzz ksc knc kdy kzz ln so be en va) U.heap)) (qI D (wX4 cI cS a0 a1 a2 a3 a4 a5 a6 a7 a8 a9 a10 a11 a12 a13 a14 a15 a16 a17 a18 a19 a20 a21 a22 ppl psp psy psh tpl tsp tsy tsh kpl ksp ksy ksh bs bt sz nm fd ik psc pnc pdy pzz tsc tnc tdy tzz ksc knc kdy kzz ln so be en va) (wX4 cI cS a0 a1 a2 a3 a4 a5 a6 a7 a8 a9 a10 a11 a12 a13 a14 a15 a16 a17 a18 a19 a20 a21 a22 ppl psp psy psh tpl tsp tsy tsh kpl ksp ksy ksh bs bt sz nm z1 ik psc pnc pdy pzz tsc tnc tdy tzz ksc knc kdy kzz ln so be en va) z0) 0 0 (wA (wX4 cI cS a0 a1 a2 a3 a4 a5 a6 a7 a8 a9 a10 a11 a12 a13 a14 a15 a16 a17 a18 a19 a20 a21 a22 ppl psp psy psh tpl tsp tsy tsh kpl ksp ksy ksh bs bt sz nm fd ik psc pnc pdy pzz tsc tnc tdy tzz ksc knc kdy kzz ln so be en va)) := by
  refine Met.mk RX4 (by decide) rfl rfl (Nat.le_of_ble_eq_true rfl) ?_
  intro p e s m below meth c ls C0 hP hl
  have hl : lv_has ls 3 [(0, .ref a0), (1, .int v1), (2, .int v2)] := hl
  obtain ⟨hx, hb, hr, hml, hown, hts, hlk, hE⟩ := id C0
  have hinX4 : ∀ w ∈ u_ws RX4 TX4 7, w ∈ wsX4_ofShip := by decide +kernel
  have hD : ∀ W : va_W, W.map Prod.fst = [a0, a1, a2, a3, a4, a5, a6, a7, a8, a9, a10, a11, a12, a13, a14, a15, a16, a17, a18, a19, a20, a21, a22] → va_D (wA (wX4 cI cS a0 a1 a2 a3 a4 a5 a6 a7 a8 a9 a10 a11 a12 a13 a14 a15 a16 a17 a18 a19 a20 a21 a22 ppl psp psy psh tpl tsp tsy tsh kpl ksp ksy ksh bs bt sz nm fd ik psc pnc pdy pzz tsc tnc tdy tzz ksc knc kdy kzz ln so be en va)) W := fun W hW => hD0.own.re hW
  have hS : va_S (wA (wX4 cI cS a0 a1 a2 a3 a4 a5 a6 a7 a8 a9 a10 a11 a12 a13 a14 a15 a16 a17 a18 a19 a20 a21 a22 ppl psp psy psh tpl tsp tsy tsh kpl ksp ksy ksh bs bt sz nm fd ik psc pnc pdy pzz tsc tnc tdy tzz ksc knc kdy kzz ln so be en va)) s.heap s.heap [] := va_S.rf
  have hP : va_P D vwCl (wX4 cI cS a0 a1 a2 a3 a4 a5 a6 a7 a8 a9 a10 a11 a12 a13 a14 a15 a16 a17 a18 a19 a20 a21 a22 ppl psp psy psh tpl tsp tsy tsh kpl ksp ksy ksh bs bt sz nm fd ik psc pnc pdy pzz tsc tnc tdy tzz ksc knc kdy kzz ln so be en va) s.heap := hP
  rw [fX4_ofShip] at h
  refine lv_aload_n hx hb dX4_ofShip_0 rfl (lv_at hl 0 rfl) ?_
  refine va_get (D := D) (ci := 3) (v := .ref a1) (C := RX4) (T := TX4) (N := 7) hx hb hts hinX4 hown hE.1 hP 0 rfl rfl 0 (by decide) (hts _ (List.mem_of_getElem? (i := 1) rfl)) (fun _ h9 => h9) rfl dX4_ofShip_1 ?_
  refine lv_iload_n hx hb dX4_ofShip_4 rfl (lv_at hl 1 rfl) ?_
  have hPc := hP.sub (ws' := (wX0 cI cS a1 a2 a3 a4 a5 ppl psp psy psh psc pnc pdy pzz)) [1, 2, 3, 4, 5] rfl
  refine kRi (rV C0 (tX0_hasShip l D cI cS a1 a2 a3 a4 a5 ppl psp psy psh psc pnc pdy pzz v1 (fX0_hasShip pnc v1) rfl) RX0 gX4_ofShip_X0_hasShip rfl ⟨rfl, rfl⟩ pdX0_hasShip rfl ⟨Nat.le_of_ble_eq_true rfl, Nat.le_of_ble_eq_true rfl⟩ (fun _ _ _ _ q => q) (va_recv hE.1 hPc (ci := 0) (q0 := 0) rfl rfl) (fun U hU _ _ => by rw [hU]; exact hPc) hl.1 rfl (Nat.le_of_ble_eq_true rfl) dX4_ofShip_5 ⟨Nat.zero_le _, Nat.zero_le _⟩) ?_
  refine lv_if_eq (tgt := 20) hx hb dX4_ofShip_8 (by decide) (fun c_1 => ?_) (fun c_1 => ?_)
  · have h := ifp c_1 h
    refine lv_aload_n hx hb dX4_ofShip_20 rfl (lv_at hl 0 rfl) ?_
    refine lv_ldc (v := (-1000001)) hx hb hown (hts _ (List.mem_of_getElem? (i := 2) rfl)) dX4_ofShip_21 ?_
    have hPc := hP.sub (ws' := (wX4 cI cS a0 a1 a2 a3 a4 a5 a6 a7 a8 a9 a10 a11 a12 a13 a14 a15 a16 a17 a18 a19 a20 a21 a22 ppl psp psy psh tpl tsp tsy tsh kpl ksp ksy ksh bs bt sz nm fd ik psc pnc pdy pzz tsc tnc tdy tzz ksc knc kdy kzz ln so be en va)) [0, 1, 2, 3, 4, 5, 6, 7, 8, 9, 10, 11, 12, 13, 14, 15, 16, 17, 18, 19, 20, 21, 22] rfl
    refine kMi (wf' := (wX4 cI cS a0 a1 a2 a3 a4 a5 a6 a7 a8 a9 a10 a11 a12 a13 a14 a15 a16 a17 a18 a19 a20 a21 a22 ppl psp psy psh tpl tsp tsy tsh kpl ksp ksy ksh bs bt sz nm (fX4_finding_o1 fd (-1000001)) ik psc pnc pdy pzz tsc tnc tdy tzz ksc knc kdy kzz ln so be en va)) [0, 1, 2, 3, 4, 5, 6, 7, 8, 9, 10, 11, 12, 13, 14, 15, 16, 17, 18, 19, 20, 21, 22] [some 0, some 1, some 2, some 3, some 4, some 5, some 6, some 7, some 8, some 9, some 10, some 11, some 12, some 13, some 14, some 15, some 16, some 17, some 18, some 19, some 20, some 21, some 22] (rV C0 (tX4_finding l D cI cS a0 a1 a2 a3 a4 a5 a6 a7 a8 a9 a10 a11 a12 a13 a14 a15 a16 a17 a18 a19 a20 a21 a22 ppl psp psy psh tpl tsp tsy tsh kpl ksp ksy ksh bs bt sz nm fd ik psc pnc pdy pzz tsc tnc tdy tzz ksc knc kdy kzz ln so be en va (-1000001) (-1000001) (fX4_finding_o1 fd (-1000001)) (eeX4_finding ..) (((hD (wX4 cI cS a0 a1 a2 a3 a4 a5 a6 a7 a8 a9 a10 a11 a12 a13 a14 a15 a16 a17 a18 a19 a20 a21 a22 ppl psp psy psh tpl tsp tsy tsh kpl ksp ksy ksh bs bt sz nm fd ik psc pnc pdy pzz tsc tnc tdy tzz ksc knc kdy kzz ln so be en va) rfl).sub [0, 1, 2, 3, 4, 5, 6, 7, 8, 9, 10, 11, 12, 13, 14, 15, 16, 17, 18, 19, 20, 21, 22] (by decide) rfl).weaken (fun _ _ _ _ => trivial))) RX4 gX4_ofShip_X4_finding rfl ⟨rfl, rfl⟩ pdX4_finding rfl ⟨Nat.le_of_ble_eq_true rfl, Nat.le_of_ble_eq_true rfl⟩ (fun _ _ _ _ q => q) (va_recv hE.1 hPc (ci := 3) (q0 := 0) rfl rfl) (fun U hU _ _ => by rw [hU]; exact hPc) hl.1 rfl (Nat.le_of_ble_eq_true rfl) dX4_ofShip_23 ⟨Nat.zero_le _, Nat.zero_le _⟩) hP (hD _ rfl) hS rfl rfl rfl (fun H locs hP hS => ?_)
    obtain ⟨q0, q1⟩ := Prod.mk.inj (h)
    subst q0 q1
    exact eMi C0 hP hS rfl rfl dX4_ofShip_26
  · have h := ifn c_1 h
    refine lv_iload_n hx hb dX4_ofShip_11 rfl (lv_at hl 2 rfl) ?_
    refine lv_iconst (v := 0) hx hb dX4_ofShip_12 (by decide) ?_
    refine lv_iconst (v := 3) hx hb dX4_ofShip_13 (by decide) ?_
    refine kRi (rS C0 (tX4_within l D cI cS v2 0 3 (fX4_within v2 0 3) rfl) gX4_ofShip_X4_within rfl ⟨rfl, rfl⟩ pdX4_within rfl ⟨Nat.le_of_ble_eq_true rfl, Nat.le_of_ble_eq_true rfl⟩ (fun _ _ _ _ q => q) (fun _ _ _ _ => vp0) hl.1 rfl (Nat.le_of_ble_eq_true rfl) dX4_ofShip_14 ⟨Nat.zero_le _, Nat.zero_le _⟩) ?_
    refine lv_if_ne (tgt := 27) hx hb dX4_ofShip_17 (by decide) (fun c_2 => ?_) (fun c_2 => ?_)
    · have h := ifn c_2 h
      refine lv_aload_n hx hb dX4_ofShip_27 rfl (lv_at hl 0 rfl) ?_
      refine va_get (D := D) (ci := 3) (v := .ref a1) (C := RX4) (T := TX4) (N := 7) hx hb hts hinX4 hown hE.1 hP 0 rfl rfl 0 (by decide) (hts _ (List.mem_of_getElem? (i := 1) rfl)) (fun _ h9 => h9) rfl dX4_ofShip_28 ?_
      refine lv_iload_n hx hb dX4_ofShip_31 rfl (lv_at hl 1 rfl) ?_
      refine lv_iload_n hx hb dX4_ofShip_32 rfl (lv_at hl 2 rfl) ?_
      have hPc := hP.sub (ws' := (wX0 cI cS a1 a2 a3 a4 a5 ppl psp psy psh psc pnc pdy pzz)) [1, 2, 3, 4, 5] rfl
      refine kRi (rV C0 (tX0_shipHas l D cI cS a1 a2 a3 a4 a5 ppl psp psy psh psc pnc pdy pzz v1 v2 (fX0_shipHas psh v1 v2) rfl) RX0 gX4_ofShip_X0_shipHas rfl ⟨rfl, rfl⟩ pdX0_shipHas rfl ⟨Nat.le_of_ble_eq_true rfl, Nat.le_of_ble_eq_true rfl⟩ (fun _ _ _ _ q => q) (va_recv hE.1 hPc (ci := 0) (q0 := 0) rfl rfl) (fun U hU _ _ => by rw [hU]; exact hPc) hl.1 rfl (Nat.le_of_ble_eq_true rfl) dX4_ofShip_33 ⟨Nat.zero_le _, Nat.zero_le _⟩) ?_
      obtain ⟨q0, q1⟩ := Prod.mk.inj (h)
      subst q0 q1
      exact eMi C0 hP hS rfl rfl dX4_ofShip_36
    · have h := ifp c_2 h
      refine lv_aload_n hx hb dX4_ofShip_20 rfl (lv_at hl 0 rfl) ?_
      refine lv_ldc (v := (-1000001)) hx hb hown (hts _ (List.mem_of_getElem? (i := 2) rfl)) dX4_ofShip_21 ?_
      have hPc := hP.sub (ws' := (wX4 cI cS a0 a1 a2 a3 a4 a5 a6 a7 a8 a9 a10 a11 a12 a13 a14 a15 a16 a17 a18 a19 a20 a21 a22 ppl psp psy psh tpl tsp tsy tsh kpl ksp ksy ksh bs bt sz nm fd ik psc pnc pdy pzz tsc tnc tdy tzz ksc knc kdy kzz ln so be en va)) [0, 1, 2, 3, 4, 5, 6, 7, 8, 9, 10, 11, 12, 13, 14, 15, 16, 17, 18, 19, 20, 21, 22] rfl
      refine kMi (wf' := (wX4 cI cS a0 a1 a2 a3 a4 a5 a6 a7 a8 a9 a10 a11 a12 a13 a14 a15 a16 a17 a18 a19 a20 a21 a22 ppl psp psy psh tpl tsp tsy tsh kpl ksp ksy ksh bs bt sz nm (fX4_finding_o1 fd (-1000001)) ik psc pnc pdy pzz tsc tnc tdy tzz ksc knc kdy kzz ln so be en va)) [0, 1, 2, 3, 4, 5, 6, 7, 8, 9, 10, 11, 12, 13, 14, 15, 16, 17, 18, 19, 20, 21, 22] [some 0, some 1, some 2, some 3, some 4, some 5, some 6, some 7, some 8, some 9, some 10, some 11, some 12, some 13, some 14, some 15, some 16, some 17, some 18, some 19, some 20, some 21, some 22] (rV C0 (tX4_finding l D cI cS a0 a1 a2 a3 a4 a5 a6 a7 a8 a9 a10 a11 a12 a13 a14 a15 a16 a17 a18 a19 a20 a21 a22 ppl psp psy psh tpl tsp tsy tsh kpl ksp ksy ksh bs bt sz nm fd ik psc pnc pdy pzz tsc tnc tdy tzz ksc knc kdy kzz ln so be en va (-1000001) (-1000001) (fX4_finding_o1 fd (-1000001)) (eeX4_finding ..) (((hD (wX4 cI cS a0 a1 a2 a3 a4 a5 a6 a7 a8 a9 a10 a11 a12 a13 a14 a15 a16 a17 a18 a19 a20 a21 a22 ppl psp psy psh tpl tsp tsy tsh kpl ksp ksy ksh bs bt sz nm fd ik psc pnc pdy pzz tsc tnc tdy tzz ksc knc kdy kzz ln so be en va) rfl).sub [0, 1, 2, 3, 4, 5, 6, 7, 8, 9, 10, 11, 12, 13, 14, 15, 16, 17, 18, 19, 20, 21, 22] (by decide) rfl).weaken (fun _ _ _ _ => trivial))) RX4 gX4_ofShip_X4_finding rfl ⟨rfl, rfl⟩ pdX4_finding rfl ⟨Nat.le_of_ble_eq_true rfl, Nat.le_of_ble_eq_true rfl⟩ (fun _ _ _ _ q => q) (va_recv hE.1 hPc (ci := 3) (q0 := 0) rfl rfl) (fun U hU _ _ => by rw [hU]; exact hPc) hl.1 rfl (Nat.le_of_ble_eq_true rfl) dX4_ofShip_23 ⟨Nat.zero_le _, Nat.zero_le _⟩) hP (hD _ rfl) hS rfl rfl rfl (fun H locs hP hS => ?_)
      obtain ⟨q0, q1⟩ := Prod.mk.inj (h)
      subst q0 q1
      exact eMi C0 hP hS rfl rfl dX4_ofShip_26
def fX4_thick (F : Nat) (psy : Nat → Int32) (fd : Nat → Int32) (psc : Int32) (v1 : Int32) : Option (Int32 × (Nat → Int32)) := (if (fX4_isCell v1) = 0 then some ((-1000001), fX4_finding_o1 fd (-1000001)) else Option.bind (fX0_thickAt F psy psc v1) (fun z_2 => some (z_2, fd)))
abbrev rmX4_thick : Room := { frames := 3, cells := 0, slots := 0, locals := 73 }
theorem pdX4_thick : (yX4_thick.cls = RX4 ∧ yX4_thick.cls ≠ "java/lang/invoke/MethodHandle" ∧ yX4_thick.cls ≠ "java/lang/invoke/VarHandle" ∧ (parseMethodDescriptor yX4_thick.desc).map (fun d => d.parameters.length) = some 1) := by decide +kernel
set_option maxHeartbeats 4000000 in
set_option maxRecDepth 100000 in
theorem tX4_thick (l : Launch) (D : va_G) (cI cS : ClassId) (F : Nat) (a0 a1 a2 a3 a4 a5 a6 a7 a8 a9 a10 a11 a12 a13 a14 a15 a16 a17 a18 a19 a20 a21 a22 : Nat) (ppl : Nat → Int32) (psp : Nat → Int32) (psy : Nat → Int32) (psh : Nat → Int32) (tpl : Nat → Int32) (tsp : Nat → Int32) (tsy : Nat → Int32) (tsh : Nat → Int32) (kpl : Nat → Int32) (ksp : Nat → Int32) (ksy : Nat → Int32) (ksh : Nat → Int32) (bs : Nat → Int32) (bt : Nat → Int32) (sz : Nat → Int32) (nm : Nat → Int32) (fd : Nat → Int32) (ik : Int32) (psc : Int32) (pnc : Int32) (pdy : Int32) (pzz : Int32) (tsc : Int32) (tnc : Int32) (tdy : Int32) (tzz : Int32) (ksc : Int32) (knc : Int32) (kdy : Int32) (kzz : Int32) (ln : Int32) (so : Int32) (be : Int32) (en : Int32) (va : Int32) (v1 : Int32) (z0 : Int32) (z1 : Nat → Int32) (h : fX4_thick F psy fd psc v1 = some (z0, z1)) (hD0 : va_D (fun _ => True) (wX4 cI cS a0 a1 a2 a3 a4 a5 a6 a7 a8 a9 a10 a11 a12 a13 a14 a15 a16 a17 a18 a19 a20 a21 a22 ppl psp psy psh tpl tsp tsy tsh kpl ksp ksy ksh bs bt sz nm fd ik psc pnc pdy pzz tsc tnc tdy tzz ksc knc kdy kzz ln so be en va)) : Met l yX4_thick wsX4_thick rmX4_thick (PZ D cI cS [.ref a0, .int v1] (fun U => va_P D vwCl (wX4 cI cS a0 a1 a2 a3 a4 a5 a6 a7 a8 a9 a10 a11 a12 a13 a14 a15 a16 a17 a18 a19 a20 a21 a22 ppl psp psy psh tpl tsp tsy tsh kpl ksp ksy ksh bs bt sz nm fd ik psc pnc pdy pzz tsc tnc tdy tzz ksc knc kdy kzz ln so be en va) U.heap)) (qI D (wX4 cI cS a0 a1 a2 a3 a4 a5 a6 a7 a8 a9 a10 a11 a12 a13 a14 a15 a16 a17 a18 a19 a20 a21 a22 ppl psp psy psh tpl tsp tsy tsh kpl ksp ksy ksh bs bt sz nm fd ik psc pnc pdy pzz tsc tnc tdy tzz ksc knc kdy kzz ln so be en va) (wX4 cI cS a0 a1 a2 a3 a4 a5 a6 a7 a8 a9 a10 a11 a12 a13 a14 a15 a16 a17 a18 a19 a20 a21 a22 ppl psp psy psh tpl tsp tsy tsh kpl ksp ksy ksh bs bt sz nm z1 ik psc pnc pdy pzz tsc tnc tdy tzz ksc knc kdy kzz ln so be en va) z0) 0 0 (wA (wX4 cI cS a0 a1 a2 a3 a4 a5 a6 a7 a8 a9 a10 a11 a12 a13 a14 a15 a16 a17 a18 a19 a20 a21 a22 ppl psp psy psh tpl tsp tsy tsh kpl ksp ksy ksh bs bt sz nm fd ik psc pnc pdy pzz tsc tnc tdy tzz ksc knc kdy kzz ln so be en va)) := by
  refine Met.mk RX4 (by decide) rfl rfl (Nat.le_of_ble_eq_true rfl) ?_
  intro p e s m below meth c ls C0 hP hl
  have hl : lv_has ls 2 [(0, .ref a0), (1, .int v1)] := hl
  obtain ⟨hx, hb, hr, hml, hown, hts, hlk, hE⟩ := id C0
  have hinX4 : ∀ w ∈ u_ws RX4 TX4 7, w ∈ wsX4_thick := by decide +kernel
  have hD : ∀ W : va_W, W.map Prod.fst = [a0, a1, a2, a3, a4, a5, a6, a7, a8, a9, a10, a11, a12, a13, a14, a15, a16, a17, a18, a19, a20, a21, a22] → va_D (wA (wX4 cI cS a0 a1 a2 a3 a4 a5 a6 a7 a8 a9 a10 a11 a12 a13 a14 a15 a16 a17 a18 a19 a20 a21 a22 ppl psp psy psh tpl tsp tsy tsh kpl ksp ksy ksh bs bt sz nm fd ik psc pnc pdy pzz tsc tnc tdy tzz ksc knc kdy kzz ln so be en va)) W := fun W hW => hD0.own.re hW
  have hS : va_S (wA (wX4 cI cS a0 a1 a2 a3 a4 a5 a6 a7 a8 a9 a10 a11 a12 a13 a14 a15 a16 a17 a18 a19 a20 a21 a22 ppl psp psy psh tpl tsp tsy tsh kpl ksp ksy ksh bs bt sz nm fd ik psc pnc pdy pzz tsc tnc tdy tzz ksc knc kdy kzz ln so be en va)) s.heap s.heap [] := va_S.rf
  have hP : va_P D vwCl (wX4 cI cS a0 a1 a2 a3 a4 a5 a6 a7 a8 a9 a10 a11 a12 a13 a14 a15 a16 a17 a18 a19 a20 a21 a22 ppl psp psy psh tpl tsp tsy tsh kpl ksp ksy ksh bs bt sz nm fd ik psc pnc pdy pzz tsc tnc tdy tzz ksc knc kdy kzz ln so be en va) s.heap := hP
  rw [fX4_thick] at h
  refine lv_iload_n hx hb dX4_thick_0 rfl (lv_at hl 1 rfl) ?_
  refine kRi (rS C0 (tX4_isCell l D cI cS v1 (fX4_isCell v1) rfl) gX4_thick_X4_isCell rfl ⟨rfl, rfl⟩ pdX4_isCell rfl ⟨Nat.le_of_ble_eq_true rfl, Nat.le_of_ble_eq_true rfl⟩ (fun _ _ _ _ q => q) (fun _ _ _ _ => vp0) hl.1 rfl (Nat.le_of_ble_eq_true rfl) dX4_thick_1 ⟨Nat.zero_le _, Nat.zero_le _⟩) ?_
  refine lv_if_eq (tgt := 18) hx hb dX4_thick_4 (by decide) (fun c_1 => ?_) (fun c_1 => ?_)
  · have h := ifp c_1 h
    refine lv_aload_n hx hb dX4_thick_18 rfl (lv_at hl 0 rfl) ?_
    refine lv_ldc (v := (-1000001)) hx hb hown (hts _ (List.mem_of_getElem? (i := 2) rfl)) dX4_thick_19 ?_
    have hPc := hP.sub (ws' := (wX4 cI cS a0 a1 a2 a3 a4 a5 a6 a7 a8 a9 a10 a11 a12 a13 a14 a15 a16 a17 a18 a19 a20 a21 a22 ppl psp psy psh tpl tsp tsy tsh kpl ksp ksy ksh bs bt sz nm fd ik psc pnc pdy pzz tsc tnc tdy tzz ksc knc kdy kzz ln so be en va)) [0, 1, 2, 3, 4, 5, 6, 7, 8, 9, 10, 11, 12, 13, 14, 15, 16, 17, 18, 19, 20, 21, 22] rfl
    refine kMi (wf' := (wX4 cI cS a0 a1 a2 a3 a4 a5 a6 a7 a8 a9 a10 a11 a12 a13 a14 a15 a16 a17 a18 a19 a20 a21 a22 ppl psp psy psh tpl tsp tsy tsh kpl ksp ksy ksh bs bt sz nm (fX4_finding_o1 fd (-1000001)) ik psc pnc pdy pzz tsc tnc tdy tzz ksc knc kdy kzz ln so be en va)) [0, 1, 2, 3, 4, 5, 6, 7, 8, 9, 10, 11, 12, 13, 14, 15, 16, 17, 18, 19, 20, 21, 22] [some 0, some 1, some 2, some 3, some 4, some 5, some 6, some 7, some 8, some 9, some 10, some 11, some 12, some 13, some 14, some 15, some 16, some 17, some 18, some 19, some 20, some 21, some 22] (rV C0 (tX4_finding l D cI cS a0 a1 a2 a3 a4 a5 a6 a7 a8 a9 a10 a11 a12 a13 a14 a15 a16 a17 a18 a19 a20 a21 a22 ppl psp psy psh tpl tsp tsy tsh kpl ksp ksy ksh bs bt sz nm fd ik psc pnc pdy pzz tsc tnc tdy tzz ksc knc kdy kzz ln so be en va (-1000001) (-1000001) (fX4_finding_o1 fd (-1000001)) (eeX4_finding ..) (((hD (wX4 cI cS a0 a1 a2 a3 a4 a5 a6 a7 a8 a9 a10 a11 a12 a13 a14 a15 a16 a17 a18 a19 a20 a21 a22 ppl psp psy psh tpl tsp tsy tsh kpl ksp ksy ksh bs bt sz nm fd ik psc pnc pdy pzz tsc tnc tdy tzz ksc knc kdy kzz ln so be en va) rfl).sub [0, 1, 2, 3, 4, 5, 6, 7, 8, 9, 10, 11, 12, 13, 14, 15, 16, 17, 18, 19, 20, 21, 22] (by decide) rfl).weaken (fun _ _ _ _ => trivial))) RX4 gX4_thick_X4_finding rfl ⟨rfl, rfl⟩ pdX4_finding rfl ⟨Nat.le_of_ble_eq_true rfl, Nat.le_of_ble_eq_true rfl⟩ (fun _ _ _ _ q => q) (va_recv hE.1 hPc (ci := 3) (q0 := 0) rfl rfl) (fun U hU _ _ => by rw [hU]; exact hPc) hl.1 rfl (Nat.le_of_ble_eq_true rfl) dX4_thick_21 ⟨Nat.zero_le _, Nat.zero_le _⟩) hP (hD _ rfl) hS rfl rfl rfl (fun H locs hP hS => ?_)
    obtain ⟨q0, q1⟩ := Prod.mk.inj (Option.some.inj h)
    subst q0 q1
    exact eMi C0 hP hS rfl rfl dX4_thick_24
  · have h := ifn c_1 h
    refine lv_aload_n hx hb dX4_thick_7 rfl (lv_at hl 0 rfl) ?_
    refine va_get (D := D) (ci := 3) (v := .ref a1) (C := RX4) (T := TX4) (N := 7) hx hb hts hinX4 hown hE.1 hP 0 rfl rfl 0 (by decide) (hts _ (List.mem_of_getElem? (i := 1) rfl)) (fun _ h9 => h9) rfl dX4_thick_8 ?_
    refine lv_iload_n hx hb dX4_thick_11 rfl (lv_at hl 1 rfl) ?_
    obtain ⟨z_2, e_3, h⟩ := bds h
    have hPc := hP.sub (ws' := (wX0 cI cS a1 a2 a3 a4 a5 ppl psp psy psh psc pnc pdy pzz)) [1, 2, 3, 4, 5] rfl
    refine kRi (rV C0 (tX0_thickAt l D cI cS F a1 a2 a3 a4 a5 ppl psp psy psh psc pnc pdy pzz v1 z_2 e_3) RX0 gX4_thick_X0_thickAt rfl ⟨rfl, rfl⟩ pdX0_thickAt rfl ⟨Nat.le_of_ble_eq_true rfl, Nat.le_of_ble_eq_true rfl⟩ (fun _ _ _ _ q => q) (va_recv hE.1 hPc (ci := 0) (q0 := 0) rfl rfl) (fun U hU _ _ => by rw [hU]; exact hPc) hl.1 rfl (Nat.le_of_ble_eq_true rfl) dX4_thick_12 ⟨Nat.zero_le _, Nat.zero_le _⟩) ?_
    refine lv_goto (tgt := 24) hx hb dX4_thick_15 (by decide) ?_
    obtain ⟨q0, q1⟩ := Prod.mk.inj (Option.some.inj h)
    subst q0 q1
    exact eMi C0 hP hS rfl rfl dX4_thick_24
def fX4_go (F : Nat) (ppl : Nat → Int32) (psy : Nat → Int32) (psh : Nat → Int32) (fd : Nat → Int32) (psc : Int32) (pnc : Int32) (pdy : Int32) (v1 : Int32) : Option (Int32 × (Nat → Int32) × (Nat → Int32) × (Nat → Int32) × Int32) := (if (fX4_within v1 1 60) = 0 then some ((-1000001), psy, psh, fX4_finding_o1 fd (-1000001), pdy) else (if (pdy + v1) ≤ 99999 then Option.bind (fX0_passDays F ppl psy psh psc pnc pdy v1 63) (fun z_3 => Option.bind (fX0_shipsInPort F z_3.2.1 pnc) (fun z_5 => some (z_5, z_3.1, z_3.2.1, fd, z_3.2.2))) else some ((-1000005), psy, psh, fX4_finding_o1 fd (-1000005), pdy)))
abbrev rmX4_go : Room := { frames := 5, cells := 0, slots := 0, locals := 120 }
theorem pdX4_go : (yX4_go.cls = RX4 ∧ yX4_go.cls ≠ "java/lang/invoke/MethodHandle" ∧ yX4_go.cls ≠ "java/lang/invoke/VarHandle" ∧ (parseMethodDescriptor yX4_go.desc).map (fun d => d.parameters.length) = some 1) := by decide +kernel
set_option maxHeartbeats 4000000 in
set_option maxRecDepth 100000 in
theorem tX4_go (l : Launch) (D : va_G) (cI cS : ClassId) (F : Nat) (a0 a1 a2 a3 a4 a5 a6 a7 a8 a9 a10 a11 a12 a13 a14 a15 a16 a17 a18 a19 a20 a21 a22 : Nat) (ppl : Nat → Int32) (psp : Nat → Int32) (psy : Nat → Int32) (psh : Nat → Int32) (tpl : Nat → Int32) (tsp : Nat → Int32) (tsy : Nat → Int32) (tsh : Nat → Int32) (kpl : Nat → Int32) (ksp : Nat → Int32) (ksy : Nat → Int32) (ksh : Nat → Int32) (bs : Nat → Int32) (bt : Nat → Int32) (sz : Nat → Int32) (nm : Nat → Int32) (fd : Nat → Int32) (ik : Int32) (psc : Int32) (pnc : Int32) (pdy : Int32) (pzz : Int32) (tsc : Int32) (tnc : Int32) (tdy : Int32) (tzz : Int32) (ksc : Int32) (knc : Int32) (kdy : Int32) (kzz : Int32) (ln : Int32) (so : Int32) (be : Int32) (en : Int32) (va : Int32) (v1 : Int32) (z0 : Int32) (z1 : Nat → Int32) (z2 : Nat → Int32) (z3 : Nat → Int32) (z4 : Int32) (h : fX4_go F ppl psy psh fd psc pnc pdy v1 = some (z0, z1, z2, z3, z4)) (hD0 : va_D (fun _ => True) (wX4 cI cS a0 a1 a2 a3 a4 a5 a6 a7 a8 a9 a10 a11 a12 a13 a14 a15 a16 a17 a18 a19 a20 a21 a22 ppl psp psy psh tpl tsp tsy tsh kpl ksp ksy ksh bs bt sz nm fd ik psc pnc pdy pzz tsc tnc tdy tzz ksc knc kdy kzz ln so be en va)) : Met l yX4_go wsX4_go rmX4_go (PZ D cI cS [.ref a0, .int v1] (fun U => va_P D vwCl (wX4 cI cS a0 a1 a2 a3 a4 a5 a6 a7 a8 a9 a10 a11 a12 a13 a14 a15 a16 a17 a18 a19 a20 a21 a22 ppl psp psy psh tpl tsp tsy tsh kpl ksp ksy ksh bs bt sz nm fd ik psc pnc pdy pzz tsc tnc tdy tzz ksc knc kdy kzz ln so be en va) U.heap)) (qI D (wX4 cI cS a0 a1 a2 a3 a4 a5 a6 a7 a8 a9 a10 a11 a12 a13 a14 a15 a16 a17 a18 a19 a20 a21 a22 ppl psp psy psh tpl tsp tsy tsh kpl ksp ksy ksh bs bt sz nm fd ik psc pnc pdy pzz tsc tnc tdy tzz ksc knc kdy kzz ln so be en va) (wX4 cI cS a0 a1 a2 a3 a4 a5 a6 a7 a8 a9 a10 a11 a12 a13 a14 a15 a16 a17 a18 a19 a20 a21 a22 ppl psp z1 z2 tpl tsp tsy tsh kpl ksp ksy ksh bs bt sz nm z3 ik psc pnc z4 pzz tsc tnc tdy tzz ksc knc kdy kzz ln so be en va) z0) 0 0 (wA (wX4 cI cS a0 a1 a2 a3 a4 a5 a6 a7 a8 a9 a10 a11 a12 a13 a14 a15 a16 a17 a18 a19 a20 a21 a22 ppl psp psy psh tpl tsp tsy tsh kpl ksp ksy ksh bs bt sz nm fd ik psc pnc pdy pzz tsc tnc tdy tzz ksc knc kdy kzz ln so be en va)) := by
  refine Met.mk RX4 (by decide) rfl rfl (Nat.le_of_ble_eq_true rfl) ?_
  intro p e s m below meth c ls C0 hP hl
  have hl : lv_has ls 2 [(0, .ref a0), (1, .int v1)] := hl
  obtain ⟨hx, hb, hr, hml, hown, hts, hlk, hE⟩ := id C0
  have hinX0 : ∀ w ∈ u_ws RX0 TX0 8, w ∈ wsX4_go := by decide +kernel
  have hinX4 : ∀ w ∈ u_ws RX4 TX4 7, w ∈ wsX4_go := by decide +kernel
  have hD : ∀ W : va_W, W.map Prod.fst = [a0, a1, a2, a3, a4, a5, a6, a7, a8, a9, a10, a11, a12, a13, a14, a15, a16, a17, a18, a19, a20, a21, a22] → va_D (wA (wX4 cI cS a0 a1 a2 a3 a4 a5 a6 a7 a8 a9 a10 a11 a12 a13 a14 a15 a16 a17 a18 a19 a20 a21 a22 ppl psp psy psh tpl tsp tsy tsh kpl ksp ksy ksh bs bt sz nm fd ik psc pnc pdy pzz tsc tnc tdy tzz ksc knc kdy kzz ln so be en va)) W := fun W hW => hD0.own.re hW
  have hS : va_S (wA (wX4 cI cS a0 a1 a2 a3 a4 a5 a6 a7 a8 a9 a10 a11 a12 a13 a14 a15 a16 a17 a18 a19 a20 a21 a22 ppl psp psy psh tpl tsp tsy tsh kpl ksp ksy ksh bs bt sz nm fd ik psc pnc pdy pzz tsc tnc tdy tzz ksc knc kdy kzz ln so be en va)) s.heap s.heap [] := va_S.rf
  have hP : va_P D vwCl (wX4 cI cS a0 a1 a2 a3 a4 a5 a6 a7 a8 a9 a10 a11 a12 a13 a14 a15 a16 a17 a18 a19 a20 a21 a22 ppl psp psy psh tpl tsp tsy tsh kpl ksp ksy ksh bs bt sz nm fd ik psc pnc pdy pzz tsc tnc tdy tzz ksc knc kdy kzz ln so be en va) s.heap := hP
  rw [fX4_go] at h
  refine lv_iload_n hx hb dX4_go_0 rfl (lv_at hl 1 rfl) ?_
  refine lv_iconst (v := 1) hx hb dX4_go_1 (by decide) ?_
  refine lv_bipush (v := 60) hx hb dX4_go_2 (by decide) ?_
  refine kRi (rS C0 (tX4_within l D cI cS v1 1 60 (fX4_within v1 1 60) rfl) gX4_go_X4_within rfl ⟨rfl, rfl⟩ pdX4_within rfl ⟨Nat.le_of_ble_eq_true rfl, Nat.le_of_ble_eq_true rfl⟩ (fun _ _ _ _ q => q) (fun _ _ _ _ => vp0) hl.1 rfl (Nat.le_of_ble_eq_true rfl) dX4_go_4 ⟨Nat.zero_le _, Nat.zero_le _⟩) ?_
  refine lv_if_ne (tgt := 17) hx hb dX4_go_7 (by decide) (fun c_1 => ?_) (fun c_1 => ?_)
  · have h := ifn c_1 h
    refine lv_aload_n hx hb dX4_go_17 rfl (lv_at hl 0 rfl) ?_
    refine va_get (D := D) (ci := 3) (v := .ref a1) (C := RX4) (T := TX4) (N := 7) hx hb hts hinX4 hown hE.1 hP 0 rfl rfl 0 (by decide) (hts _ (List.mem_of_getElem? (i := 2) rfl)) (fun _ h9 => h9) rfl dX4_go_18 ?_
    refine va_getN (D := D) (ci := 0) (v := .int pdy) (C := RX0) (T := TX0) (N := 8) hx hb hts hinX0 hown hE.1 hP 1 rfl rfl 6 (by decide) (va_Nw.use rfl (hE.2 _ (List.mem_of_getElem? (i := 4) rfl))) (fun _ h9 => h9) rfl dX4_go_21 ?_
    refine lv_iload_n hx hb dX4_go_24 rfl (lv_at hl 1 rfl) ?_
    refine lv_iadd hx hb dX4_go_25 ?_
    refine lv_ldc (v := 99999) hx hb hown (hts _ (List.mem_of_getElem? (i := 3) rfl)) dX4_go_26 ?_
    refine lv_icmp_le (tgt := 38) hx hb dX4_go_28 (by decide) (fun c_2 => ?_) (fun c_2 => ?_)
    · have h := ifp c_2 h
      refine lv_aload_n hx hb dX4_go_38 rfl (lv_at hl 0 rfl) ?_
      refine va_get (D := D) (ci := 3) (v := .ref a1) (C := RX4) (T := TX4) (N := 7) hx hb hts hinX4 hown hE.1 hP 0 rfl rfl 0 (by decide) (hts _ (List.mem_of_getElem? (i := 2) rfl)) (fun _ h9 => h9) rfl dX4_go_39 ?_
      refine lv_iload_n hx hb dX4_go_42 rfl (lv_at hl 1 rfl) ?_
      refine lv_bipush (v := 63) hx hb dX4_go_43 (by decide) ?_
      obtain ⟨z_3, e_4, h⟩ := bds h
      have hPc := hP.sub (ws' := (wX0 cI cS a1 a2 a3 a4 a5 ppl psp psy psh psc pnc pdy pzz)) [1, 2, 3, 4, 5] rfl
      refine kMv (wf' := (wX4 cI cS a0 a1 a2 a3 a4 a5 a6 a7 a8 a9 a10 a11 a12 a13 a14 a15 a16 a17 a18 a19 a20 a21 a22 ppl psp z_3.1 z_3.2.1 tpl tsp tsy tsh kpl ksp ksy ksh bs bt sz nm fd ik psc pnc z_3.2.2 pzz tsc tnc tdy tzz ksc knc kdy kzz ln so be en va)) [1, 2, 3, 4, 5] [none, some 0, some 1, some 2, some 3, some 4, none, none, none, none, none, none, none, none, none, none, none, none, none, none, none, none, none] (rV C0 (tX0_passDays l D cI cS F a1 a2 a3 a4 a5 ppl psp psy psh psc pnc pdy pzz v1 63 z_3.1 z_3.2.1 z_3.2.2 e_4 (((hD (wX4 cI cS a0 a1 a2 a3 a4 a5 a6 a7 a8 a9 a10 a11 a12 a13 a14 a15 a16 a17 a18 a19 a20 a21 a22 ppl psp psy psh tpl tsp tsy tsh kpl ksp ksy ksh bs bt sz nm fd ik psc pnc pdy pzz tsc tnc tdy tzz ksc knc kdy kzz ln so be en va) rfl).sub [1, 2, 3, 4, 5] (by decide) rfl).weaken (fun _ _ _ _ => trivial))) RX0 gX4_go_X0_passDays rfl ⟨rfl, rfl⟩ pdX0_passDays rfl ⟨Nat.le_of_ble_eq_true rfl, Nat.le_of_ble_eq_true rfl⟩ (fun _ _ _ _ q => q) (va_recv hE.1 hPc (ci := 0) (q0 := 0) rfl rfl) (fun U hU _ _ => by rw [hU]; exact hPc) hl.1 rfl (Nat.le_of_ble_eq_true rfl) dX4_go_45 ⟨Nat.zero_le _, Nat.zero_le _⟩) hP (hD _ rfl) hS rfl rfl rfl (fun H locs hP hS => ?_)
      refine lv_aload_n hx hb dX4_go_48 rfl (lv_at hl 0 rfl) ?_
      refine va_get (D := D) (ci := 3) (v := .ref a1) (C := RX4) (T := TX4) (N := 7) hx hb hts hinX4 hown hE.1 hP 0 rfl rfl 0 (by decide) (hts _ (List.mem_of_getElem? (i := 2) rfl)) (fun _ h9 => h9) rfl dX4_go_49 ?_
      obtain ⟨z_5, e_6, h⟩ := bds h
      have hPc := hP.sub (ws' := (wX0 cI cS a1 a2 a3 a4 a5 ppl psp z_3.1 z_3.2.1 psc pnc z_3.2.2 pzz)) [1, 2, 3, 4, 5] rfl
      refine kRi (rV C0 (tX0_shipsInPort l D cI cS F a1 a2 a3 a4 a5 ppl psp z_3.1 z_3.2.1 psc pnc z_3.2.2 pzz  z_5 e_6) RX0 gX4_go_X0_shipsInPort rfl ⟨rfl, rfl⟩ pdX0_shipsInPort rfl ⟨Nat.le_of_ble_eq_true rfl, Nat.le_of_ble_eq_true rfl⟩ (fun _ _ _ _ q => q) (va_recv hE.1 hPc (ci := 0) (q0 := 0) rfl rfl) (fun U hU _ _ => by rw [hU]; exact hPc) hl.1 rfl (Nat.le_of_ble_eq_true rfl) dX4_go_52 ⟨Nat.zero_le _, Nat.zero_le _⟩) ?_
      obtain ⟨q0, g0⟩ := Prod.mk.inj (Option.some.inj h)
      obtain ⟨q1, g1⟩ := Prod.mk.inj g0
      obtain ⟨q2, g2⟩ := Prod.mk.inj g1
      obtain ⟨q3, q4⟩ := Prod.mk.inj g2
      subst q0 q1 q2 q3 q4
      exact eMi C0 hP hS rfl rfl dX4_go_55
    · have h := ifn c_2 h
      refine lv_aload_n hx hb dX4_go_31 rfl (lv_at hl 0 rfl) ?_
      refine lv_ldc (v := (-1000005)) hx hb hown (hts _ (List.mem_of_getElem? (i := 4) rfl)) dX4_go_32 ?_
      have hPc := hP.sub (ws' := (wX4 cI cS a0 a1 a2 a3 a4 a5 a6 a7 a8 a9 a10 a11 a12 a13 a14 a15 a16 a17 a18 a19 a20 a21 a22 ppl psp psy psh tpl tsp tsy tsh kpl ksp ksy ksh bs bt sz nm fd ik psc pnc pdy pzz tsc tnc tdy tzz ksc knc kdy kzz ln so be en va)) [0, 1, 2, 3, 4, 5, 6, 7, 8, 9, 10, 11, 12, 13, 14, 15, 16, 17, 18, 19, 20, 21, 22] rfl
      refine kMi (wf' := (wX4 cI cS a0 a1 a2 a3 a4 a5 a6 a7 a8 a9 a10 a11 a12 a13 a14 a15 a16 a17 a18 a19 a20 a21 a22 ppl psp psy psh tpl tsp tsy tsh kpl ksp ksy ksh bs bt sz nm (fX4_finding_o1 fd (-1000005)) ik psc pnc pdy pzz tsc tnc tdy tzz ksc knc kdy kzz ln so be en va)) [0, 1, 2, 3, 4, 5, 6, 7, 8, 9, 10, 11, 12, 13, 14, 15, 16, 17, 18, 19, 20, 21, 22] [some 0, some 1, some 2, some 3, some 4, some 5, some 6, some 7, some 8, some 9, some 10, some 11, some 12, some 13, some 14, some 15, some 16, some 17, some 18, some 19, some 20, some 21, some 22] (rV C0 (tX4_finding l D cI cS a0 a1 a2 a3 a4 a5 a6 a7 a8 a9 a10 a11 a12 a13 a14 a15 a16 a17 a18 a19 a20 a21 a22 ppl psp psy psh tpl tsp tsy tsh kpl ksp ksy ksh bs bt sz nm fd ik psc pnc pdy pzz tsc tnc tdy tzz ksc knc kdy kzz ln so be en va (-1000005) (-1000005) (fX4_finding_o1 fd (-1000005)) (eeX4_finding ..) (((hD (wX4 cI cS a0 a1 a2 a3 a4 a5 a6 a7 a8 a9 a10 a11 a12 a13 a14 a15 a16 a17 a18 a19 a20 a21 a22 ppl psp psy psh tpl tsp tsy tsh kpl ksp ksy ksh bs bt sz nm fd ik psc pnc pdy pzz tsc tnc tdy tzz ksc knc kdy kzz ln so be en va) rfl).sub [0, 1, 2, 3, 4, 5, 6, 7, 8, 9, 10, 11, 12, 13, 14, 15, 16, 17, 18, 19, 20, 21, 22] (by decide) rfl).weaken (fun _ _ _ _ => trivial))) RX4 gX4_go_X4_finding rfl ⟨rfl, rfl⟩ pdX4_finding rfl ⟨Nat.le_of_ble_eq_true rfl, Nat.le_of_ble_eq_true rfl⟩ (fun _ _ _ _ q => q) (va_recv hE.1 hPc (ci := 3) (q0 := 0) rfl rfl) (fun U hU _ _ => by rw [hU]; exact hPc) hl.1 rfl (Nat.le_of_ble_eq_true rfl) dX4_go_34 ⟨Nat.zero_le _, Nat.zero_le _⟩) hP (hD _ rfl) hS rfl rfl rfl (fun H locs hP hS => ?_)
      obtain ⟨q0, g0⟩ := Prod.mk.inj (Option.some.inj h)
      obtain ⟨q1, g1⟩ := Prod.mk.inj g0
      obtain ⟨q2, g2⟩ := Prod.mk.inj g1
      obtain ⟨q3, q4⟩ := Prod.mk.inj g2
      subst q0 q1 q2 q3 q4
      exact eMi C0 hP hS rfl rfl dX4_go_37
  · have h := ifp c_1 h
    refine lv_aload_n hx hb dX4_go_10 rfl (lv_at hl 0 rfl) ?_
    refine lv_ldc (v := (-1000001)) hx hb hown (hts _ (List.mem_of_getElem? (i := 1) rfl)) dX4_go_11 ?_
    have hPc := hP.sub (ws' := (wX4 cI cS a0 a1 a2 a3 a4 a5 a6 a7 a8 a9 a10 a11 a12 a13 a14 a15 a16 a17 a18 a19 a20 a21 a22 ppl psp psy psh tpl tsp tsy tsh kpl ksp ksy ksh bs bt sz nm fd ik psc pnc pdy pzz tsc tnc tdy tzz ksc knc kdy kzz ln so be en va)) [0, 1, 2, 3, 4, 5, 6, 7, 8, 9, 10, 11, 12, 13, 14, 15, 16, 17, 18, 19, 20, 21, 22] rfl
    refine kMi (wf' := (wX4 cI cS a0 a1 a2 a3 a4 a5 a6 a7 a8 a9 a10 a11 a12 a13 a14 a15 a16 a17 a18 a19 a20 a21 a22 ppl psp psy psh tpl tsp tsy tsh kpl ksp ksy ksh bs bt sz nm (fX4_finding_o1 fd (-1000001)) ik psc pnc pdy pzz tsc tnc tdy tzz ksc knc kdy kzz ln so be en va)) [0, 1, 2, 3, 4, 5, 6, 7, 8, 9, 10, 11, 12, 13, 14, 15, 16, 17, 18, 19, 20, 21, 22] [some 0, some 1, some 2, some 3, some 4, some 5, some 6, some 7, some 8, some 9, some 10, some 11, some 12, some 13, some 14, some 15, some 16, some 17, some 18, some 19, some 20, some 21, some 22] (rV C0 (tX4_finding l D cI cS a0 a1 a2 a3 a4 a5 a6 a7 a8 a9 a10 a11 a12 a13 a14 a15 a16 a17 a18 a19 a20 a21 a22 ppl psp psy psh tpl tsp tsy tsh kpl ksp ksy ksh bs bt sz nm fd ik psc pnc pdy pzz tsc tnc tdy tzz ksc knc kdy kzz ln so be en va (-1000001) (-1000001) (fX4_finding_o1 fd (-1000001)) (eeX4_finding ..) (((hD (wX4 cI cS a0 a1 a2 a3 a4 a5 a6 a7 a8 a9 a10 a11 a12 a13 a14 a15 a16 a17 a18 a19 a20 a21 a22 ppl psp psy psh tpl tsp tsy tsh kpl ksp ksy ksh bs bt sz nm fd ik psc pnc pdy pzz tsc tnc tdy tzz ksc knc kdy kzz ln so be en va) rfl).sub [0, 1, 2, 3, 4, 5, 6, 7, 8, 9, 10, 11, 12, 13, 14, 15, 16, 17, 18, 19, 20, 21, 22] (by decide) rfl).weaken (fun _ _ _ _ => trivial))) RX4 gX4_go_X4_finding rfl ⟨rfl, rfl⟩ pdX4_finding rfl ⟨Nat.le_of_ble_eq_true rfl, Nat.le_of_ble_eq_true rfl⟩ (fun _ _ _ _ q => q) (va_recv hE.1 hPc (ci := 3) (q0 := 0) rfl rfl) (fun U hU _ _ => by rw [hU]; exact hPc) hl.1 rfl (Nat.le_of_ble_eq_true rfl) dX4_go_13 ⟨Nat.zero_le _, Nat.zero_le _⟩) hP (hD _ rfl) hS rfl rfl rfl (fun H locs hP hS => ?_)
    obtain ⟨q0, g0⟩ := Prod.mk.inj (Option.some.inj h)
    obtain ⟨q1, g1⟩ := Prod.mk.inj g0
    obtain ⟨q2, g2⟩ := Prod.mk.inj g1
    obtain ⟨q3, q4⟩ := Prod.mk.inj g2
    subst q0 q1 q2 q3 q4
    exact eMi C0 hP hS rfl rfl dX4_go_16
def fX4_now (F : Nat) (psy : Nat → Int32) (psh : Nat → Int32) (fd : Nat → Int32) (psc : Int32) (pnc : Int32) (pdy : Int32) (v1 : Int32) : Option (Int32 × (Nat → Int32)) := (if v1 = 0 then some (pdy, fd) else if v1 = 1 then Option.bind (fX0_shipsInPort F psh pnc) (fun z_3 => some (z_3, fd)) else if v1 = 2 then Option.bind (fX0_finishedSayings F psy psc) (fun z_6 => some (z_6, fd)) else if v1 = 3 then Option.bind (fX0_vagueTogether F psy psc) (fun z_9 => some (z_9, fd)) else if v1 = 4 then Option.bind (fX0_waitedTogether F psh pnc) (fun z_12 => some (z_12, fd)) else if v1 = 5 then Option.bind (fX0_thickestCell F psy psc) (fun z_15 => some (z_15, fd)) else if v1 = 6 then Option.bind (fX0_clearCells F psy psc) (fun z_18 => some (z_18, fd)) else if v1 = 7 then Option.bind (fX0_shipsThatGoOn F psy psh psc pnc) (fun z_21 => some (z_21, fd)) else some ((-1000001), fX4_finding_o1 fd (-1000001)))
abbrev rmX4_now : Room := { frames := 5, cells := 0, slots := 0, locals := 117 }
theorem pdX4_now : (yX4_now.cls = RX4 ∧ yX4_now.cls ≠ "java/lang/invoke/MethodHandle" ∧ yX4_now.cls ≠ "java/lang/invoke/VarHandle" ∧ (parseMethodDescriptor yX4_now.desc).map (fun d => d.parameters.length) = some 1) := by decide +kernel
set_option maxHeartbeats 4000000 in
set_option maxRecDepth 100000 in
theorem tX4_now (l : Launch) (D : va_G) (cI cS : ClassId) (F : Nat) (a0 a1 a2 a3 a4 a5 a6 a7 a8 a9 a10 a11 a12 a13 a14 a15 a16 a17 a18 a19 a20 a21 a22 : Nat) (ppl : Nat → Int32) (psp : Nat → Int32) (psy : Nat → Int32) (psh : Nat → Int32) (tpl : Nat → Int32) (tsp : Nat → Int32) (tsy : Nat → Int32) (tsh : Nat → Int32) (kpl : Nat → Int32) (ksp : Nat → Int32) (ksy : Nat → Int32) (ksh : Nat → Int32) (bs : Nat → Int32) (bt : Nat → Int32) (sz : Nat → Int32) (nm : Nat → Int32) (fd : Nat → Int32) (ik : Int32) (psc : Int32) (pnc : Int32) (pdy : Int32) (pzz : Int32) (tsc : Int32) (tnc : Int32) (tdy : Int32) (tzz : Int32) (ksc : Int32) (knc : Int32) (kdy : Int32) (kzz : Int32) (ln : Int32) (so : Int32) (be : Int32) (en : Int32) (va : Int32) (v1 : Int32) (z0 : Int32) (z1 : Nat → Int32) (h : fX4_now F psy psh fd psc pnc pdy v1 = some (z0, z1)) (hD0 : va_D (fun _ => True) (wX4 cI cS a0 a1 a2 a3 a4 a5 a6 a7 a8 a9 a10 a11 a12 a13 a14 a15 a16 a17 a18 a19 a20 a21 a22 ppl psp psy psh tpl tsp tsy tsh kpl ksp ksy ksh bs bt sz nm fd ik psc pnc pdy pzz tsc tnc tdy tzz ksc knc kdy kzz ln so be en va)) : Met l yX4_now wsX4_now rmX4_now (PZ D cI cS [.ref a0, .int v1] (fun U => va_P D vwCl (wX4 cI cS a0 a1 a2 a3 a4 a5 a6 a7 a8 a9 a10 a11 a12 a13 a14 a15 a16 a17 a18 a19 a20 a21 a22 ppl psp psy psh tpl tsp tsy tsh kpl ksp ksy ksh bs bt sz nm fd ik psc pnc pdy pzz tsc tnc tdy tzz ksc knc kdy kzz ln so be en va) U.heap)) (qI D (wX4 cI cS a0 a1 a2 a3 a4 a5 a6 a7 a8 a9 a10 a11 a12 a13 a14 a15 a16 a17 a18 a19 a20 a21 a22 ppl psp psy psh tpl tsp tsy tsh kpl ksp ksy ksh bs bt sz nm fd ik psc pnc pdy pzz tsc tnc tdy tzz ksc knc kdy kzz ln so be en va) (wX4 cI cS a0 a1 a2 a3 a4 a5 a6 a7 a8 a9 a10 a11 a12 a13 a14 a15 a16 a17 a18 a19 a20 a21 a22 ppl psp psy psh tpl tsp tsy tsh kpl ksp ksy ksh bs bt sz nm z1 ik psc pnc pdy pzz tsc tnc tdy tzz ksc knc kdy kzz ln so be en va) z0) 0 0 (wA (wX4 cI cS a0 a1 a2 a3 a4 a5 a6 a7 a8 a9 a10 a11 a12 a13 a14 a15 a16 a17 a18 a19 a20 a21 a22 ppl psp psy psh tpl tsp tsy tsh kpl ksp ksy ksh bs bt sz nm fd ik psc pnc pdy pzz tsc tnc tdy tzz ksc knc kdy kzz ln so be en va)) := by
  refine Met.mk RX4 (by decide) rfl rfl (Nat.le_of_ble_eq_true rfl) ?_
  intro p e s m below meth c ls C0 hP hl
  have hl : lv_has ls 2 [(0, .ref a0), (1, .int v1)] := hl
  obtain ⟨hx, hb, hr, hml, hown, hts, hlk, hE⟩ := id C0
  have hinX0 : ∀ w ∈ u_ws RX0 TX0 8, w ∈ wsX4_now := by decide +kernel
  have hinX4 : ∀ w ∈ u_ws RX4 TX4 7, w ∈ wsX4_now := by decide +kernel
  have hD : ∀ W : va_W, W.map Prod.fst = [a0, a1, a2, a3, a4, a5, a6, a7, a8, a9, a10, a11, a12, a13, a14, a15, a16, a17, a18, a19, a20, a21, a22] → va_D (wA (wX4 cI cS a0 a1 a2 a3 a4 a5 a6 a7 a8 a9 a10 a11 a12 a13 a14 a15 a16 a17 a18 a19 a20 a21 a22 ppl psp psy psh tpl tsp tsy tsh kpl ksp ksy ksh bs bt sz nm fd ik psc pnc pdy pzz tsc tnc tdy tzz ksc knc kdy kzz ln so be en va)) W := fun W hW => hD0.own.re hW
  have hS : va_S (wA (wX4 cI cS a0 a1 a2 a3 a4 a5 a6 a7 a8 a9 a10 a11 a12 a13 a14 a15 a16 a17 a18 a19 a20 a21 a22 ppl psp psy psh tpl tsp tsy tsh kpl ksp ksy ksh bs bt sz nm fd ik psc pnc pdy pzz tsc tnc tdy tzz ksc knc kdy kzz ln so be en va)) s.heap s.heap [] := va_S.rf
  have hP : va_P D vwCl (wX4 cI cS a0 a1 a2 a3 a4 a5 a6 a7 a8 a9 a10 a11 a12 a13 a14 a15 a16 a17 a18 a19 a20 a21 a22 ppl psp psy psh tpl tsp tsy tsh kpl ksp ksy ksh bs bt sz nm fd ik psc pnc pdy pzz tsc tnc tdy tzz ksc knc kdy kzz ln so be en va) s.heap := hP
  rw [fX4_now] at h
  refine lv_iload_n hx hb dX4_now_0 rfl (lv_at hl 1 rfl) ?_
  by_cases c_1 : v1 = 0
  · have h := ifp c_1 h
    refine lv_tableIn (tgt := 48) hx hb dX4_now_1 (by rw [c_1]; decide) (by rw [c_1]; decide) (by rw [c_1]; rfl) (by decide) ?_
    refine lv_aload_n hx hb dX4_now_48 rfl (lv_at hl 0 rfl) ?_
    refine va_get (D := D) (ci := 3) (v := .ref a1) (C := RX4) (T := TX4) (N := 7) hx hb hts hinX4 hown hE.1 hP 0 rfl rfl 0 (by decide) (hts _ (List.mem_of_getElem? (i := 1) rfl)) (fun _ h9 => h9) rfl dX4_now_49 ?_
    refine va_getN (D := D) (ci := 0) (v := .int pdy) (C := RX0) (T := TX0) (N := 8) hx hb hts hinX0 hown hE.1 hP 1 rfl rfl 6 (by decide) (va_Nw.use rfl (hE.2 _ (List.mem_of_getElem? (i := 4) rfl))) (fun _ h9 => h9) rfl dX4_now_52 ?_
    obtain ⟨q0, q1⟩ := Prod.mk.inj (Option.some.inj h)
    subst q0 q1
    exact eMi C0 hP hS rfl rfl dX4_now_55
  have h := ifn c_1 h
  by_cases c_2 : v1 = 1
  · have h := ifp c_2 h
    refine lv_tableIn (tgt := 56) hx hb dX4_now_1 (by rw [c_2]; decide) (by rw [c_2]; decide) (by rw [c_2]; rfl) (by decide) ?_
    refine lv_aload_n hx hb dX4_now_56 rfl (lv_at hl 0 rfl) ?_
    refine va_get (D := D) (ci := 3) (v := .ref a1) (C := RX4) (T := TX4) (N := 7) hx hb hts hinX4 hown hE.1 hP 0 rfl rfl 0 (by decide) (hts _ (List.mem_of_getElem? (i := 1) rfl)) (fun _ h9 => h9) rfl dX4_now_57 ?_
    obtain ⟨z_3, e_4, h⟩ := bds h
    have hPc := hP.sub (ws' := (wX0 cI cS a1 a2 a3 a4 a5 ppl psp psy psh psc pnc pdy pzz)) [1, 2, 3, 4, 5] rfl
    refine kRi (rV C0 (tX0_shipsInPort l D cI cS F a1 a2 a3 a4 a5 ppl psp psy psh psc pnc pdy pzz  z_3 e_4) RX0 gX4_now_X0_shipsInPort rfl ⟨rfl, rfl⟩ pdX0_shipsInPort rfl ⟨Nat.le_of_ble_eq_true rfl, Nat.le_of_ble_eq_true rfl⟩ (fun _ _ _ _ q => q) (va_recv hE.1 hPc (ci := 0) (q0 := 0) rfl rfl) (fun U hU _ _ => by rw [hU]; exact hPc) hl.1 rfl (Nat.le_of_ble_eq_true rfl) dX4_now_60 ⟨Nat.zero_le _, Nat.zero_le _⟩) ?_
    obtain ⟨q0, q1⟩ := Prod.mk.inj (Option.some.inj h)
    subst q0 q1
    exact eMi C0 hP hS rfl rfl dX4_now_63
  have h := ifn c_2 h
  by_cases c_5 : v1 = 2
  · have h := ifp c_5 h
    refine lv_tableIn (tgt := 64) hx hb dX4_now_1 (by rw [c_5]; decide) (by rw [c_5]; decide) (by rw [c_5]; rfl) (by decide) ?_
    refine lv_aload_n hx hb dX4_now_64 rfl (lv_at hl 0 rfl) ?_
    refine va_get (D := D) (ci := 3) (v := .ref a1) (C := RX4) (T := TX4) (N := 7) hx hb hts hinX4 hown hE.1 hP 0 rfl rfl 0 (by decide) (hts _ (List.mem_of_getElem? (i := 1) rfl)) (fun _ h9 => h9) rfl dX4_now_65 ?_
    obtain ⟨z_6, e_7, h⟩ := bds h
    have hPc := hP.sub (ws' := (wX0 cI cS a1 a2 a3 a4 a5 ppl psp psy psh psc pnc pdy pzz)) [1, 2, 3, 4, 5] rfl
    refine kRi (rV C0 (tX0_finishedSayings l D cI cS F a1 a2 a3 a4 a5 ppl psp psy psh psc pnc pdy pzz  z_6 e_7) RX0 gX4_now_X0_finishedSayings rfl ⟨rfl, rfl⟩ pdX0_finishedSayings rfl ⟨Nat.le_of_ble_eq_true rfl, Nat.le_of_ble_eq_true rfl⟩ (fun _ _ _ _ q => q) (va_recv hE.1 hPc (ci := 0) (q0 := 0) rfl rfl) (fun U hU _ _ => by rw [hU]; exact hPc) hl.1 rfl (Nat.le_of_ble_eq_true rfl) dX4_now_68 ⟨Nat.zero_le _, Nat.zero_le _⟩) ?_
    obtain ⟨q0, q1⟩ := Prod.mk.inj (Option.some.inj h)
    subst q0 q1
    exact eMi C0 hP hS rfl rfl dX4_now_71
  have h := ifn c_5 h
  by_cases c_8 : v1 = 3
  · have h := ifp c_8 h
    refine lv_tableIn (tgt := 72) hx hb dX4_now_1 (by rw [c_8]; decide) (by rw [c_8]; decide) (by rw [c_8]; rfl) (by decide) ?_
    refine lv_aload_n hx hb dX4_now_72 rfl (lv_at hl 0 rfl) ?_
    refine va_get (D := D) (ci := 3) (v := .ref a1) (C := RX4) (T := TX4) (N := 7) hx hb hts hinX4 hown hE.1 hP 0 rfl rfl 0 (by decide) (hts _ (List.mem_of_getElem? (i := 1) rfl)) (fun _ h9 => h9) rfl dX4_now_73 ?_
    obtain ⟨z_9, e_10, h⟩ := bds h
    have hPc := hP.sub (ws' := (wX0 cI cS a1 a2 a3 a4 a5 ppl psp psy psh psc pnc pdy pzz)) [1, 2, 3, 4, 5] rfl
    refine kRi (rV C0 (tX0_vagueTogether l D cI cS F a1 a2 a3 a4 a5 ppl psp psy psh psc pnc pdy pzz  z_9 e_10) RX0 gX4_now_X0_vagueTogether rfl ⟨rfl, rfl⟩ pdX0_vagueTogether rfl ⟨Nat.le_of_ble_eq_true rfl, Nat.le_of_ble_eq_true rfl⟩ (fun _ _ _ _ q => q) (va_recv hE.1 hPc (ci := 0) (q0 := 0) rfl rfl) (fun U hU _ _ => by rw [hU]; exact hPc) hl.1 rfl (Nat.le_of_ble_eq_true rfl) dX4_now_76 ⟨Nat.zero_le _, Nat.zero_le _⟩) ?_
    obtain ⟨q0, q1⟩ := Prod.mk.inj (Option.some.inj h)
    subst q0 q1
    exact eMi C0 hP hS rfl rfl dX4_now_79
  have h := ifn c_8 h
  by_cases c_11 : v1 = 4
  · have h := ifp c_11 h
    refine lv_tableIn (tgt := 80) hx hb dX4_now_1 (by rw [c_11]; decide) (by rw [c_11]; decide) (by rw [c_11]; rfl) (by decide) ?_
    refine lv_aload_n hx hb dX4_now_80 rfl (lv_at hl 0 rfl) ?_
    refine va_get (D := D) (ci := 3) (v := .ref a1) (C := RX4) (T := TX4) (N := 7) hx hb hts hinX4 hown hE.1 hP 0 rfl rfl 0 (by decide) (hts _ (List.mem_of_getElem? (i := 1) rfl)) (fun _ h9 => h9) rfl dX4_now_81 ?_
    obtain ⟨z_12, e_13, h⟩ := bds h
    have hPc := hP.sub (ws' := (wX0 cI cS a1 a2 a3 a4 a5 ppl psp psy psh psc pnc pdy pzz)) [1, 2, 3, 4, 5] rfl
    refine kRi (rV C0 (tX0_waitedTogether l D cI cS F a1 a2 a3 a4 a5 ppl psp psy psh psc pnc pdy pzz  z_12 e_13) RX0 gX4_now_X0_waitedTogether rfl ⟨rfl, rfl⟩ pdX0_waitedTogether rfl ⟨Nat.le_of_ble_eq_true rfl, Nat.le_of_ble_eq_true rfl⟩ (fun _ _ _ _ q => q) (va_recv hE.1 hPc (ci := 0) (q0 := 0) rfl rfl) (fun U hU _ _ => by rw [hU]; exact hPc) hl.1 rfl (Nat.le_of_ble_eq_true rfl) dX4_now_84 ⟨Nat.zero_le _, Nat.zero_le _⟩) ?_
    obtain ⟨q0, q1⟩ := Prod.mk.inj (Option.some.inj h)
    subst q0 q1
    exact eMi C0 hP hS rfl rfl dX4_now_87
  have h := ifn c_11 h
  by_cases c_14 : v1 = 5
  · have h := ifp c_14 h
    refine lv_tableIn (tgt := 88) hx hb dX4_now_1 (by rw [c_14]; decide) (by rw [c_14]; decide) (by rw [c_14]; rfl) (by decide) ?_
    refine lv_aload_n hx hb dX4_now_88 rfl (lv_at hl 0 rfl) ?_
    refine va_get (D := D) (ci := 3) (v := .ref a1) (C := RX4) (T := TX4) (N := 7) hx hb hts hinX4 hown hE.1 hP 0 rfl rfl 0 (by decide) (hts _ (List.mem_of_getElem? (i := 1) rfl)) (fun _ h9 => h9) rfl dX4_now_89 ?_
    obtain ⟨z_15, e_16, h⟩ := bds h
    have hPc := hP.sub (ws' := (wX0 cI cS a1 a2 a3 a4 a5 ppl psp psy psh psc pnc pdy pzz)) [1, 2, 3, 4, 5] rfl
    refine kRi (rV C0 (tX0_thickestCell l D cI cS F a1 a2 a3 a4 a5 ppl psp psy psh psc pnc pdy pzz  z_15 e_16) RX0 gX4_now_X0_thickestCell rfl ⟨rfl, rfl⟩ pdX0_thickestCell rfl ⟨Nat.le_of_ble_eq_true rfl, Nat.le_of_ble_eq_true rfl⟩ (fun _ _ _ _ q => q) (va_recv hE.1 hPc (ci := 0) (q0 := 0) rfl rfl) (fun U hU _ _ => by rw [hU]; exact hPc) hl.1 rfl (Nat.le_of_ble_eq_true rfl) dX4_now_92 ⟨Nat.zero_le _, Nat.zero_le _⟩) ?_
    obtain ⟨q0, q1⟩ := Prod.mk.inj (Option.some.inj h)
    subst q0 q1
    exact eMi C0 hP hS rfl rfl dX4_now_95
  have h := ifn c_14 h
  by_cases c_17 : v1 = 6
  · have h := ifp c_17 h
    refine lv_tableIn (tgt := 96) hx hb dX4_now_1 (by rw [c_17]; decide) (by rw [c_17]; decide) (by rw [c_17]; rfl) (by decide) ?_
    refine lv_aload_n hx hb dX4_now_96 rfl (lv_at hl 0 rfl) ?_
    refine va_get (D := D) (ci := 3) (v := .ref a1) (C := RX4) (T := TX4) (N := 7) hx hb hts hinX4 hown hE.1 hP 0 rfl rfl 0 (by decide) (hts _ (List.mem_of_getElem? (i := 1) rfl)) (fun _ h9 => h9) rfl dX4_now_97 ?_
    obtain ⟨z_18, e_19, h⟩ := bds h
    have hPc := hP.sub (ws' := (wX0 cI cS a1 a2 a3 a4 a5 ppl psp psy psh psc pnc pdy pzz)) [1, 2, 3, 4, 5] rfl
    refine kRi (rV C0 (tX0_clearCells l D cI cS F a1 a2 a3 a4 a5 ppl psp psy psh psc pnc pdy pzz  z_18 e_19) RX0 gX4_now_X0_clearCells rfl ⟨rfl, rfl⟩ pdX0_clearCells rfl ⟨Nat.le_of_ble_eq_true rfl, Nat.le_of_ble_eq_true rfl⟩ (fun _ _ _ _ q => q) (va_recv hE.1 hPc (ci := 0) (q0 := 0) rfl rfl) (fun U hU _ _ => by rw [hU]; exact hPc) hl.1 rfl (Nat.le_of_ble_eq_true rfl) dX4_now_100 ⟨Nat.zero_le _, Nat.zero_le _⟩) ?_
    obtain ⟨q0, q1⟩ := Prod.mk.inj (Option.some.inj h)
    subst q0 q1
    exact eMi C0 hP hS rfl rfl dX4_now_103
  have h := ifn c_17 h
  by_cases c_20 : v1 = 7
  · have h := ifp c_20 h
    refine lv_tableIn (tgt := 104) hx hb dX4_now_1 (by rw [c_20]; decide) (by rw [c_20]; decide) (by rw [c_20]; rfl) (by decide) ?_
    refine lv_aload_n hx hb dX4_now_104 rfl (lv_at hl 0 rfl) ?_
    refine va_get (D := D) (ci := 3) (v := .ref a1) (C := RX4) (T := TX4) (N := 7) hx hb hts hinX4 hown hE.1 hP 0 rfl rfl 0 (by decide) (hts _ (List.mem_of_getElem? (i := 1) rfl)) (fun _ h9 => h9) rfl dX4_now_105 ?_
    obtain ⟨z_21, e_22, h⟩ := bds h
    have hPc := hP.sub (ws' := (wX0 cI cS a1 a2 a3 a4 a5 ppl psp psy psh psc pnc pdy pzz)) [1, 2, 3, 4, 5] rfl
    refine kRi (rV C0 (tX0_shipsThatGoOn l D cI cS F a1 a2 a3 a4 a5 ppl psp psy psh psc pnc pdy pzz  z_21 e_22) RX0 gX4_now_X0_shipsThatGoOn rfl ⟨rfl, rfl⟩ pdX0_shipsThatGoOn rfl ⟨Nat.le_of_ble_eq_true rfl, Nat.le_of_ble_eq_true rfl⟩ (fun _ _ _ _ q => q) (va_recv hE.1 hPc (ci := 0) (q0 := 0) rfl rfl) (fun U hU _ _ => by rw [hU]; exact hPc) hl.1 rfl (Nat.le_of_ble_eq_true rfl) dX4_now_108 ⟨Nat.zero_le _, Nat.zero_le _⟩) ?_
    obtain ⟨q0, q1⟩ := Prod.mk.inj (Option.some.inj h)
    subst q0 q1
    exact eMi C0 hP hS rfl rfl dX4_now_111
  have h := ifn c_20 h
  refine lv_tableOut (tgt := 112) hx hb dX4_now_1 (tb0 (tbS (k := 0) (by decide) c_1 (tbS (k := 1) (by decide) c_2 (tbS (k := 2) (by decide) c_5 (tbS (k := 3) (by decide) c_8 (tbS (k := 4) (by decide) c_11 (tbS (k := 5) (by decide) c_14 (tbS (k := 6) (by decide) c_17 (tbS (k := 7) (by decide) c_20 (tbE (by decide))))))))))) (by decide) ?_
  refine lv_aload_n hx hb dX4_now_112 rfl (lv_at hl 0 rfl) ?_
  refine lv_ldc (v := (-1000001)) hx hb hown (hts _ (List.mem_of_getElem? (i := 2) rfl)) dX4_now_113 ?_
  have hPc := hP.sub (ws' := (wX4 cI cS a0 a1 a2 a3 a4 a5 a6 a7 a8 a9 a10 a11 a12 a13 a14 a15 a16 a17 a18 a19 a20 a21 a22 ppl psp psy psh tpl tsp tsy tsh kpl ksp ksy ksh bs bt sz nm fd ik psc pnc pdy pzz tsc tnc tdy tzz ksc knc kdy kzz ln so be en va)) [0, 1, 2, 3, 4, 5, 6, 7, 8, 9, 10, 11, 12, 13, 14, 15, 16, 17, 18, 19, 20, 21, 22] rfl
  refine kMi (wf' := (wX4 cI cS a0 a1 a2 a3 a4 a5 a6 a7 a8 a9 a10 a11 a12 a13 a14 a15 a16 a17 a18 a19 a20 a21 a22 ppl psp psy psh tpl tsp tsy tsh kpl ksp ksy ksh bs bt sz nm (fX4_finding_o1 fd (-1000001)) ik psc pnc pdy pzz tsc tnc tdy tzz ksc knc kdy kzz ln so be en va)) [0, 1, 2, 3, 4, 5, 6, 7, 8, 9, 10, 11, 12, 13, 14, 15, 16, 17, 18, 19, 20, 21, 22] [some 0, some 1, some 2, some 3, some 4, some 5, some 6, some 7, some 8, some 9, some 10, some 11, some 12, some 13, some 14, some 15, some 16, some 17, some 18, some 19, some 20, some 21, some 22] (rV C0 (tX4_finding l D cI cS a0 a1 a2 a3 a4 a5 a6 a7 a8 a9 a10 a11 a12 a13 a14 a15 a16 a17 a18 a19 a20 a21 a22 ppl psp psy psh tpl tsp tsy tsh kpl ksp ksy ksh bs bt sz nm fd ik psc pnc pdy pzz tsc tnc tdy tzz ksc knc kdy kzz ln so be en va (-1000001) (-1000001) (fX4_finding_o1 fd (-1000001)) (eeX4_finding ..) (((hD (wX4 cI cS a0 a1 a2 a3 a4 a5 a6 a7 a8 a9 a10 a11 a12 a13 a14 a15 a16 a17 a18 a19 a20 a21 a22 ppl psp psy psh tpl tsp tsy tsh kpl ksp ksy ksh bs bt sz nm fd ik psc pnc pdy pzz tsc tnc tdy tzz ksc knc kdy kzz ln so be en va) rfl).sub [0, 1, 2, 3, 4, 5, 6, 7, 8, 9, 10, 11, 12, 13, 14, 15, 16, 17, 18, 19, 20, 21, 22] (by decide) rfl).weaken (fun _ _ _ _ => trivial))) RX4 gX4_now_X4_finding rfl ⟨rfl, rfl⟩ pdX4_finding rfl ⟨Nat.le_of_ble_eq_true rfl, Nat.le_of_ble_eq_true rfl⟩ (fun _ _ _ _ q => q) (va_recv hE.1 hPc (ci := 3) (q0 := 0) rfl rfl) (fun U hU _ _ => by rw [hU]; exact hPc) hl.1 rfl (Nat.le_of_ble_eq_true rfl) dX4_now_115 ⟨Nat.zero_le _, Nat.zero_le _⟩) hP (hD _ rfl) hS rfl rfl rfl (fun H locs hP hS => ?_)
  obtain ⟨q0, q1⟩ := Prod.mk.inj (Option.some.inj h)
  subst q0 q1
  exact eMi C0 hP hS rfl rfl dX4_now_118
def fX4_behindDays (F : Nat) (ppl : Nat → Int32) (psp : Nat → Int32) (psy : Nat → Int32) (psh : Nat → Int32) (tpl : Nat → Int32) (tsp : Nat → Int32) (tsy : Nat → Int32) (tsh : Nat → Int32) (psc : Int32) (pnc : Int32) (pdy : Int32) (pzz : Int32) (tsc : Int32) (tnc : Int32) (tdy : Int32) (tzz : Int32) (v1 : Int32) (v2 : Int32) : Option ((Nat → Int32) × (Nat → Int32) × (Nat → Int32) × (Nat → Int32) × Int32 × Int32 × Int32 × Int32) := Option.bind (fX0_passDays F (fX0_become_o0 tpl tsp tsy tsh ppl psp psy psh tsc tnc tdy tzz psc pnc pdy pzz) (fX0_become_o2 tpl tsp tsy tsh ppl psp psy psh tsc tnc tdy tzz psc pnc pdy pzz) (fX0_become_o3 tpl tsp tsy tsh ppl psp psy psh tsc tnc tdy tzz psc pnc pdy pzz) (fX0_become_o4 tpl tsp tsy tsh ppl psp psy psh tsc tnc tdy tzz psc pnc pdy pzz) (fX0_become_o5 tpl tsp tsy tsh ppl psp psy psh tsc tnc tdy tzz psc pnc pdy pzz) (fX0_become_o6 tpl tsp tsy tsh ppl psp psy psh tsc tnc tdy tzz psc pnc pdy pzz) v1 v2) (fun z_1 => some (fX0_become_o0 tpl tsp tsy tsh ppl psp psy psh tsc tnc tdy tzz psc pnc pdy pzz, fX0_become_o1 tpl tsp tsy tsh ppl psp psy psh tsc tnc tdy tzz psc pnc pdy pzz, z_1.1, z_1.2.1, fX0_become_o4 tpl tsp tsy tsh ppl psp psy psh tsc tnc tdy tzz psc pnc pdy pzz, fX0_become_o5 tpl tsp tsy tsh ppl psp psy psh tsc tnc tdy tzz psc pnc pdy pzz, z_1.2.2, fX0_become_o7 tpl tsp tsy tsh ppl psp psy psh tsc tnc tdy tzz psc pnc pdy pzz))
abbrev rmX4_behindDays : Room := { frames := 5, cells := 0, slots := 0, locals := 120 }
theorem pdX4_behindDays : (yX4_behindDays.cls = RX4 ∧ yX4_behindDays.cls ≠ "java/lang/invoke/MethodHandle" ∧ yX4_behindDays.cls ≠ "java/lang/invoke/VarHandle" ∧ (parseMethodDescriptor yX4_behindDays.desc).map (fun d => d.parameters.length) = some 2) := by decide +kernel
set_option maxHeartbeats 4000000 in
set_option maxRecDepth 100000 in
theorem tX4_behindDays (l : Launch) (D : va_G) (cI cS : ClassId) (F : Nat) (a0 a1 a2 a3 a4 a5 a6 a7 a8 a9 a10 a11 a12 a13 a14 a15 a16 a17 a18 a19 a20 a21 a22 : Nat) (ppl : Nat → Int32) (psp : Nat → Int32) (psy : Nat → Int32) (psh : Nat → Int32) (tpl : Nat → Int32) (tsp : Nat → Int32) (tsy : Nat → Int32) (tsh : Nat → Int32) (kpl : Nat → Int32) (ksp : Nat → Int32) (ksy : Nat → Int32) (ksh : Nat → Int32) (bs : Nat → Int32) (bt : Nat → Int32) (sz : Nat → Int32) (nm : Nat → Int32) (fd : Nat → Int32) (ik : Int32) (psc : Int32) (pnc : Int32) (pdy : Int32) (pzz : Int32) (tsc : Int32) (tnc : Int32) (tdy : Int32) (tzz : Int32) (ksc : Int32) (knc : Int32) (kdy : Int32) (kzz : Int32) (ln : Int32) (so : Int32) (be : Int32) (en : Int32) (va : Int32) (v1 : Int32) (v2 : Int32) (z0 : Nat → Int32) (z1 : Nat → Int32) (z2 : Nat → Int32) (z3 : Nat → Int32) (z4 : Int32) (z5 : Int32) (z6 : Int32) (z7 : Int32) (h : fX4_behindDays F ppl psp psy psh tpl tsp tsy tsh psc pnc pdy pzz tsc tnc tdy tzz v1 v2 = some (z0, z1, z2, z3, z4, z5, z6, z7)) (hD0 : va_D (fun _ => True) (wX4 cI cS a0 a1 a2 a3 a4 a5 a6 a7 a8 a9 a10 a11 a12 a13 a14 a15 a16 a17 a18 a19 a20 a21 a22 ppl psp psy psh tpl tsp tsy tsh kpl ksp ksy ksh bs bt sz nm fd ik psc pnc pdy pzz tsc tnc tdy tzz ksc knc kdy kzz ln so be en va)) : Met l yX4_behindDays wsX4_behindDays rmX4_behindDays (PZ D cI cS [.ref a0, .int v1, .int v2] (fun U => va_P D vwCl (wX4 cI cS a0 a1 a2 a3 a4 a5 a6 a7 a8 a9 a10 a11 a12 a13 a14 a15 a16 a17 a18 a19 a20 a21 a22 ppl psp psy psh tpl tsp tsy tsh kpl ksp ksy ksh bs bt sz nm fd ik psc pnc pdy pzz tsc tnc tdy tzz ksc knc kdy kzz ln so be en va) U.heap)) (qA D (wX4 cI cS a0 a1 a2 a3 a4 a5 a6 a7 a8 a9 a10 a11 a12 a13 a14 a15 a16 a17 a18 a19 a20 a21 a22 ppl psp psy psh tpl tsp tsy tsh kpl ksp ksy ksh bs bt sz nm fd ik psc pnc pdy pzz tsc tnc tdy tzz ksc knc kdy kzz ln so be en va) (wX4 cI cS a0 a1 a2 a3 a4 a5 a6 a7 a8 a9 a10 a11 a12 a13 a14 a15 a16 a17 a18 a19 a20 a21 a22 ppl psp psy psh z0 z1 z2 z3 kpl ksp ksy ksh bs bt sz nm fd ik psc pnc pdy pzz z4 z5 z6 z7 ksc knc kdy kzz ln so be en va) a6) 0 0 (wA (wX4 cI cS a0 a1 a2 a3 a4 a5 a6 a7 a8 a9 a10 a11 a12 a13 a14 a15 a16 a17 a18 a19 a20 a21 a22 ppl psp psy psh tpl tsp tsy tsh kpl ksp ksy ksh bs bt sz nm fd ik psc pnc pdy pzz tsc tnc tdy tzz ksc knc kdy kzz ln so be en va)) := by
  refine Met.mk RX4 (by decide) rfl rfl (Nat.le_of_ble_eq_true rfl) ?_
  intro p e s m below meth c ls C0 hP hl
  have hl : lv_has ls 3 [(0, .ref a0), (1, .int v1), (2, .int v2)] := hl
  obtain ⟨hx, hb, hr, hml, hown, hts, hlk, hE⟩ := id C0
  have hinX4 : ∀ w ∈ u_ws RX4 TX4 7, w ∈ wsX4_behindDays := by decide +kernel
  have hD : ∀ W : va_W, W.map Prod.fst = [a0, a1, a2, a3, a4, a5, a6, a7, a8, a9, a10, a11, a12, a13, a14, a15, a16, a17, a18, a19, a20, a21, a22] → va_D (wA (wX4 cI cS a0 a1 a2 a3 a4 a5 a6 a7 a8 a9 a10 a11 a12 a13 a14 a15 a16 a17 a18 a19 a20 a21 a22 ppl psp psy psh tpl tsp tsy tsh kpl ksp ksy ksh bs bt sz nm fd ik psc pnc pdy pzz tsc tnc tdy tzz ksc knc kdy kzz ln so be en va)) W := fun W hW => hD0.own.re hW
  have hS : va_S (wA (wX4 cI cS a0 a1 a2 a3 a4 a5 a6 a7 a8 a9 a10 a11 a12 a13 a14 a15 a16 a17 a18 a19 a20 a21 a22 ppl psp psy psh tpl tsp tsy tsh kpl ksp ksy ksh bs bt sz nm fd ik psc pnc pdy pzz tsc tnc tdy tzz ksc knc kdy kzz ln so be en va)) s.heap s.heap [] := va_S.rf
  have hP : va_P D vwCl (wX4 cI cS a0 a1 a2 a3 a4 a5 a6 a7 a8 a9 a10 a11 a12 a13 a14 a15 a16 a17 a18 a19 a20 a21 a22 ppl psp psy psh tpl tsp tsy tsh kpl ksp ksy ksh bs bt sz nm fd ik psc pnc pdy pzz tsc tnc tdy tzz ksc knc kdy kzz ln so be en va) s.heap := hP
  rw [fX4_behindDays] at h
  refine lv_aload_n hx hb dX4_behindDays_0 rfl (lv_at hl 0 rfl) ?_
  refine va_get (D := D) (ci := 3) (v := .ref a6) (C := RX4) (T := TX4) (N := 7) hx hb hts hinX4 hown hE.1 hP 0 rfl rfl 1 (by decide) (hts _ (List.mem_of_getElem? (i := 1) rfl)) (fun _ h9 => h9) rfl dX4_behindDays_1 ?_
  refine lv_aload_n hx hb dX4_behindDays_4 rfl (lv_at hl 0 rfl) ?_
  refine va_get (D := D) (ci := 3) (v := .ref a1) (C := RX4) (T := TX4) (N := 7) hx hb hts hinX4 hown hE.1 hP 0 rfl rfl 0 (by decide) (hts _ (List.mem_of_getElem? (i := 2) rfl)) (fun _ h9 => h9) rfl dX4_behindDays_5 ?_
  have hPc := hP.sub (ws' := (wE2 cI cS a6 a7 a8 a9 a10 a1 a2 a3 a4 a5 tpl tsp tsy tsh ppl psp psy psh tsc tnc tdy tzz psc pnc pdy pzz)) [6, 7, 8, 9, 10, 1, 2, 3, 4, 5] rfl
  refine kMv (wf' := (wX4 cI cS a0 a1 a2 a3 a4 a5 a6 a7 a8 a9 a10 a11 a12 a13 a14 a15 a16 a17 a18 a19 a20 a21 a22 ppl psp psy psh (fX0_become_o0 tpl tsp tsy tsh ppl psp psy psh tsc tnc tdy tzz psc pnc pdy pzz) (fX0_become_o1 tpl tsp tsy tsh ppl psp psy psh tsc tnc tdy tzz psc pnc pdy pzz) (fX0_become_o2 tpl tsp tsy tsh ppl psp psy psh tsc tnc tdy tzz psc pnc pdy pzz) (fX0_become_o3 tpl tsp tsy tsh ppl psp psy psh tsc tnc tdy tzz psc pnc pdy pzz) kpl ksp ksy ksh bs bt sz nm fd ik psc pnc pdy pzz (fX0_become_o4 tpl tsp tsy tsh ppl psp psy psh tsc tnc tdy tzz psc pnc pdy pzz) (fX0_become_o5 tpl tsp tsy tsh ppl psp psy psh tsc tnc tdy tzz psc pnc pdy pzz) (fX0_become_o6 tpl tsp tsy tsh ppl psp psy psh tsc tnc tdy tzz psc pnc pdy pzz) (fX0_become_o7 tpl tsp tsy tsh ppl psp psy psh tsc tnc tdy tzz psc pnc pdy pzz) ksc knc kdy kzz ln so be en va)) [6, 7, 8, 9, 10, 1, 2, 3, 4, 5] [none, some 5, some 6, some 7, some 8, some 9, some 0, some 1, some 2, some 3, some 4, none, none, none, none, none, none, none, none, none, none, none, none] (rV C0 (tX0_become l D cI cS a6 a7 a8 a9 a10 a1 a2 a3 a4 a5 tpl tsp tsy tsh ppl psp psy psh tsc tnc tdy tzz psc pnc pdy pzz  (fX0_become_o0 tpl tsp tsy tsh ppl psp psy psh tsc tnc tdy tzz psc pnc pdy pzz) (fX0_become_o1 tpl tsp tsy tsh ppl psp psy psh tsc tnc tdy tzz psc pnc pdy pzz) (fX0_become_o2 tpl tsp tsy tsh ppl psp psy psh tsc tnc tdy tzz psc pnc pdy pzz) (fX0_become_o3 tpl tsp tsy tsh ppl psp psy psh tsc tnc tdy tzz psc pnc pdy pzz) (fX0_become_o4 tpl tsp tsy tsh ppl psp psy psh tsc tnc tdy tzz psc pnc pdy pzz) (fX0_become_o5 tpl tsp tsy tsh ppl psp psy psh tsc tnc tdy tzz psc pnc pdy pzz) (fX0_become_o6 tpl tsp tsy tsh ppl psp psy psh tsc tnc tdy tzz psc pnc pdy pzz) (fX0_become_o7 tpl tsp tsy tsh ppl psp psy psh tsc tnc tdy tzz psc pnc pdy pzz) (eeX0_become ..) (((hD (wX4 cI cS a0 a1 a2 a3 a4 a5 a6 a7 a8 a9 a10 a11 a12 a13 a14 a15 a16 a17 a18 a19 a20 a21 a22 ppl psp psy psh tpl tsp tsy tsh kpl ksp ksy ksh bs bt sz nm fd ik psc pnc pdy pzz tsc tnc tdy tzz ksc knc kdy kzz ln so be en va) rfl).sub [6, 7, 8, 9, 10, 1, 2, 3, 4, 5] (by decide) rfl).weaken (fun _ _ _ _ => trivial))) RX0 gX4_behindDays_X0_become rfl ⟨rfl, rfl⟩ pdX0_become rfl ⟨Nat.le_of_ble_eq_true rfl, Nat.le_of_ble_eq_true rfl⟩ (fun _ _ _ _ q => q) (va_recv hE.1 hPc (ci := 0) (q0 := 0) rfl rfl) (fun U hU _ _ => by rw [hU]; exact hPc) hl.1 rfl (Nat.le_of_ble_eq_true rfl) dX4_behindDays_8 ⟨Nat.zero_le _, Nat.zero_le _⟩) hP (hD _ rfl) hS rfl rfl rfl (fun H locs hP hS => ?_)
  refine lv_aload_n hx hb dX4_behindDays_11 rfl (lv_at hl 0 rfl) ?_
  refine va_get (D := D) (ci := 3) (v := .ref a6) (C := RX4) (T := TX4) (N := 7) hx hb hts hinX4 hown hE.1 hP 0 rfl rfl 1 (by decide) (hts _ (List.mem_of_getElem? (i := 1) rfl)) (fun _ h9 => h9) rfl dX4_behindDays_12 ?_
  refine lv_iload_n hx hb dX4_behindDays_15 rfl (lv_at hl 1 rfl) ?_
  refine lv_iload_n hx hb dX4_behindDays_16 rfl (lv_at hl 2 rfl) ?_
  obtain ⟨z_1, e_2, h⟩ := bds h
  have hPc := hP.sub (ws' := (wX0 cI cS a6 a7 a8 a9 a10 (fX0_become_o0 tpl tsp tsy tsh ppl psp psy psh tsc tnc tdy tzz psc pnc pdy pzz) (fX0_become_o1 tpl tsp tsy tsh ppl psp psy psh tsc tnc tdy tzz psc pnc pdy pzz) (fX0_become_o2 tpl tsp tsy tsh ppl psp psy psh tsc tnc tdy tzz psc pnc pdy pzz) (fX0_become_o3 tpl tsp tsy tsh ppl psp psy psh tsc tnc tdy tzz psc pnc pdy pzz) (fX0_become_o4 tpl tsp tsy tsh ppl psp psy psh tsc tnc tdy tzz psc pnc pdy pzz) (fX0_become_o5 tpl tsp tsy tsh ppl psp psy psh tsc tnc tdy tzz psc pnc pdy pzz) (fX0_become_o6 tpl tsp tsy tsh ppl psp psy psh tsc tnc tdy tzz psc pnc pdy pzz) (fX0_become_o7 tpl tsp tsy tsh ppl psp psy psh tsc tnc tdy tzz psc pnc pdy pzz))) [6, 7, 8, 9, 10] rfl
  refine kMv (wf' := (wX4 cI cS a0 a1 a2 a3 a4 a5 a6 a7 a8 a9 a10 a11 a12 a13 a14 a15 a16 a17 a18 a19 a20 a21 a22 ppl psp psy psh (fX0_become_o0 tpl tsp tsy tsh ppl psp psy psh tsc tnc tdy tzz psc pnc pdy pzz) (fX0_become_o1 tpl tsp tsy tsh ppl psp psy psh tsc tnc tdy tzz psc pnc pdy pzz) z_1.1 z_1.2.1 kpl ksp ksy ksh bs bt sz nm fd ik psc pnc pdy pzz (fX0_become_o4 tpl tsp tsy tsh ppl psp psy psh tsc tnc tdy tzz psc pnc pdy pzz) (fX0_become_o5 tpl tsp tsy tsh ppl psp psy psh tsc tnc tdy tzz psc pnc pdy pzz) z_1.2.2 (fX0_become_o7 tpl tsp tsy tsh ppl psp psy psh tsc tnc tdy tzz psc pnc pdy pzz) ksc knc kdy kzz ln so be en va)) [6, 7, 8, 9, 10] [none, none, none, none, none, none, some 0, some 1, some 2, some 3, some 4, none, none, none, none, none, none, none, none, none, none, none, none] (rV C0 (tX0_passDays l D cI cS F a6 a7 a8 a9 a10 (fX0_become_o0 tpl tsp tsy tsh ppl psp psy psh tsc tnc tdy tzz psc pnc pdy pzz) (fX0_become_o1 tpl tsp tsy tsh ppl psp psy psh tsc tnc tdy tzz psc pnc pdy pzz) (fX0_become_o2 tpl tsp tsy tsh ppl psp psy psh tsc tnc tdy tzz psc pnc pdy pzz) (fX0_become_o3 tpl tsp tsy tsh ppl psp psy psh tsc tnc tdy tzz psc pnc pdy pzz) (fX0_become_o4 tpl tsp tsy tsh ppl psp psy psh tsc tnc tdy tzz psc pnc pdy pzz) (fX0_become_o5 tpl tsp tsy tsh ppl psp psy psh tsc tnc tdy tzz psc pnc pdy pzz) (fX0_become_o6 tpl tsp tsy tsh ppl psp psy psh tsc tnc tdy tzz psc pnc pdy pzz) (fX0_become_o7 tpl tsp tsy tsh ppl psp psy psh tsc tnc tdy tzz psc pnc pdy pzz) v1 v2 z_1.1 z_1.2.1 z_1.2.2 e_2 (((hD (wX4 cI cS a0 a1 a2 a3 a4 a5 a6 a7 a8 a9 a10 a11 a12 a13 a14 a15 a16 a17 a18 a19 a20 a21 a22 ppl psp psy psh (fX0_become_o0 tpl tsp tsy tsh ppl psp psy psh tsc tnc tdy tzz psc pnc pdy pzz) (fX0_become_o1 tpl tsp tsy tsh ppl psp psy psh tsc tnc tdy tzz psc pnc pdy pzz) (fX0_become_o2 tpl tsp tsy tsh ppl psp psy psh tsc tnc tdy tzz psc pnc pdy pzz) (fX0_become_o3 tpl tsp tsy tsh ppl psp psy psh tsc tnc tdy tzz psc pnc pdy pzz) kpl ksp ksy ksh bs bt sz nm fd ik psc pnc pdy pzz (fX0_become_o4 tpl tsp tsy tsh ppl psp psy psh tsc tnc tdy tzz psc pnc pdy pzz) (fX0_become_o5 tpl tsp tsy tsh ppl psp psy psh tsc tnc tdy tzz psc pnc pdy pzz) (fX0_become_o6 tpl tsp tsy tsh ppl psp psy psh tsc tnc tdy tzz psc pnc pdy pzz) (fX0_become_o7 tpl tsp tsy tsh ppl psp psy psh tsc tnc tdy tzz psc pnc pdy pzz) ksc knc kdy kzz ln so be en va) rfl).sub [6, 7, 8, 9, 10] (by decide) rfl).weaken (fun _ _ _ _ => trivial))) RX0 gX4_behindDays_X0_passDays rfl ⟨rfl, rfl⟩ pdX0_passDays rfl ⟨Nat.le_of_ble_eq_true rfl, Nat.le_of_ble_eq_true rfl⟩ (fun _ _ _ _ q => q) (va_recv hE.1 hPc (ci := 0) (q0 := 0) rfl rfl) (fun U hU _ _ => by rw [hU]; exact hPc) hl.1 rfl (Nat.le_of_ble_eq_true rfl) dX4_behindDays_17 ⟨Nat.zero_le _, Nat.zero_le _⟩) hP (hD _ rfl) hS rfl rfl rfl (fun H locs hP hS => ?_)
  refine lv_aload_n hx hb dX4_behindDays_20 rfl (lv_at hl 0 rfl) ?_
  refine va_get (D := D) (ci := 3) (v := .ref a6) (C := RX4) (T := TX4) (N := 7) hx hb hts hinX4 hown hE.1 hP 0 rfl rfl 1 (by decide) (hts _ (List.mem_of_getElem? (i := 1) rfl)) (fun _ h9 => h9) rfl dX4_behindDays_21 ?_
  obtain ⟨q0, g0⟩ := Prod.mk.inj (Option.some.inj h)
  obtain ⟨q1, g1⟩ := Prod.mk.inj g0
  obtain ⟨q2, g2⟩ := Prod.mk.inj g1
  obtain ⟨q3, g3⟩ := Prod.mk.inj g2
  obtain ⟨q4, g4⟩ := Prod.mk.inj g3
  obtain ⟨q5, g5⟩ := Prod.mk.inj g4
  obtain ⟨q6, q7⟩ := Prod.mk.inj g5
  subst q0 q1 q2 q3 q4 q5 q6 q7
  exact eMa C0 hP hS rfl dX4_behindDays_24
