def fX4_faultOfTold (bt : Nat → Int32) (psc : Int32) (v1 : Int32) (v2 : Int32) : Int32 := (if (fX4_faultOfSheet bt v1) = 0 then (if (fX0_hasSaying psc v2) = 0 then (-1000001) else 0) else (fX4_faultOfSheet bt v1))
abbrev rmX4_faultOfTold : Room := { frames := 4, cells := 0, slots := 0, locals := 84 }
theorem pdX4_faultOfTold : (yX4_faultOfTold.cls = RX4 ∧ yX4_faultOfTold.cls ≠ "java/lang/invoke/MethodHandle" ∧ yX4_faultOfTold.cls ≠ "java/lang/invoke/VarHandle" ∧ (parseMethodDescriptor yX4_faultOfTold.desc).map (fun d => d.parameters.length) = some 2) := by decide +kernel
set_option maxHeartbeats 4000000 in
set_option maxRecDepth 100000 in
theorem tX4_faultOfTold (l : Launch) (D : va_G) (cI cS : ClassId) (a0 a1 a2 a3 a4 a5 a6 a7 a8 a9 a10 a11 a12 a13 a14 a15 a16 a17 a18 a19 a20 a21 a22 : Nat) (ppl : Nat → Int32) (psp : Nat → Int32) (psy : Nat → Int32) (psh : Nat → Int32) (tpl : Nat → Int32) (tsp : Nat → Int32) (tsy : Nat → Int32) (tsh : Nat → Int32) (kpl : Nat → Int32) (ksp : Nat → Int32) (ksy : Nat → Int32) (ksh : Nat → Int32) (bs : Nat → Int32) (bt : Nat → Int32) (sz : Nat → Int32) (nm : Nat → Int32) (fd : Nat → Int32) (ik : Int32) (psc : Int32) (pnc : Int32) (pdy : Int32) (pzz : Int32) (tsc : Int32) (tnc : Int32) (tdy : Int32) (tzz : Int32) (ksc : Int32) (knc : Int32) (kdy : Int32) (kzz : Int32) (ln : Int32) (so : Int32) (be : Int32) (en : Int32) (va : Int32) (v1 : Int32) (v2 : Int32) (z0 : Int32) (h : fX4_faultOfTold bt psc v1 v2 = z0) : Met l yX4_faultOfTold wsX4_faultOfTold rmX4_faultOfTold (PZ D cI cS [.ref a0, .int v1, .int v2] (fun U => va_P D vwCl (wX4 cI cS a0 a1 a2 a3 a4 a5 a6 a7 a8 a9 a10 a11 a12 a13 a14 a15 a16 a17 a18 a19 a20 a21 a22 ppl psp psy psh tpl tsp tsy tsh kpl ksp ksy ksh bs bt sz nm fd ik psc pnc pdy pzz tsc tnc tdy tzz ksc knc kdy kzz ln so be en va) U.heap)) (vp_Si (fun x => x = z0)) 0 0 (fun _ => False) := by
  refine Met.mk RX4 (by decide) rfl rfl (Nat.le_of_ble_eq_true rfl) ?_
  intro p e s m below meth c ls C0 hP hl
  have hl : lv_has ls 4 [(0, .ref a0), (1, .int v1), (2, .int v2)] := hl
  obtain ⟨hx, hb, hr, hml, hown, hts, hlk, hE⟩ := id C0
  have hinX4 : ∀ w ∈ u_ws RX4 TX4 7, w ∈ wsX4_faultOfTold := by decide +kernel
  rw [fX4_faultOfTold] at h
  refine lv_aload_n hx hb dX4_faultOfTold_0 rfl (lv_at hl 0 rfl) ?_
  refine lv_iload_n hx hb dX4_faultOfTold_1 rfl (lv_at hl 1 rfl) ?_
  have hPc := hP.sub (ws' := (wX4 cI cS a0 a1 a2 a3 a4 a5 a6 a7 a8 a9 a10 a11 a12 a13 a14 a15 a16 a17 a18 a19 a20 a21 a22 ppl psp psy psh tpl tsp tsy tsh kpl ksp ksy ksh bs bt sz nm fd ik psc pnc pdy pzz tsc tnc tdy tzz ksc knc kdy kzz ln so be en va)) [0, 1, 2, 3, 4, 5, 6, 7, 8, 9, 10, 11, 12, 13, 14, 15, 16, 17, 18, 19, 20, 21, 22] rfl
  refine kRi (rV C0 (tX4_faultOfSheet l D cI cS a0 a1 a2 a3 a4 a5 a6 a7 a8 a9 a10 a11 a12 a13 a14 a15 a16 a17 a18 a19 a20 a21 a22 ppl psp psy psh tpl tsp tsy tsh kpl ksp ksy ksh bs bt sz nm fd ik psc pnc pdy pzz tsc tnc tdy tzz ksc knc kdy kzz ln so be en va v1 (fX4_faultOfSheet bt v1) rfl) RX4 gX4_faultOfTold_X4_faultOfSheet rfl ⟨rfl, rfl⟩ pdX4_faultOfSheet rfl ⟨Nat.le_of_ble_eq_true rfl, Nat.le_of_ble_eq_true rfl⟩ (fun _ _ _ _ q => q) (va_recv hE.1 hPc (ci := 3) (q0 := 0) rfl rfl) (fun U hU _ _ => by rw [hU]; exact hPc) hl.1 rfl (Nat.le_of_ble_eq_true rfl) dX4_faultOfTold_2 ⟨Nat.zero_le _, Nat.zero_le _⟩) ?_
  refine lv_istore_n (lv' := [(3, .int (fX4_faultOfSheet bt v1)), (0, .ref a0), (1, .int v1), (2, .int v2)]) hx hb dX4_faultOfTold_5 rfl hl (by decide) rfl (fun ls hl => ?_)
  refine lv_iload_n hx hb dX4_faultOfTold_6 rfl (lv_at hl 0 rfl) ?_
  refine lv_if_eq (tgt := 12) hx hb dX4_faultOfTold_7 (by decide) (fun c_1 => ?_) (fun c_1 => ?_)
  · have h := ifp c_1 h
    refine lv_aload_n hx hb dX4_faultOfTold_12 rfl (lv_at hl 1 rfl) ?_
    refine va_get (D := D) (ci := 3) (v := .ref a1) (C := RX4) (T := TX4) (N := 7) hx hb hts hinX4 hown hE.1 hP 0 rfl rfl 0 (by decide) (hts _ (List.mem_of_getElem? (i := 1) rfl)) (fun _ h9 => h9) rfl dX4_faultOfTold_13 ?_
    refine lv_iload_n hx hb dX4_faultOfTold_16 rfl (lv_at hl 3 rfl) ?_
    have hPc := hP.sub (ws' := (wX0 cI cS a1 a2 a3 a4 a5 ppl psp psy psh psc pnc pdy pzz)) [1, 2, 3, 4, 5] rfl
    refine kRi (rV C0 (tX0_hasSaying l D cI cS a1 a2 a3 a4 a5 ppl psp psy psh psc pnc pdy pzz v2 (fX0_hasSaying psc v2) rfl) RX0 gX4_faultOfTold_X0_hasSaying rfl ⟨rfl, rfl⟩ pdX0_hasSaying rfl ⟨Nat.le_of_ble_eq_true rfl, Nat.le_of_ble_eq_true rfl⟩ (fun _ _ _ _ q => q) (va_recv hE.1 hPc (ci := 0) (q0 := 0) rfl rfl) (fun U hU _ _ => by rw [hU]; exact hPc) hl.1 rfl (Nat.le_of_ble_eq_true rfl) dX4_faultOfTold_17 ⟨Nat.zero_le _, Nat.zero_le _⟩) ?_
    refine lv_if_eq (tgt := 27) hx hb dX4_faultOfTold_20 (by decide) (fun c_2 => ?_) (fun c_2 => ?_)
    · have h := ifp c_2 h
      refine lv_ldc (v := (-1000001)) hx hb hown (hts _ (List.mem_of_getElem? (i := 2) rfl)) dX4_faultOfTold_27 ?_
      exact eRi C0 h dX4_faultOfTold_29
    · have h := ifn c_2 h
      refine lv_iconst (v := 0) hx hb dX4_faultOfTold_23 (by decide) ?_
      refine lv_goto (tgt := 29) hx hb dX4_faultOfTold_24 (by decide) ?_
      exact eRi C0 h dX4_faultOfTold_29
  · have h := ifn c_1 h
    refine lv_iload_n hx hb dX4_faultOfTold_10 rfl (lv_at hl 0 rfl) ?_
    exact eRi C0 h dX4_faultOfTold_11
def fX4_isAsTold_51 (F : Nat) (tpl : Nat → Int32) (tsp : Nat → Int32) (nm : Nat → Int32) (tsc : Int32) (tnc : Int32) (tzz : Int32) (v1 : Int32) (v5 : Int32) (v6 : Int32) : Nat → Int32 → (Nat → Int32) → (Nat → Int32) → Int32 → Option (Int32 × (Nat → Int32) × (Nat → Int32) × (Nat → Int32) × (Nat → Int32) × Int32 × Int32 × Int32 × Int32)
  | 0, _, _, _, _ => none
  | n + 1, v7, tsy, tsh, tdy => (if v6 ≤ v7 then some (1, tpl, tsp, tsy, tsh, tsc, tnc, tdy, tzz) else (if (fX2_numberOf nm v1 v7) = (-1) then Option.bind (fX0_passDays F tpl tsy tsh tsc tnc tdy 1 0) (fun z_3 => fX4_isAsTold_51 F tpl tsp nm tsc tnc tzz v1 v5 v6 n (v7 + 1) z_3.1 z_3.2.1 z_3.2.2) else Option.bind (fX0_thickAt F tsy tsc v5) (fun z_5 => (if (fX2_numberOf nm v1 v7) = z_5 then Option.bind (fX0_passDays F tpl tsy tsh tsc tnc tdy 1 0) (fun z_8 => fX4_isAsTold_51 F tpl tsp nm tsc tnc tzz v1 v5 v6 n (v7 + 1) z_8.1 z_8.2.1 z_8.2.2) else some (0, tpl, tsp, tsy, tsh, tsc, tnc, tdy, tzz)))))
def fX4_isAsTold (F : Nat) (ppl : Nat → Int32) (psp : Nat → Int32) (psy : Nat → Int32) (psh : Nat → Int32) (tpl : Nat → Int32) (tsp : Nat → Int32) (tsy : Nat → Int32) (tsh : Nat → Int32) (sz : Nat → Int32) (nm : Nat → Int32) (psc : Int32) (pnc : Int32) (pdy : Int32) (pzz : Int32) (tsc : Int32) (tnc : Int32) (tdy : Int32) (tzz : Int32) (v1 : Int32) (v2 : Int32) (v3 : Int32) (v4 : Int32) : Option (Int32 × (Nat → Int32) × (Nat → Int32) × (Nat → Int32) × (Nat → Int32) × Int32 × Int32 × Int32 × Int32) := fX4_isAsTold_51 F (fX0_become_o0 tpl tsp tsy tsh ppl psp psy psh tsc tnc tdy tzz psc pnc pdy pzz) (fX0_become_o1 tpl tsp tsy tsh ppl psp psy psh tsc tnc tdy tzz psc pnc pdy pzz) nm (fX0_become_o4 tpl tsp tsy tsh ppl psp psy psh tsc tnc tdy tzz psc pnc pdy pzz) (fX0_become_o5 tpl tsp tsy tsh ppl psp psy psh tsc tnc tdy tzz psc pnc pdy pzz) (fX0_become_o7 tpl tsp tsy tsh ppl psp psy psh tsc tnc tdy tzz psc pnc pdy pzz) v1 (fX0_sayingHas (fX0_setOfSaying (fX0_become_o2 tpl tsp tsy tsh ppl psp psy psh tsc tnc tdy tzz psc pnc pdy pzz) v2 v3 v4) v2 1) (if 8 < (fX2_sizeOf sz v1) then 8 else (fX2_sizeOf sz v1)) F 0 (fX0_setOfSaying (fX0_become_o2 tpl tsp tsy tsh ppl psp psy psh tsc tnc tdy tzz psc pnc pdy pzz) v2 v3 v4) (fX0_become_o3 tpl tsp tsy tsh ppl psp psy psh tsc tnc tdy tzz psc pnc pdy pzz) (fX0_become_o6 tpl tsp tsy tsh ppl psp psy psh tsc tnc tdy tzz psc pnc pdy pzz)
abbrev rmX4_isAsTold : Room := { frames := 5, cells := 0, slots := 0, locals := 120 }
theorem pdX4_isAsTold : (yX4_isAsTold.cls = RX4 ∧ yX4_isAsTold.cls ≠ "java/lang/invoke/MethodHandle" ∧ yX4_isAsTold.cls ≠ "java/lang/invoke/VarHandle" ∧ (parseMethodDescriptor yX4_isAsTold.desc).map (fun d => d.parameters.length) = some 4) := by decide +kernel
set_option maxHeartbeats 4000000 in
set_option maxRecDepth 100000 in
theorem lX4_isAsTold_51 {p : Program} {l : Launch} {e : Env} {s : State} {m : MethodId} {av : Array Value} {below : List Frame} {meth : Method} {c : Code} {D : va_G} {cI cS : ClassId} {a0 a1 a2 a3 a4 a5 a6 a7 a8 a9 a10 a11 a12 a13 a14 a15 a16 a17 a18 a19 a20 a21 a22 : Nat} {W0 : va_W} (C0 : CX p s m av meth c RX4 cX4_isAsTold 9 (some .boolean) wsX4_isAsTold D cI cS) (F : Nat) (ppl : Nat → Int32) (psp : Nat → Int32) (psy : Nat → Int32) (psh : Nat → Int32) (tpl : Nat → Int32) (tsp : Nat → Int32) (kpl : Nat → Int32) (ksp : Nat → Int32) (ksy : Nat → Int32) (ksh : Nat → Int32) (bs : Nat → Int32) (bt : Nat → Int32) (sz : Nat → Int32) (nm : Nat → Int32) (fd : Nat → Int32) (ik : Int32) (psc : Int32) (pnc : Int32) (pdy : Int32) (pzz : Int32) (tsc : Int32) (tnc : Int32) (tzz : Int32) (ksc : Int32) (knc : Int32) (kdy : Int32) (kzz : Int32) (ln : Int32) (so : Int32) (be : Int32) (en : Int32) (va : Int32) (v1 : Int32) (v5 : Int32) (v6 : Int32) (z0 : Int32) (z1 : Nat → Int32) (z2 : Nat → Int32) (z3 : Nat → Int32) (z4 : Nat → Int32) (z5 : Int32) (z6 : Int32) (z7 : Int32) (z8 : Int32) (hD : ∀ W : va_W, W.map Prod.fst = [a0, a1, a2, a3, a4, a5, a6, a7, a8, a9, a10, a11, a12, a13, a14, a15, a16, a17, a18, a19, a20, a21, a22] → va_D (wA W0) W) : ∀ (n : Nat) (v7 : Int32) (tsy : Nat → Int32) (tsh : Nat → Int32) (tdy : Int32) (H : Heap) (locs : List Loc), va_P D vwCl (wX4 cI cS a0 a1 a2 a3 a4 a5 a6 a7 a8 a9 a10 a11 a12 a13 a14 a15 a16 a17 a18 a19 a20 a21 a22 ppl psp psy psh tpl tsp tsy tsh kpl ksp ksy ksh bs bt sz nm fd ik psc pnc pdy pzz tsc tnc tdy tzz ksc knc kdy kzz ln so be en va) H → va_S (wA W0) s.heap H locs → ∀ (ls : Array Slot), lv_has ls 9 [(0, .ref a0), (1, .int v1), (5, .int v5), (6, .int v6), (7, .int v7)] → fX4_isAsTold_51 F tpl tsp nm tsc tnc tzz v1 v5 v6 n v7 tsy tsh tdy = some (z0, z1, z2, z3, z4, z5, z6, z7, z8) → W p l e rmX4_isAsTold s m av below meth c H locs 0 0 (MQ below (qI D W0 (wX4 cI cS a0 a1 a2 a3 a4 a5 a6 a7 a8 a9 a10 a11 a12 a13 a14 a15 a16 a17 a18 a19 a20 a21 a22 ppl psp psy psh z1 z2 z3 z4 kpl ksp ksy ksh bs bt sz nm fd ik psc pnc pdy pzz z5 z6 z7 z8 ksc knc kdy kzz ln so be en va) z0) av s 0 0 (wA W0)) (F0 m 51 ls []) := by
  obtain ⟨hx, hb, hr, hml, hown, hts, hlk, hE⟩ := id C0
  have hinX4 : ∀ w ∈ u_ws RX4 TX4 7, w ∈ wsX4_isAsTold := by decide +kernel
  intro n
  induction n with
  | zero =>
    intro v7 tsy tsh tdy H locs hP hS ls hl h
    cases (show none = some (z0, z1, z2, z3, z4, z5, z6, z7, z8) from h)
  | succ n ih =>
    intro v7 tsy tsh tdy H locs hP hS ls hl h
    rw [fX4_isAsTold_51] at h
    refine lv_iload hx hb dX4_isAsTold_51 (lv_at hl 4 rfl) ?_
    refine lv_iload hx hb dX4_isAsTold_53 (lv_at hl 3 rfl) ?_
    refine lv_icmp_ge (tgt := 107) hx hb dX4_isAsTold_55 (by decide) (fun c_1 => ?_) (fun c_1 => ?_)
    · have h := ifp c_1 h
      refine lv_iconst (v := 1) hx hb dX4_isAsTold_107 (by decide) ?_
      obtain ⟨q0, g0⟩ := Prod.mk.inj (Option.some.inj h)
      obtain ⟨q1, g1⟩ := Prod.mk.inj g0
      obtain ⟨q2, g2⟩ := Prod.mk.inj g1
      obtain ⟨q3, g3⟩ := Prod.mk.inj g2
      obtain ⟨q4, g4⟩ := Prod.mk.inj g3
      obtain ⟨q5, g5⟩ := Prod.mk.inj g4
      obtain ⟨q6, g6⟩ := Prod.mk.inj g5
      obtain ⟨q7, q8⟩ := Prod.mk.inj g6
      subst q0 q1 q2 q3 q4 q5 q6 q7 q8
      exact eMz C0 hP hS rfl rfl rfl dX4_isAsTold_108
    · have h := ifn c_1 h
      refine lv_aload_n hx hb dX4_isAsTold_58 rfl (lv_at hl 0 rfl) ?_
      refine va_get (D := D) (ci := 3) (v := .ref a18) (C := RX4) (T := TX4) (N := 7) hx hb hts hinX4 hown hE.1 hP 0 rfl rfl 5 (by decide) (hts _ (List.mem_of_getElem? (i := 3) rfl)) (fun _ h9 => h9) rfl dX4_isAsTold_59 ?_
      refine lv_iload_n hx hb dX4_isAsTold_62 rfl (lv_at hl 1 rfl) ?_
      refine lv_iload hx hb dX4_isAsTold_63 (lv_at hl 4 rfl) ?_
      have hPc := hP.sub (ws' := (wX2 cI cS a18 a19 a20 a21 bt sz nm)) [18, 19, 20, 21] rfl
      refine kRi (rV C0 (tX2_numberOf l D cI cS a18 a19 a20 a21 bt sz nm v1 v7 (fX2_numberOf nm v1 v7) rfl) RX2 gX4_isAsTold_X2_numberOf rfl ⟨rfl, rfl⟩ pdX2_numberOf rfl ⟨Nat.le_of_ble_eq_true rfl, Nat.le_of_ble_eq_true rfl⟩ (fun _ _ _ _ q => q) (va_recv hE.1 hPc (ci := 1) (q0 := 0) rfl rfl) (fun U hU _ _ => by rw [hU]; exact hPc) hl.1 rfl (Nat.le_of_ble_eq_true rfl) dX4_isAsTold_65 ⟨Nat.zero_le _, Nat.zero_le _⟩) ?_
      refine lv_istore (lv' := [(8, .int (fX2_numberOf nm v1 v7)), (0, .ref a0), (1, .int v1), (5, .int v5), (6, .int v6), (7, .int v7)]) hx hb dX4_isAsTold_68 hl (by decide) rfl (fun ls hl => ?_)
      refine lv_iload hx hb dX4_isAsTold_70 (lv_at hl 0 rfl) ?_
      refine lv_iconst (v := (-1)) hx hb dX4_isAsTold_72 (by decide) ?_
      refine lv_icmp_eq (tgt := 92) hx hb dX4_isAsTold_73 (by decide) (fun c_2 => ?_) (fun c_2 => ?_)
      · have h := ifp c_2 h
        refine lv_aload_n hx hb dX4_isAsTold_92 rfl (lv_at hl 1 rfl) ?_
        refine va_get (D := D) (ci := 3) (v := .ref a6) (C := RX4) (T := TX4) (N := 7) hx hb hts hinX4 hown hE.1 hP 0 rfl rfl 1 (by decide) (hts _ (List.mem_of_getElem? (i := 1) rfl)) (fun _ h9 => h9) rfl dX4_isAsTold_93 ?_
        refine lv_iconst (v := 1) hx hb dX4_isAsTold_96 (by decide) ?_
        refine lv_iconst (v := 0) hx hb dX4_isAsTold_97 (by decide) ?_
        obtain ⟨z_3, e_4, h⟩ := bds h
        have hPc := hP.sub (ws' := (wX0 cI cS a6 a7 a8 a9 a10 tpl tsp tsy tsh tsc tnc tdy tzz)) [6, 7, 8, 9, 10] rfl
        refine kMv (wf' := (wX4 cI cS a0 a1 a2 a3 a4 a5 a6 a7 a8 a9 a10 a11 a12 a13 a14 a15 a16 a17 a18 a19 a20 a21 a22 ppl psp psy psh tpl tsp z_3.1 z_3.2.1 kpl ksp ksy ksh bs bt sz nm fd ik psc pnc pdy pzz tsc tnc z_3.2.2 tzz ksc knc kdy kzz ln so be en va)) [6, 7, 8, 9, 10] [none, none, none, none, none, none, some 0, some 1, some 2, some 3, some 4, none, none, none, none, none, none, none, none, none, none, none, none] (rV C0 (tX0_passDays l D cI cS F a6 a7 a8 a9 a10 tpl tsp tsy tsh tsc tnc tdy tzz 1 0 z_3.1 z_3.2.1 z_3.2.2 e_4 (((hD (wX4 cI cS a0 a1 a2 a3 a4 a5 a6 a7 a8 a9 a10 a11 a12 a13 a14 a15 a16 a17 a18 a19 a20 a21 a22 ppl psp psy psh tpl tsp tsy tsh kpl ksp ksy ksh bs bt sz nm fd ik psc pnc pdy pzz tsc tnc tdy tzz ksc knc kdy kzz ln so be en va) rfl).sub [6, 7, 8, 9, 10] (by decide) rfl).weaken (fun _ _ _ _ => trivial))) RX0 gX4_isAsTold_X0_passDays rfl ⟨rfl, rfl⟩ pdX0_passDays rfl ⟨Nat.le_of_ble_eq_true rfl, Nat.le_of_ble_eq_true rfl⟩ (fun _ _ _ _ q => q) (va_recv hE.1 hPc (ci := 0) (q0 := 0) rfl rfl) (fun U hU _ _ => by rw [hU]; exact hPc) hl.1 rfl (Nat.le_of_ble_eq_true rfl) dX4_isAsTold_98 ⟨Nat.zero_le _, Nat.zero_le _⟩) hP (hD _ rfl) hS rfl rfl rfl (fun H locs hP hS => ?_)
        refine lv_iinc (v := v7 + 1) (lv' := [(7, .int (v7 + 1)), (8, .int (fX2_numberOf nm v1 v7)), (0, .ref a0), (1, .int v1), (5, .int v5), (6, .int v6)]) hx hb dX4_isAsTold_101 hl (k := 5) rfl rfl (by decide) rfl (fun ls hl => ?_)
        refine lv_goto (tgt := 51) hx hb dX4_isAsTold_104 (by decide) ?_
        exact ih (v7 + 1) z_3.1 z_3.2.1 z_3.2.2 _ _ hP hS _ (lv_sub hl [2, 3, 4, 5, 0] rfl) h
      · have h := ifn c_2 h
        refine lv_iload hx hb dX4_isAsTold_76 (lv_at hl 0 rfl) ?_
        refine lv_aload_n hx hb dX4_isAsTold_78 rfl (lv_at hl 1 rfl) ?_
        refine va_get (D := D) (ci := 3) (v := .ref a6) (C := RX4) (T := TX4) (N := 7) hx hb hts hinX4 hown hE.1 hP 0 rfl rfl 1 (by decide) (hts _ (List.mem_of_getElem? (i := 1) rfl)) (fun _ h9 => h9) rfl dX4_isAsTold_79 ?_
        refine lv_iload hx hb dX4_isAsTold_82 (lv_at hl 3 rfl) ?_
        obtain ⟨z_5, e_6, h⟩ := bds h
        have hPc := hP.sub (ws' := (wX0 cI cS a6 a7 a8 a9 a10 tpl tsp tsy tsh tsc tnc tdy tzz)) [6, 7, 8, 9, 10] rfl
        refine kRi (rV C0 (tX0_thickAt l D cI cS F a6 a7 a8 a9 a10 tpl tsp tsy tsh tsc tnc tdy tzz v5 z_5 e_6) RX0 gX4_isAsTold_X0_thickAt rfl ⟨rfl, rfl⟩ pdX0_thickAt rfl ⟨Nat.le_of_ble_eq_true rfl, Nat.le_of_ble_eq_true rfl⟩ (fun _ _ _ _ q => q) (va_recv hE.1 hPc (ci := 0) (q0 := 0) rfl rfl) (fun U hU _ _ => by rw [hU]; exact hPc) hl.1 rfl (Nat.le_of_ble_eq_true rfl) dX4_isAsTold_84 ⟨Nat.zero_le _, Nat.zero_le _⟩) ?_
        refine lv_icmp_eq (tgt := 92) hx hb dX4_isAsTold_87 (by decide) (fun c_7 => ?_) (fun c_7 => ?_)
        · have h := ifp c_7 h
          refine lv_aload_n hx hb dX4_isAsTold_92 rfl (lv_at hl 1 rfl) ?_
          refine va_get (D := D) (ci := 3) (v := .ref a6) (C := RX4) (T := TX4) (N := 7) hx hb hts hinX4 hown hE.1 hP 0 rfl rfl 1 (by decide) (hts _ (List.mem_of_getElem? (i := 1) rfl)) (fun _ h9 => h9) rfl dX4_isAsTold_93 ?_
          refine lv_iconst (v := 1) hx hb dX4_isAsTold_96 (by decide) ?_
          refine lv_iconst (v := 0) hx hb dX4_isAsTold_97 (by decide) ?_
          obtain ⟨z_8, e_9, h⟩ := bds h
          have hPc := hP.sub (ws' := (wX0 cI cS a6 a7 a8 a9 a10 tpl tsp tsy tsh tsc tnc tdy tzz)) [6, 7, 8, 9, 10] rfl
          refine kMv (wf' := (wX4 cI cS a0 a1 a2 a3 a4 a5 a6 a7 a8 a9 a10 a11 a12 a13 a14 a15 a16 a17 a18 a19 a20 a21 a22 ppl psp psy psh tpl tsp z_8.1 z_8.2.1 kpl ksp ksy ksh bs bt sz nm fd ik psc pnc pdy pzz tsc tnc z_8.2.2 tzz ksc knc kdy kzz ln so be en va)) [6, 7, 8, 9, 10] [none, none, none, none, none, none, some 0, some 1, some 2, some 3, some 4, none, none, none, none, none, none, none, none, none, none, none, none] (rV C0 (tX0_passDays l D cI cS F a6 a7 a8 a9 a10 tpl tsp tsy tsh tsc tnc tdy tzz 1 0 z_8.1 z_8.2.1 z_8.2.2 e_9 (((hD (wX4 cI cS a0 a1 a2 a3 a4 a5 a6 a7 a8 a9 a10 a11 a12 a13 a14 a15 a16 a17 a18 a19 a20 a21 a22 ppl psp psy psh tpl tsp tsy tsh kpl ksp ksy ksh bs bt sz nm fd ik psc pnc pdy pzz tsc tnc tdy tzz ksc knc kdy kzz ln so be en va) rfl).sub [6, 7, 8, 9, 10] (by decide) rfl).weaken (fun _ _ _ _ => trivial))) RX0 gX4_isAsTold_X0_passDays rfl ⟨rfl, rfl⟩ pdX0_passDays rfl ⟨Nat.le_of_ble_eq_true rfl, Nat.le_of_ble_eq_true rfl⟩ (fun _ _ _ _ q => q) (va_recv hE.1 hPc (ci := 0) (q0 := 0) rfl rfl) (fun U hU _ _ => by rw [hU]; exact hPc) hl.1 rfl (Nat.le_of_ble_eq_true rfl) dX4_isAsTold_98 ⟨Nat.zero_le _, Nat.zero_le _⟩) hP (hD _ rfl) hS rfl rfl rfl (fun H locs hP hS => ?_)
          refine lv_iinc (v := v7 + 1) (lv' := [(7, .int (v7 + 1)), (8, .int (fX2_numberOf nm v1 v7)), (0, .ref a0), (1, .int v1), (5, .int v5), (6, .int v6)]) hx hb dX4_isAsTold_101 hl (k := 5) rfl rfl (by decide) rfl (fun ls hl => ?_)
          refine lv_goto (tgt := 51) hx hb dX4_isAsTold_104 (by decide) ?_
          exact ih (v7 + 1) z_8.1 z_8.2.1 z_8.2.2 _ _ hP hS _ (lv_sub hl [2, 3, 4, 5, 0] rfl) h
        · have h := ifn c_7 h
          refine lv_iconst (v := 0) hx hb dX4_isAsTold_90 (by decide) ?_
          obtain ⟨q0, g0⟩ := Prod.mk.inj (Option.some.inj h)
          obtain ⟨q1, g1⟩ := Prod.mk.inj g0
          obtain ⟨q2, g2⟩ := Prod.mk.inj g1
          obtain ⟨q3, g3⟩ := Prod.mk.inj g2
          obtain ⟨q4, g4⟩ := Prod.mk.inj g3
          obtain ⟨q5, g5⟩ := Prod.mk.inj g4
          obtain ⟨q6, g6⟩ := Prod.mk.inj g5
          obtain ⟨q7, q8⟩ := Prod.mk.inj g6
          subst q0 q1 q2 q3 q4 q5 q6 q7 q8
          exact eMz C0 hP hS rfl rfl rfl dX4_isAsTold_91
set_option maxHeartbeats 4000000 in
set_option maxRecDepth 100000 in
theorem tX4_isAsTold (l : Launch) (D : va_G) (cI cS : ClassId) (F : Nat) (a0 a1 a2 a3 a4 a5 a6 a7 a8 a9 a10 a11 a12 a13 a14 a15 a16 a17 a18 a19 a20 a21 a22 : Nat) (ppl : Nat → Int32) (psp : Nat → Int32) (psy : Nat → Int32) (psh : Nat → Int32) (tpl : Nat → Int32) (tsp : Nat → Int32) (tsy : Nat → Int32) (tsh : Nat → Int32) (kpl : Nat → Int32) (ksp : Nat → Int32) (ksy : Nat → Int32) (ksh : Nat → Int32) (bs : Nat → Int32) (bt : Nat → Int32) (sz : Nat → Int32) (nm : Nat → Int32) (fd : Nat → Int32) (ik : Int32) (psc : Int32) (pnc : Int32) (pdy : Int32) (pzz : Int32) (tsc : Int32) (tnc : Int32) (tdy : Int32) (tzz : Int32) (ksc : Int32) (knc : Int32) (kdy : Int32) (kzz : Int32) (ln : Int32) (so : Int32) (be : Int32) (en : Int32) (va : Int32) (v1 : Int32) (v2 : Int32) (v3 : Int32) (v4 : Int32) (z0 : Int32) (z1 : Nat → Int32) (z2 : Nat → Int32) (z3 : Nat → Int32) (z4 : Nat → Int32) (z5 : Int32) (z6 : Int32) (z7 : Int32) (z8 : Int32) (h : fX4_isAsTold F ppl psp psy psh tpl tsp tsy tsh sz nm psc pnc pdy pzz tsc tnc tdy tzz v1 v2 v3 v4 = some (z0, z1, z2, z3, z4, z5, z6, z7, z8)) (hD0 : va_D (fun _ => True) (wX4 cI cS a0 a1 a2 a3 a4 a5 a6 a7 a8 a9 a10 a11 a12 a13 a14 a15 a16 a17 a18 a19 a20 a21 a22 ppl psp psy psh tpl tsp tsy tsh kpl ksp ksy ksh bs bt sz nm fd ik psc pnc pdy pzz tsc tnc tdy tzz ksc knc kdy kzz ln so be en va)) : Met l yX4_isAsTold wsX4_isAsTold rmX4_isAsTold (PZ D cI cS [.ref a0, .int v1, .int v2, .int v3, .int v4] (fun U => va_P D vwCl (wX4 cI cS a0 a1 a2 a3 a4 a5 a6 a7 a8 a9 a10 a11 a12 a13 a14 a15 a16 a17 a18 a19 a20 a21 a22 ppl psp psy psh tpl tsp tsy tsh kpl ksp ksy ksh bs bt sz nm fd ik psc pnc pdy pzz tsc tnc tdy tzz ksc knc kdy kzz ln so be en va) U.heap)) (qI D (wX4 cI cS a0 a1 a2 a3 a4 a5 a6 a7 a8 a9 a10 a11 a12 a13 a14 a15 a16 a17 a18 a19 a20 a21 a22 ppl psp psy psh tpl tsp tsy tsh kpl ksp ksy ksh bs bt sz nm fd ik psc pnc pdy pzz tsc tnc tdy tzz ksc knc kdy kzz ln so be en va) (wX4 cI cS a0 a1 a2 a3 a4 a5 a6 a7 a8 a9 a10 a11 a12 a13 a14 a15 a16 a17 a18 a19 a20 a21 a22 ppl psp psy psh z1 z2 z3 z4 kpl ksp ksy ksh bs bt sz nm fd ik psc pnc pdy pzz z5 z6 z7 z8 ksc knc kdy kzz ln so be en va) z0) 0 0 (wA (wX4 cI cS a0 a1 a2 a3 a4 a5 a6 a7 a8 a9 a10 a11 a12 a13 a14 a15 a16 a17 a18 a19 a20 a21 a22 ppl psp psy psh tpl tsp tsy tsh kpl ksp ksy ksh bs bt sz nm fd ik psc pnc pdy pzz tsc tnc tdy tzz ksc knc kdy kzz ln so be en va)) := by
  refine Met.mk RX4 (by decide) rfl rfl (Nat.le_of_ble_eq_true rfl) ?_
  intro p e s m below meth c ls C0 hP hl
  have hl : lv_has ls 9 [(0, .ref a0), (1, .int v1), (2, .int v2), (3, .int v3), (4, .int v4)] := hl
  obtain ⟨hx, hb, hr, hml, hown, hts, hlk, hE⟩ := id C0
  have hinX4 : ∀ w ∈ u_ws RX4 TX4 7, w ∈ wsX4_isAsTold := by decide +kernel
  have hD : ∀ W : va_W, W.map Prod.fst = [a0, a1, a2, a3, a4, a5, a6, a7, a8, a9, a10, a11, a12, a13, a14, a15, a16, a17, a18, a19, a20, a21, a22] → va_D (wA (wX4 cI cS a0 a1 a2 a3 a4 a5 a6 a7 a8 a9 a10 a11 a12 a13 a14 a15 a16 a17 a18 a19 a20 a21 a22 ppl psp psy psh tpl tsp tsy tsh kpl ksp ksy ksh bs bt sz nm fd ik psc pnc pdy pzz tsc tnc tdy tzz ksc knc kdy kzz ln so be en va)) W := fun W hW => hD0.own.re hW
  have hS : va_S (wA (wX4 cI cS a0 a1 a2 a3 a4 a5 a6 a7 a8 a9 a10 a11 a12 a13 a14 a15 a16 a17 a18 a19 a20 a21 a22 ppl psp psy psh tpl tsp tsy tsh kpl ksp ksy ksh bs bt sz nm fd ik psc pnc pdy pzz tsc tnc tdy tzz ksc knc kdy kzz ln so be en va)) s.heap s.heap [] := va_S.rf
  have hP : va_P D vwCl (wX4 cI cS a0 a1 a2 a3 a4 a5 a6 a7 a8 a9 a10 a11 a12 a13 a14 a15 a16 a17 a18 a19 a20 a21 a22 ppl psp psy psh tpl tsp tsy tsh kpl ksp ksy ksh bs bt sz nm fd ik psc pnc pdy pzz tsc tnc tdy tzz ksc knc kdy kzz ln so be en va) s.heap := hP
  rw [fX4_isAsTold] at h
  refine lv_aload_n hx hb dX4_isAsTold_0 rfl (lv_at hl 0 rfl) ?_
  refine va_get (D := D) (ci := 3) (v := .ref a6) (C := RX4) (T := TX4) (N := 7) hx hb hts hinX4 hown hE.1 hP 0 rfl rfl 1 (by decide) (hts _ (List.mem_of_getElem? (i := 1) rfl)) (fun _ h9 => h9) rfl dX4_isAsTold_1 ?_
  refine lv_aload_n hx hb dX4_isAsTold_4 rfl (lv_at hl 0 rfl) ?_
  refine va_get (D := D) (ci := 3) (v := .ref a1) (C := RX4) (T := TX4) (N := 7) hx hb hts hinX4 hown hE.1 hP 0 rfl rfl 0 (by decide) (hts _ (List.mem_of_getElem? (i := 2) rfl)) (fun _ h9 => h9) rfl dX4_isAsTold_5 ?_
  have hPc := hP.sub (ws' := (wE2 cI cS a6 a7 a8 a9 a10 a1 a2 a3 a4 a5 tpl tsp tsy tsh ppl psp psy psh tsc tnc tdy tzz psc pnc pdy pzz)) [6, 7, 8, 9, 10, 1, 2, 3, 4, 5] rfl
  refine kMv (wf' := (wX4 cI cS a0 a1 a2 a3 a4 a5 a6 a7 a8 a9 a10 a11 a12 a13 a14 a15 a16 a17 a18 a19 a20 a21 a22 ppl psp psy psh (fX0_become_o0 tpl tsp tsy tsh ppl psp psy psh tsc tnc tdy tzz psc pnc pdy pzz) (fX0_become_o1 tpl tsp tsy tsh ppl psp psy psh tsc tnc tdy tzz psc pnc pdy pzz) (fX0_become_o2 tpl tsp tsy tsh ppl psp psy psh tsc tnc tdy tzz psc pnc pdy pzz) (fX0_become_o3 tpl tsp tsy tsh ppl psp psy psh tsc tnc tdy tzz psc pnc pdy pzz) kpl ksp ksy ksh bs bt sz nm fd ik psc pnc pdy pzz (fX0_become_o4 tpl tsp tsy tsh ppl psp psy psh tsc tnc tdy tzz psc pnc pdy pzz) (fX0_become_o5 tpl tsp tsy tsh ppl psp psy psh tsc tnc tdy tzz psc pnc pdy pzz) (fX0_become_o6 tpl tsp tsy tsh ppl psp psy psh tsc tnc tdy tzz psc pnc pdy pzz) (fX0_become_o7 tpl tsp tsy tsh ppl psp psy psh tsc tnc tdy tzz psc pnc pdy pzz) ksc knc kdy kzz ln so be en va)) [6, 7, 8, 9, 10, 1, 2, 3, 4, 5] [none, some 5, some 6, some 7, some 8, some 9, some 0, some 1, some 2, some 3, some 4, none, none, none, none, none, none, none, none, none, none, none, none] (rV C0 (tX0_become l D cI cS a6 a7 a8 a9 a10 a1 a2 a3 a4 a5 tpl tsp tsy tsh ppl psp psy psh tsc tnc tdy tzz psc pnc pdy pzz  (fX0_become_o0 tpl tsp tsy tsh ppl psp psy psh tsc tnc tdy tzz psc pnc pdy pzz) (fX0_become_o1 tpl tsp tsy tsh ppl psp psy psh tsc tnc tdy tzz psc pnc pdy pzz) (fX0_become_o2 tpl tsp tsy tsh ppl psp psy psh tsc tnc tdy tzz psc pnc pdy pzz) (fX0_become_o3 tpl tsp tsy tsh ppl psp psy psh tsc tnc tdy tzz psc pnc pdy pzz) (fX0_become_o4 tpl tsp tsy tsh ppl psp psy psh tsc tnc tdy tzz psc pnc pdy pzz) (fX0_become_o5 tpl tsp tsy tsh ppl psp psy psh tsc tnc tdy tzz psc pnc pdy pzz) (fX0_become_o6 tpl tsp tsy tsh ppl psp psy psh tsc tnc tdy tzz psc pnc pdy pzz) (fX0_become_o7 tpl tsp tsy tsh ppl psp psy psh tsc tnc tdy tzz psc pnc pdy pzz) (eeX0_become ..) (((hD (wX4 cI cS a0 a1 a2 a3 a4 a5 a6 a7 a8 a9 a10 a11 a12 a13 a14 a15 a16 a17 a18 a19 a20 a21 a22 ppl psp psy psh tpl tsp tsy tsh kpl ksp ksy ksh bs bt sz nm fd ik psc pnc pdy pzz tsc tnc tdy tzz ksc knc kdy kzz ln so be en va) rfl).sub [6, 7, 8, 9, 10, 1, 2, 3, 4, 5] (by decide) rfl).weaken (fun _ _ _ _ => trivial))) RX0 gX4_isAsTold_X0_become rfl ⟨rfl, rfl⟩ pdX0_become rfl ⟨Nat.le_of_ble_eq_true rfl, Nat.le_of_ble_eq_true rfl⟩ (fun _ _ _ _ q => q) (va_recv hE.1 hPc (ci := 0) (q0 := 0) rfl rfl) (fun U hU _ _ => by rw [hU]; exact hPc) hl.1 rfl (Nat.le_of_ble_eq_true rfl) dX4_isAsTold_8 ⟨Nat.zero_le _, Nat.zero_le _⟩) hP (hD _ rfl) hS rfl rfl rfl (fun H locs hP hS => ?_)
  refine lv_aload_n hx hb dX4_isAsTold_11 rfl (lv_at hl 0 rfl) ?_
  refine va_get (D := D) (ci := 3) (v := .ref a6) (C := RX4) (T := TX4) (N := 7) hx hb hts hinX4 hown hE.1 hP 0 rfl rfl 1 (by decide) (hts _ (List.mem_of_getElem? (i := 1) rfl)) (fun _ h9 => h9) rfl dX4_isAsTold_12 ?_
  refine lv_iload_n hx hb dX4_isAsTold_15 rfl (lv_at hl 2 rfl) ?_
  refine lv_iload_n hx hb dX4_isAsTold_16 rfl (lv_at hl 3 rfl) ?_
  refine lv_iload hx hb dX4_isAsTold_17 (lv_at hl 4 rfl) ?_
  have hPc := hP.sub (ws' := (wX0 cI cS a6 a7 a8 a9 a10 (fX0_become_o0 tpl tsp tsy tsh ppl psp psy psh tsc tnc tdy tzz psc pnc pdy pzz) (fX0_become_o1 tpl tsp tsy tsh ppl psp psy psh tsc tnc tdy tzz psc pnc pdy pzz) (fX0_become_o2 tpl tsp tsy tsh ppl psp psy psh tsc tnc tdy tzz psc pnc pdy pzz) (fX0_become_o3 tpl tsp tsy tsh ppl psp psy psh tsc tnc tdy tzz psc pnc pdy pzz) (fX0_become_o4 tpl tsp tsy tsh ppl psp psy psh tsc tnc tdy tzz psc pnc pdy pzz) (fX0_become_o5 tpl tsp tsy tsh ppl psp psy psh tsc tnc tdy tzz psc pnc pdy pzz) (fX0_become_o6 tpl tsp tsy tsh ppl psp psy psh tsc tnc tdy tzz psc pnc pdy pzz) (fX0_become_o7 tpl tsp tsy tsh ppl psp psy psh tsc tnc tdy tzz psc pnc pdy pzz))) [6, 7, 8, 9, 10] rfl
  refine kMv (wf' := (wX4 cI cS a0 a1 a2 a3 a4 a5 a6 a7 a8 a9 a10 a11 a12 a13 a14 a15 a16 a17 a18 a19 a20 a21 a22 ppl psp psy psh (fX0_become_o0 tpl tsp tsy tsh ppl psp psy psh tsc tnc tdy tzz psc pnc pdy pzz) (fX0_become_o1 tpl tsp tsy tsh ppl psp psy psh tsc tnc tdy tzz psc pnc pdy pzz) (fX0_setOfSaying (fX0_become_o2 tpl tsp tsy tsh ppl psp psy psh tsc tnc tdy tzz psc pnc pdy pzz) v2 v3 v4) (fX0_become_o3 tpl tsp tsy tsh ppl psp psy psh tsc tnc tdy tzz psc pnc pdy pzz) kpl ksp ksy ksh bs bt sz nm fd ik psc pnc pdy pzz (fX0_become_o4 tpl tsp tsy tsh ppl psp psy psh tsc tnc tdy tzz psc pnc pdy pzz) (fX0_become_o5 tpl tsp tsy tsh ppl psp psy psh tsc tnc tdy tzz psc pnc pdy pzz) (fX0_become_o6 tpl tsp tsy tsh ppl psp psy psh tsc tnc tdy tzz psc pnc pdy pzz) (fX0_become_o7 tpl tsp tsy tsh ppl psp psy psh tsc tnc tdy tzz psc pnc pdy pzz) ksc knc kdy kzz ln so be en va)) [6, 7, 8, 9, 10] [none, none, none, none, none, none, some 0, some 1, some 2, some 3, some 4, none, none, none, none, none, none, none, none, none, none, none, none] (rV C0 (tX0_setOfSaying l D cI cS a6 a7 a8 a9 a10 (fX0_become_o0 tpl tsp tsy tsh ppl psp psy psh tsc tnc tdy tzz psc pnc pdy pzz) (fX0_become_o1 tpl tsp tsy tsh ppl psp psy psh tsc tnc tdy tzz psc pnc pdy pzz) (fX0_become_o2 tpl tsp tsy tsh ppl psp psy psh tsc tnc tdy tzz psc pnc pdy pzz) (fX0_become_o3 tpl tsp tsy tsh ppl psp psy psh tsc tnc tdy tzz psc pnc pdy pzz) (fX0_become_o4 tpl tsp tsy tsh ppl psp psy psh tsc tnc tdy tzz psc pnc pdy pzz) (fX0_become_o5 tpl tsp tsy tsh ppl psp psy psh tsc tnc tdy tzz psc pnc pdy pzz) (fX0_become_o6 tpl tsp tsy tsh ppl psp psy psh tsc tnc tdy tzz psc pnc pdy pzz) (fX0_become_o7 tpl tsp tsy tsh ppl psp psy psh tsc tnc tdy tzz psc pnc pdy pzz) v2 v3 v4 (fX0_setOfSaying (fX0_become_o2 tpl tsp tsy tsh ppl psp psy psh tsc tnc tdy tzz psc pnc pdy pzz) v2 v3 v4) rfl (((hD (wX4 cI cS a0 a1 a2 a3 a4 a5 a6 a7 a8 a9 a10 a11 a12 a13 a14 a15 a16 a17 a18 a19 a20 a21 a22 ppl psp psy psh (fX0_become_o0 tpl tsp tsy tsh ppl psp psy psh tsc tnc tdy tzz psc pnc pdy pzz) (fX0_become_o1 tpl tsp tsy tsh ppl psp psy psh tsc tnc tdy tzz psc pnc pdy pzz) (fX0_become_o2 tpl tsp tsy tsh ppl psp psy psh tsc tnc tdy tzz psc pnc pdy pzz) (fX0_become_o3 tpl tsp tsy tsh ppl psp psy psh tsc tnc tdy tzz psc pnc pdy pzz) kpl ksp ksy ksh bs bt sz nm fd ik psc pnc pdy pzz (fX0_become_o4 tpl tsp tsy tsh ppl psp psy psh tsc tnc tdy tzz psc pnc pdy pzz) (fX0_become_o5 tpl tsp tsy tsh ppl psp psy psh tsc tnc tdy tzz psc pnc pdy pzz) (fX0_become_o6 tpl tsp tsy tsh ppl psp psy psh tsc tnc tdy tzz psc pnc pdy pzz) (fX0_become_o7 tpl tsp tsy tsh ppl psp psy psh tsc tnc tdy tzz psc pnc pdy pzz) ksc knc kdy kzz ln so be en va) rfl).sub [6, 7, 8, 9, 10] (by decide) rfl).weaken (fun _ _ _ _ => trivial))) RX0 gX4_isAsTold_X0_setOfSaying rfl ⟨rfl, rfl⟩ pdX0_setOfSaying rfl ⟨Nat.le_of_ble_eq_true rfl, Nat.le_of_ble_eq_true rfl⟩ (fun _ _ _ _ q => q) (va_recv hE.1 hPc (ci := 0) (q0 := 0) rfl rfl) (fun U hU _ _ => by rw [hU]; exact hPc) hl.1 rfl (Nat.le_of_ble_eq_true rfl) dX4_isAsTold_19 ⟨Nat.zero_le _, Nat.zero_le _⟩) hP (hD _ rfl) hS rfl rfl rfl (fun H locs hP hS => ?_)
  refine lv_aload_n hx hb dX4_isAsTold_22 rfl (lv_at hl 0 rfl) ?_
  refine va_get (D := D) (ci := 3) (v := .ref a6) (C := RX4) (T := TX4) (N := 7) hx hb hts hinX4 hown hE.1 hP 0 rfl rfl 1 (by decide) (hts _ (List.mem_of_getElem? (i := 1) rfl)) (fun _ h9 => h9) rfl dX4_isAsTold_23 ?_
  refine lv_iload_n hx hb dX4_isAsTold_26 rfl (lv_at hl 2 rfl) ?_
  refine lv_iconst (v := 1) hx hb dX4_isAsTold_27 (by decide) ?_
  have hPc := hP.sub (ws' := (wX0 cI cS a6 a7 a8 a9 a10 (fX0_become_o0 tpl tsp tsy tsh ppl psp psy psh tsc tnc tdy tzz psc pnc pdy pzz) (fX0_become_o1 tpl tsp tsy tsh ppl psp psy psh tsc tnc tdy tzz psc pnc pdy pzz) (fX0_setOfSaying (fX0_become_o2 tpl tsp tsy tsh ppl psp psy psh tsc tnc tdy tzz psc pnc pdy pzz) v2 v3 v4) (fX0_become_o3 tpl tsp tsy tsh ppl psp psy psh tsc tnc tdy tzz psc pnc pdy pzz) (fX0_become_o4 tpl tsp tsy tsh ppl psp psy psh tsc tnc tdy tzz psc pnc pdy pzz) (fX0_become_o5 tpl tsp tsy tsh ppl psp psy psh tsc tnc tdy tzz psc pnc pdy pzz) (fX0_become_o6 tpl tsp tsy tsh ppl psp psy psh tsc tnc tdy tzz psc pnc pdy pzz) (fX0_become_o7 tpl tsp tsy tsh ppl psp psy psh tsc tnc tdy tzz psc pnc pdy pzz))) [6, 7, 8, 9, 10] rfl
  refine kRi (rV C0 (tX0_sayingHas l D cI cS a6 a7 a8 a9 a10 (fX0_become_o0 tpl tsp tsy tsh ppl psp psy psh tsc tnc tdy tzz psc pnc pdy pzz) (fX0_become_o1 tpl tsp tsy tsh ppl psp psy psh tsc tnc tdy tzz psc pnc pdy pzz) (fX0_setOfSaying (fX0_become_o2 tpl tsp tsy tsh ppl psp psy psh tsc tnc tdy tzz psc pnc pdy pzz) v2 v3 v4) (fX0_become_o3 tpl tsp tsy tsh ppl psp psy psh tsc tnc tdy tzz psc pnc pdy pzz) (fX0_become_o4 tpl tsp tsy tsh ppl psp psy psh tsc tnc tdy tzz psc pnc pdy pzz) (fX0_become_o5 tpl tsp tsy tsh ppl psp psy psh tsc tnc tdy tzz psc pnc pdy pzz) (fX0_become_o6 tpl tsp tsy tsh ppl psp psy psh tsc tnc tdy tzz psc pnc pdy pzz) (fX0_become_o7 tpl tsp tsy tsh ppl psp psy psh tsc tnc tdy tzz psc pnc pdy pzz) v2 1 (fX0_sayingHas (fX0_setOfSaying (fX0_become_o2 tpl tsp tsy tsh ppl psp psy psh tsc tnc tdy tzz psc pnc pdy pzz) v2 v3 v4) v2 1) rfl) RX0 gX4_isAsTold_X0_sayingHas rfl ⟨rfl, rfl⟩ pdX0_sayingHas rfl ⟨Nat.le_of_ble_eq_true rfl, Nat.le_of_ble_eq_true rfl⟩ (fun _ _ _ _ q => q) (va_recv hE.1 hPc (ci := 0) (q0 := 0) rfl rfl) (fun U hU _ _ => by rw [hU]; exact hPc) hl.1 rfl (Nat.le_of_ble_eq_true rfl) dX4_isAsTold_28 ⟨Nat.zero_le _, Nat.zero_le _⟩) ?_
  refine lv_istore (lv' := [(5, .int (fX0_sayingHas (fX0_setOfSaying (fX0_become_o2 tpl tsp tsy tsh ppl psp psy psh tsc tnc tdy tzz psc pnc pdy pzz) v2 v3 v4) v2 1)), (0, .ref a0), (1, .int v1), (2, .int v2), (3, .int v3), (4, .int v4)]) hx hb dX4_isAsTold_31 hl (by decide) rfl (fun ls hl => ?_)
  refine lv_aload_n hx hb dX4_isAsTold_33 rfl (lv_at hl 1 rfl) ?_
  refine va_get (D := D) (ci := 3) (v := .ref a18) (C := RX4) (T := TX4) (N := 7) hx hb hts hinX4 hown hE.1 hP 0 rfl rfl 5 (by decide) (hts _ (List.mem_of_getElem? (i := 3) rfl)) (fun _ h9 => h9) rfl dX4_isAsTold_34 ?_
  refine lv_iload_n hx hb dX4_isAsTold_37 rfl (lv_at hl 2 rfl) ?_
  have hPc := hP.sub (ws' := (wX2 cI cS a18 a19 a20 a21 bt sz nm)) [18, 19, 20, 21] rfl
  refine kRi (rV C0 (tX2_sizeOf l D cI cS a18 a19 a20 a21 bt sz nm v1 (fX2_sizeOf sz v1) rfl) RX2 gX4_isAsTold_X2_sizeOf rfl ⟨rfl, rfl⟩ pdX2_sizeOf rfl ⟨Nat.le_of_ble_eq_true rfl, Nat.le_of_ble_eq_true rfl⟩ (fun _ _ _ _ q => q) (va_recv hE.1 hPc (ci := 1) (q0 := 0) rfl rfl) (fun U hU _ _ => by rw [hU]; exact hPc) hl.1 rfl (Nat.le_of_ble_eq_true rfl) dX4_isAsTold_38 ⟨Nat.zero_le _, Nat.zero_le _⟩) ?_
  refine lv_bipush (v := 8) hx hb dX4_isAsTold_41 (by decide) ?_
  refine va_mmin hx hb (hml.trans hl.1.symm) hown (hts _ (List.mem_of_getElem? (i := 4) rfl)) (hts _ (List.mem_of_getElem? (i := 5) rfl)) (hts _ (List.mem_of_getElem? (i := 6) rfl)) (hts _ (List.mem_of_getElem? (i := 7) rfl)) (Nat.le_of_ble_eq_true rfl) (Nat.le_of_ble_eq_true rfl) (Nat.zero_le _) (Nat.zero_le _) dX4_isAsTold_43 ?_
  refine lv_istore (lv' := [(6, .int (if 8 < (fX2_sizeOf sz v1) then 8 else (fX2_sizeOf sz v1))), (5, .int (fX0_sayingHas (fX0_setOfSaying (fX0_become_o2 tpl tsp tsy tsh ppl psp psy psh tsc tnc tdy tzz psc pnc pdy pzz) v2 v3 v4) v2 1)), (0, .ref a0), (1, .int v1), (2, .int v2), (3, .int v3), (4, .int v4)]) hx hb dX4_isAsTold_46 hl (by decide) rfl (fun ls hl => ?_)
  refine lv_iconst (v := 0) hx hb dX4_isAsTold_48 (by decide) ?_
  refine lv_istore (lv' := [(7, .int 0), (6, .int (if 8 < (fX2_sizeOf sz v1) then 8 else (fX2_sizeOf sz v1))), (5, .int (fX0_sayingHas (fX0_setOfSaying (fX0_become_o2 tpl tsp tsy tsh ppl psp psy psh tsc tnc tdy tzz psc pnc pdy pzz) v2 v3 v4) v2 1)), (0, .ref a0), (1, .int v1), (2, .int v2), (3, .int v3), (4, .int v4)]) hx hb dX4_isAsTold_49 hl (by decide) rfl (fun ls hl => ?_)
  exact lX4_isAsTold_51 (l := l) (e := e) (below := below) C0 F ppl psp psy psh (fX0_become_o0 tpl tsp tsy tsh ppl psp psy psh tsc tnc tdy tzz psc pnc pdy pzz) (fX0_become_o1 tpl tsp tsy tsh ppl psp psy psh tsc tnc tdy tzz psc pnc pdy pzz) kpl ksp ksy ksh bs bt sz nm fd ik psc pnc pdy pzz (fX0_become_o4 tpl tsp tsy tsh ppl psp psy psh tsc tnc tdy tzz psc pnc pdy pzz) (fX0_become_o5 tpl tsp tsy tsh ppl psp psy psh tsc tnc tdy tzz psc pnc pdy pzz) (fX0_become_o7 tpl tsp tsy tsh ppl psp psy psh tsc tnc tdy tzz psc pnc pdy pzz) ksc knc kdy kzz ln so be en va v1 (fX0_sayingHas (fX0_setOfSaying (fX0_become_o2 tpl tsp tsy tsh ppl psp psy psh tsc tnc tdy tzz psc pnc pdy pzz) v2 v3 v4) v2 1) (if 8 < (fX2_sizeOf sz v1) then 8 else (fX2_sizeOf sz v1)) z0 z1 z2 z3 z4 z5 z6 z7 z8 hD F 0 (fX0_setOfSaying (fX0_become_o2 tpl tsp tsy tsh ppl psp psy psh tsc tnc tdy tzz psc pnc pdy pzz) v2 v3 v4) (fX0_become_o3 tpl tsp tsy tsh ppl psp psy psh tsc tnc tdy tzz psc pnc pdy pzz) (fX0_become_o6 tpl tsp tsy tsh ppl psp psy psh tsc tnc tdy tzz psc pnc pdy pzz) _ _ hP hS _ (lv_sub hl [3, 4, 2, 1, 0] rfl) h
def fX4_fits_23 (F : Nat) (ppl : Nat → Int32) (psp : Nat → Int32) (psy : Nat → Int32) (psh : Nat → Int32) (sz : Nat → Int32) (nm : Nat → Int32) (fd : Nat → Int32) (psc : Int32) (pnc : Int32) (pdy : Int32) (pzz : Int32) (v1 : Int32) (v2 : Int32) : Nat → Int32 → Int32 → (Nat → Int32) → (Nat → Int32) → (Nat → Int32) → (Nat → Int32) → Int32 → Int32 → Int32 → Int32 → Option (Int32 × (Nat → Int32) × (Nat → Int32) × (Nat → Int32) × (Nat → Int32) × (Nat → Int32) × Int32 × Int32 × Int32 × Int32)
  | 0, _, _, _, _, _, _, _, _, _, _ => none
  | n + 1, v4, v5, tpl, tsp, tsy, tsh, tsc, tnc, tdy, tzz => (if 99 < v5 then some (v4, tpl, tsp, tsy, tsh, fd, tsc, tnc, tdy, tzz) else Option.bind (fX4_isAsTold F ppl psp psy psh tpl tsp tsy tsh sz nm psc pnc pdy pzz tsc tnc tdy tzz v1 v2 2 v5) (fun z_3 => (if z_3.1 = 0 then fX4_fits_23 F ppl psp psy psh sz nm fd psc pnc pdy pzz v1 v2 n v4 (v5 + 1) z_3.2.1 z_3.2.2.1 z_3.2.2.2.1 z_3.2.2.2.2.1 z_3.2.2.2.2.2.1 z_3.2.2.2.2.2.2.1 z_3.2.2.2.2.2.2.2.1 z_3.2.2.2.2.2.2.2.2 else fX4_fits_23 F ppl psp psy psh sz nm fd psc pnc pdy pzz v1 v2 n (v4 + 1) (v5 + 1) z_3.2.1 z_3.2.2.1 z_3.2.2.2.1 z_3.2.2.2.2.1 z_3.2.2.2.2.2.1 z_3.2.2.2.2.2.2.1 z_3.2.2.2.2.2.2.2.1 z_3.2.2.2.2.2.2.2.2)))
def fX4_fits (F : Nat) (ppl : Nat → Int32) (psp : Nat → Int32) (psy : Nat → Int32) (psh : Nat → Int32) (tpl : Nat → Int32) (tsp : Nat → Int32) (tsy : Nat → Int32) (tsh : Nat → Int32) (bt : Nat → Int32) (sz : Nat → Int32) (nm : Nat → Int32) (fd : Nat → Int32) (psc : Int32) (pnc : Int32) (pdy : Int32) (pzz : Int32) (tsc : Int32) (tnc : Int32) (tdy : Int32) (tzz : Int32) (v1 : Int32) (v2 : Int32) : Option (Int32 × (Nat → Int32) × (Nat → Int32) × (Nat → Int32) × (Nat → Int32) × (Nat → Int32) × Int32 × Int32 × Int32 × Int32) := (if (fX4_faultOfTold bt psc v1 v2) = 0 then fX4_fits_23 F ppl psp psy psh sz nm fd psc pnc pdy pzz v1 v2 F 0 0 tpl tsp tsy tsh tsc tnc tdy tzz else some ((fX4_faultOfTold bt psc v1 v2), tpl, tsp, tsy, tsh, fX4_finding_o1 fd (fX4_faultOfTold bt psc v1 v2), tsc, tnc, tdy, tzz))
abbrev rmX4_fits : Room := { frames := 6, cells := 0, slots := 0, locals := 148 }
theorem pdX4_fits : (yX4_fits.cls = RX4 ∧ yX4_fits.cls ≠ "java/lang/invoke/MethodHandle" ∧ yX4_fits.cls ≠ "java/lang/invoke/VarHandle" ∧ (parseMethodDescriptor yX4_fits.desc).map (fun d => d.parameters.length) = some 2) := by decide +kernel
set_option maxHeartbeats 4000000 in
set_option maxRecDepth 100000 in
theorem lX4_fits_23 {p : Program} {l : Launch} {e : Env} {s : State} {m : MethodId} {av : Array Value} {below : List Frame} {meth : Method} {c : Code} {D : va_G} {cI cS : ClassId} {a0 a1 a2 a3 a4 a5 a6 a7 a8 a9 a10 a11 a12 a13 a14 a15 a16 a17 a18 a19 a20 a21 a22 : Nat} {W0 : va_W} (C0 : CX p s m av meth c RX4 cX4_fits 6 (some .int) wsX4_fits D cI cS) (F : Nat) (ppl : Nat → Int32) (psp : Nat → Int32) (psy : Nat → Int32) (psh : Nat → Int32) (kpl : Nat → Int32) (ksp : Nat → Int32) (ksy : Nat → Int32) (ksh : Nat → Int32) (bs : Nat → Int32) (bt : Nat → Int32) (sz : Nat → Int32) (nm : Nat → Int32) (fd : Nat → Int32) (ik : Int32) (psc : Int32) (pnc : Int32) (pdy : Int32) (pzz : Int32) (ksc : Int32) (knc : Int32) (kdy : Int32) (kzz : Int32) (ln : Int32) (so : Int32) (be : Int32) (en : Int32) (va : Int32) (v1 : Int32) (v2 : Int32) (z0 : Int32) (z1 : Nat → Int32) (z2 : Nat → Int32) (z3 : Nat → Int32) (z4 : Nat → Int32) (z5 : Nat → Int32) (z6 : Int32) (z7 : Int32) (z8 : Int32) (z9 : Int32) (hD : ∀ W : va_W, W.map Prod.fst = [a0, a1, a2, a3, a4, a5, a6, a7, a8, a9, a10, a11, a12, a13, a14, a15, a16, a17, a18, a19, a20, a21, a22] → va_D (wA W0) W) : ∀ (n : Nat) (v4 : Int32) (v5 : Int32) (tpl : Nat → Int32) (tsp : Nat → Int32) (tsy : Nat → Int32) (tsh : Nat → Int32) (tsc : Int32) (tnc : Int32) (tdy : Int32) (tzz : Int32) (H : Heap) (locs : List Loc), va_P D vwCl (wX4 cI cS a0 a1 a2 a3 a4 a5 a6 a7 a8 a9 a10 a11 a12 a13 a14 a15 a16 a17 a18 a19 a20 a21 a22 ppl psp psy psh tpl tsp tsy tsh kpl ksp ksy ksh bs bt sz nm fd ik psc pnc pdy pzz tsc tnc tdy tzz ksc knc kdy kzz ln so be en va) H → va_S (wA W0) s.heap H locs → ∀ (ls : Array Slot), lv_has ls 6 [(0, .ref a0), (1, .int v1), (2, .int v2), (4, .int v4), (5, .int v5)] → fX4_fits_23 F ppl psp psy psh sz nm fd psc pnc pdy pzz v1 v2 n v4 v5 tpl tsp tsy tsh tsc tnc tdy tzz = some (z0, z1, z2, z3, z4, z5, z6, z7, z8, z9) → W p l e rmX4_fits s m av below meth c H locs 0 0 (MQ below (qI D W0 (wX4 cI cS a0 a1 a2 a3 a4 a5 a6 a7 a8 a9 a10 a11 a12 a13 a14 a15 a16 a17 a18 a19 a20 a21 a22 ppl psp psy psh z1 z2 z3 z4 kpl ksp ksy ksh bs bt sz nm z5 ik psc pnc pdy pzz z6 z7 z8 z9 ksc knc kdy kzz ln so be en va) z0) av s 0 0 (wA W0)) (F0 m 23 ls []) := by
  obtain ⟨hx, hb, hr, hml, hown, hts, hlk, hE⟩ := id C0
  intro n
  induction n with
  | zero =>
    intro v4 v5 tpl tsp tsy tsh tsc tnc tdy tzz H locs hP hS ls hl h
    cases (show none = some (z0, z1, z2, z3, z4, z5, z6, z7, z8, z9) from h)
  | succ n ih =>
    intro v4 v5 tpl tsp tsy tsh tsc tnc tdy tzz H locs hP hS ls hl h
    rw [fX4_fits_23] at h
    refine lv_iload hx hb dX4_fits_23 (lv_at hl 4 rfl) ?_
    refine lv_bipush (v := 99) hx hb dX4_fits_25 (by decide) ?_
    refine lv_icmp_gt (tgt := 51) hx hb dX4_fits_27 (by decide) (fun c_2 => ?_) (fun c_2 => ?_)
    · have h := ifp c_2 h
      refine lv_iload hx hb dX4_fits_51 (lv_at hl 3 rfl) ?_
      obtain ⟨q0, g0⟩ := Prod.mk.inj (Option.some.inj h)
      obtain ⟨q1, g1⟩ := Prod.mk.inj g0
      obtain ⟨q2, g2⟩ := Prod.mk.inj g1
      obtain ⟨q3, g3⟩ := Prod.mk.inj g2
      obtain ⟨q4, g4⟩ := Prod.mk.inj g3
      obtain ⟨q5, g5⟩ := Prod.mk.inj g4
      obtain ⟨q6, g6⟩ := Prod.mk.inj g5
      obtain ⟨q7, g7⟩ := Prod.mk.inj g6
      obtain ⟨q8, q9⟩ := Prod.mk.inj g7
      subst q0 q1 q2 q3 q4 q5 q6 q7 q8 q9
      exact eMi C0 hP hS rfl rfl dX4_fits_53
    · have h := ifn c_2 h
      refine lv_aload_n hx hb dX4_fits_30 rfl (lv_at hl 0 rfl) ?_
      refine lv_iload_n hx hb dX4_fits_31 rfl (lv_at hl 1 rfl) ?_
      refine lv_iload_n hx hb dX4_fits_32 rfl (lv_at hl 2 rfl) ?_
      refine lv_iconst (v := 2) hx hb dX4_fits_33 (by decide) ?_
      refine lv_iload hx hb dX4_fits_34 (lv_at hl 4 rfl) ?_
      obtain ⟨z_3, e_4, h⟩ := bds h
      have hPc := hP.sub (ws' := (wX4 cI cS a0 a1 a2 a3 a4 a5 a6 a7 a8 a9 a10 a11 a12 a13 a14 a15 a16 a17 a18 a19 a20 a21 a22 ppl psp psy psh tpl tsp tsy tsh kpl ksp ksy ksh bs bt sz nm fd ik psc pnc pdy pzz tsc tnc tdy tzz ksc knc kdy kzz ln so be en va)) [0, 1, 2, 3, 4, 5, 6, 7, 8, 9, 10, 11, 12, 13, 14, 15, 16, 17, 18, 19, 20, 21, 22] rfl
      refine kMi (wf' := (wX4 cI cS a0 a1 a2 a3 a4 a5 a6 a7 a8 a9 a10 a11 a12 a13 a14 a15 a16 a17 a18 a19 a20 a21 a22 ppl psp psy psh z_3.2.1 z_3.2.2.1 z_3.2.2.2.1 z_3.2.2.2.2.1 kpl ksp ksy ksh bs bt sz nm fd ik psc pnc pdy pzz z_3.2.2.2.2.2.1 z_3.2.2.2.2.2.2.1 z_3.2.2.2.2.2.2.2.1 z_3.2.2.2.2.2.2.2.2 ksc knc kdy kzz ln so be en va)) [0, 1, 2, 3, 4, 5, 6, 7, 8, 9, 10, 11, 12, 13, 14, 15, 16, 17, 18, 19, 20, 21, 22] [some 0, some 1, some 2, some 3, some 4, some 5, some 6, some 7, some 8, some 9, some 10, some 11, some 12, some 13, some 14, some 15, some 16, some 17, some 18, some 19, some 20, some 21, some 22] (rV C0 (tX4_isAsTold l D cI cS F a0 a1 a2 a3 a4 a5 a6 a7 a8 a9 a10 a11 a12 a13 a14 a15 a16 a17 a18 a19 a20 a21 a22 ppl psp psy psh tpl tsp tsy tsh kpl ksp ksy ksh bs bt sz nm fd ik psc pnc pdy pzz tsc tnc tdy tzz ksc knc kdy kzz ln so be en va v1 v2 2 v5 z_3.1 z_3.2.1 z_3.2.2.1 z_3.2.2.2.1 z_3.2.2.2.2.1 z_3.2.2.2.2.2.1 z_3.2.2.2.2.2.2.1 z_3.2.2.2.2.2.2.2.1 z_3.2.2.2.2.2.2.2.2 e_4 (((hD (wX4 cI cS a0 a1 a2 a3 a4 a5 a6 a7 a8 a9 a10 a11 a12 a13 a14 a15 a16 a17 a18 a19 a20 a21 a22 ppl psp psy psh tpl tsp tsy tsh kpl ksp ksy ksh bs bt sz nm fd ik psc pnc pdy pzz tsc tnc tdy tzz ksc knc kdy kzz ln so be en va) rfl).sub [0, 1, 2, 3, 4, 5, 6, 7, 8, 9, 10, 11, 12, 13, 14, 15, 16, 17, 18, 19, 20, 21, 22] (by decide) rfl).weaken (fun _ _ _ _ => trivial))) RX4 gX4_fits_X4_isAsTold rfl ⟨rfl, rfl⟩ pdX4_isAsTold rfl ⟨Nat.le_of_ble_eq_true rfl, Nat.le_of_ble_eq_true rfl⟩ (fun _ _ _ _ q => q) (va_recv hE.1 hPc (ci := 3) (q0 := 0) rfl rfl) (fun U hU _ _ => by rw [hU]; exact hPc) hl.1 rfl (Nat.le_of_ble_eq_true rfl) dX4_fits_36 ⟨Nat.zero_le _, Nat.zero_le _⟩) hP (hD _ rfl) hS rfl rfl rfl (fun H locs hP hS => ?_)
      refine lv_if_eq (tgt := 45) hx hb dX4_fits_39 (by decide) (fun c_5 => ?_) (fun c_5 => ?_)
      · have h := ifp c_5 h
        refine lv_iinc (v := v5 + 1) (lv' := [(5, .int (v5 + 1)), (0, .ref a0), (1, .int v1), (2, .int v2), (4, .int v4)]) hx hb dX4_fits_45 hl (k := 4) rfl rfl (by decide) rfl (fun ls hl => ?_)
        refine lv_goto (tgt := 23) hx hb dX4_fits_48 (by decide) ?_
        exact ih v4 (v5 + 1) z_3.2.1 z_3.2.2.1 z_3.2.2.2.1 z_3.2.2.2.2.1 z_3.2.2.2.2.2.1 z_3.2.2.2.2.2.2.1 z_3.2.2.2.2.2.2.2.1 z_3.2.2.2.2.2.2.2.2 _ _ hP hS _ (lv_sub hl [1, 2, 3, 4, 0] rfl) h
      · have h := ifn c_5 h
        refine lv_iinc (v := v4 + 1) (lv' := [(4, .int (v4 + 1)), (0, .ref a0), (1, .int v1), (2, .int v2), (5, .int v5)]) hx hb dX4_fits_42 hl (k := 3) rfl rfl (by decide) rfl (fun ls hl => ?_)
        refine lv_iinc (v := v5 + 1) (lv' := [(5, .int (v5 + 1)), (4, .int (v4 + 1)), (0, .ref a0), (1, .int v1), (2, .int v2)]) hx hb dX4_fits_45 hl (k := 4) rfl rfl (by decide) rfl (fun ls hl => ?_)
        refine lv_goto (tgt := 23) hx hb dX4_fits_48 (by decide) ?_
        exact ih (v4 + 1) (v5 + 1) z_3.2.1 z_3.2.2.1 z_3.2.2.2.1 z_3.2.2.2.2.1 z_3.2.2.2.2.2.1 z_3.2.2.2.2.2.2.1 z_3.2.2.2.2.2.2.2.1 z_3.2.2.2.2.2.2.2.2 _ _ hP hS _ (lv_sub hl [2, 3, 4, 1, 0] rfl) h
set_option maxHeartbeats 4000000 in
set_option maxRecDepth 100000 in
theorem tX4_fits (l : Launch) (D : va_G) (cI cS : ClassId) (F : Nat) (a0 a1 a2 a3 a4 a5 a6 a7 a8 a9 a10 a11 a12 a13 a14 a15 a16 a17 a18 a19 a20 a21 a22 : Nat) (ppl : Nat → Int32) (psp : Nat → Int32) (psy : Nat → Int32) (psh : Nat → Int32) (tpl : Nat → Int32) (tsp : Nat → Int32) (tsy : Nat → Int32) (tsh : Nat → Int32) (kpl : Nat → Int32) (ksp : Nat → Int32) (ksy : Nat → Int32) (ksh : Nat → Int32) (bs : Nat → Int32) (bt : Nat → Int32) (sz : Nat → Int32) (nm : Nat → Int32) (fd : Nat → Int32) (ik : Int32) (psc : Int32) (pnc : Int32) (pdy : Int32) (pzz : Int32) (tsc : Int32) (tnc : Int32) (tdy : Int32) (tzz : Int32) (ksc : Int32) (knc : Int32) (kdy : Int32) (kzz : Int32) (ln : Int32) (so : Int32) (be : Int32) (en : Int32) (va : Int32) (v1 : Int32) (v2 : Int32) (z0 : Int32) (z1 : Nat → Int32) (z2 : Nat → Int32) (z3 : Nat → Int32) (z4 : Nat → Int32) (z5 : Nat → Int32) (z6 : Int32) (z7 : Int32) (z8 : Int32) (z9 : Int32) (h : fX4_fits F ppl psp psy psh tpl tsp tsy tsh bt sz nm fd psc pnc pdy pzz tsc tnc tdy tzz v1 v2 = some (z0, z1, z2, z3, z4, z5, z6, z7, z8, z9)) (hD0 : va_D (fun _ => True) (wX4 cI cS a0 a1 a2 a3 a4 a5 a6 a7 a8 a9 a10 a11 a12 a13 a14 a15 a16 a17 a18 a19 a20 a21 a22 ppl psp psy psh tpl tsp tsy tsh kpl ksp ksy ksh bs bt sz nm fd ik psc pnc pdy pzz tsc tnc tdy tzz ksc knc kdy kzz ln so be en va)) : Met l yX4_fits wsX4_fits rmX4_fits (PZ D cI cS [.ref a0, .int v1, .int v2] (fun U => va_P D vwCl (wX4 cI cS a0 a1 a2 a3 a4 a5 a6 a7 a8 a9 a10 a11 a12 a13 a14 a15 a16 a17 a18 a19 a20 a21 a22 ppl psp psy psh tpl tsp tsy tsh kpl ksp ksy ksh bs bt sz nm fd ik psc pnc pdy pzz tsc tnc tdy tzz ksc knc kdy kzz ln so be en va) U.heap)) (qI D (wX4 cI cS a0 a1 a2 a3 a4 a5 a6 a7 a8 a9 a10 a11 a12 a13 a14 a15 a16 a17 a18 a19 a20 a21 a22 ppl psp psy psh tpl tsp tsy tsh kpl ksp ksy ksh bs bt sz nm fd ik psc pnc pdy pzz tsc tnc tdy tzz ksc knc kdy kzz ln so be en va) (wX4 cI cS a0 a1 a2 a3 a4 a5 a6 a7 a8 a9 a10 a11 a12 a13 a14 a15 a16 a17 a18 a19 a20 a21 a22 ppl psp psy psh z1 z2 z3 z4 kpl ksp ksy ksh bs bt sz nm z5 ik psc pnc pdy pzz z6 z7 z8 z9 ksc knc kdy kzz ln so be en va) z0) 0 0 (wA (wX4 cI cS a0 a1 a2 a3 a4 a5 a6 a7 a8 a9 a10 a11 a12 a13 a14 a15 a16 a17 a18 a19 a20 a21 a22 ppl psp psy psh tpl tsp tsy tsh kpl ksp ksy ksh bs bt sz nm fd ik psc pnc pdy pzz tsc tnc tdy tzz ksc knc kdy kzz ln so be en va)) := by
  refine Met.mk RX4 (by decide) rfl rfl (Nat.le_of_ble_eq_true rfl) ?_
  intro p e s m below meth c ls C0 hP hl
  have hl : lv_has ls 6 [(0, .ref a0), (1, .int v1), (2, .int v2)] := hl
  obtain ⟨hx, hb, hr, hml, hown, hts, hlk, hE⟩ := id C0
  have hD : ∀ W : va_W, W.map Prod.fst = [a0, a1, a2, a3, a4, a5, a6, a7, a8, a9, a10, a11, a12, a13, a14, a15, a16, a17, a18, a19, a20, a21, a22] → va_D (wA (wX4 cI cS a0 a1 a2 a3 a4 a5 a6 a7 a8 a9 a10 a11 a12 a13 a14 a15 a16 a17 a18 a19 a20 a21 a22 ppl psp psy psh tpl tsp tsy tsh kpl ksp ksy ksh bs bt sz nm fd ik psc pnc pdy pzz tsc tnc tdy tzz ksc knc kdy kzz ln so be en va)) W := fun W hW => hD0.own.re hW
  have hS : va_S (wA (wX4 cI cS a0 a1 a2 a3 a4 a5 a6 a7 a8 a9 a10 a11 a12 a13 a14 a15 a16 a17 a18 a19 a20 a21 a22 ppl psp psy psh tpl tsp tsy tsh kpl ksp ksy ksh bs bt sz nm fd ik psc pnc pdy pzz tsc tnc tdy tzz ksc knc kdy kzz ln so be en va)) s.heap s.heap [] := va_S.rf
  have hP : va_P D vwCl (wX4 cI cS a0 a1 a2 a3 a4 a5 a6 a7 a8 a9 a10 a11 a12 a13 a14 a15 a16 a17 a18 a19 a20 a21 a22 ppl psp psy psh tpl tsp tsy tsh kpl ksp ksy ksh bs bt sz nm fd ik psc pnc pdy pzz tsc tnc tdy tzz ksc knc kdy kzz ln so be en va) s.heap := hP
  rw [fX4_fits] at h
  refine lv_aload_n hx hb dX4_fits_0 rfl (lv_at hl 0 rfl) ?_
  refine lv_iload_n hx hb dX4_fits_1 rfl (lv_at hl 1 rfl) ?_
  refine lv_iload_n hx hb dX4_fits_2 rfl (lv_at hl 2 rfl) ?_
  have hPc := hP.sub (ws' := (wX4 cI cS a0 a1 a2 a3 a4 a5 a6 a7 a8 a9 a10 a11 a12 a13 a14 a15 a16 a17 a18 a19 a20 a21 a22 ppl psp psy psh tpl tsp tsy tsh kpl ksp ksy ksh bs bt sz nm fd ik psc pnc pdy pzz tsc tnc tdy tzz ksc knc kdy kzz ln so be en va)) [0, 1, 2, 3, 4, 5, 6, 7, 8, 9, 10, 11, 12, 13, 14, 15, 16, 17, 18, 19, 20, 21, 22] rfl
  refine kRi (rV C0 (tX4_faultOfTold l D cI cS a0 a1 a2 a3 a4 a5 a6 a7 a8 a9 a10 a11 a12 a13 a14 a15 a16 a17 a18 a19 a20 a21 a22 ppl psp psy psh tpl tsp tsy tsh kpl ksp ksy ksh bs bt sz nm fd ik psc pnc pdy pzz tsc tnc tdy tzz ksc knc kdy kzz ln so be en va v1 v2 (fX4_faultOfTold bt psc v1 v2) rfl) RX4 gX4_fits_X4_faultOfTold rfl ⟨rfl, rfl⟩ pdX4_faultOfTold rfl ⟨Nat.le_of_ble_eq_true rfl, Nat.le_of_ble_eq_true rfl⟩ (fun _ _ _ _ q => q) (va_recv hE.1 hPc (ci := 3) (q0 := 0) rfl rfl) (fun U hU _ _ => by rw [hU]; exact hPc) hl.1 rfl (Nat.le_of_ble_eq_true rfl) dX4_fits_3 ⟨Nat.zero_le _, Nat.zero_le _⟩) ?_
  refine lv_istore_n (lv' := [(3, .int (fX4_faultOfTold bt psc v1 v2)), (0, .ref a0), (1, .int v1), (2, .int v2)]) hx hb dX4_fits_6 rfl hl (by decide) rfl (fun ls hl => ?_)
  refine lv_iload_n hx hb dX4_fits_7 rfl (lv_at hl 0 rfl) ?_
  refine lv_if_eq (tgt := 17) hx hb dX4_fits_8 (by decide) (fun c_1 => ?_) (fun c_1 => ?_)
  · have h := ifp c_1 h
    refine lv_iconst (v := 0) hx hb dX4_fits_17 (by decide) ?_
    refine lv_istore (lv' := [(4, .int 0), (3, .int (fX4_faultOfTold bt psc v1 v2)), (0, .ref a0), (1, .int v1), (2, .int v2)]) hx hb dX4_fits_18 hl (by decide) rfl (fun ls hl => ?_)
    refine lv_iconst (v := 0) hx hb dX4_fits_20 (by decide) ?_
    refine lv_istore (lv' := [(5, .int 0), (4, .int 0), (3, .int (fX4_faultOfTold bt psc v1 v2)), (0, .ref a0), (1, .int v1), (2, .int v2)]) hx hb dX4_fits_21 hl (by decide) rfl (fun ls hl => ?_)
    exact lX4_fits_23 (l := l) (e := e) (below := below) C0 F ppl psp psy psh kpl ksp ksy ksh bs bt sz nm fd ik psc pnc pdy pzz ksc knc kdy kzz ln so be en va v1 v2 z0 z1 z2 z3 z4 z5 z6 z7 z8 z9 hD F 0 0 tpl tsp tsy tsh tsc tnc tdy tzz _ _ hP hS _ (lv_sub hl [3, 4, 5, 1, 0] rfl) h
  · have h := ifn c_1 h
    refine lv_aload_n hx hb dX4_fits_11 rfl (lv_at hl 1 rfl) ?_
    refine lv_iload_n hx hb dX4_fits_12 rfl (lv_at hl 0 rfl) ?_
    have hPc := hP.sub (ws' := (wX4 cI cS a0 a1 a2 a3 a4 a5 a6 a7 a8 a9 a10 a11 a12 a13 a14 a15 a16 a17 a18 a19 a20 a21 a22 ppl psp psy psh tpl tsp tsy tsh kpl ksp ksy ksh bs bt sz nm fd ik psc pnc pdy pzz tsc tnc tdy tzz ksc knc kdy kzz ln so be en va)) [0, 1, 2, 3, 4, 5, 6, 7, 8, 9, 10, 11, 12, 13, 14, 15, 16, 17, 18, 19, 20, 21, 22] rfl
    refine kMi (wf' := (wX4 cI cS a0 a1 a2 a3 a4 a5 a6 a7 a8 a9 a10 a11 a12 a13 a14 a15 a16 a17 a18 a19 a20 a21 a22 ppl psp psy psh tpl tsp tsy tsh kpl ksp ksy ksh bs bt sz nm (fX4_finding_o1 fd (fX4_faultOfTold bt psc v1 v2)) ik psc pnc pdy pzz tsc tnc tdy tzz ksc knc kdy kzz ln so be en va)) [0, 1, 2, 3, 4, 5, 6, 7, 8, 9, 10, 11, 12, 13, 14, 15, 16, 17, 18, 19, 20, 21, 22] [some 0, some 1, some 2, some 3, some 4, some 5, some 6, some 7, some 8, some 9, some 10, some 11, some 12, some 13, some 14, some 15, some 16, some 17, some 18, some 19, some 20, some 21, some 22] (rV C0 (tX4_finding l D cI cS a0 a1 a2 a3 a4 a5 a6 a7 a8 a9 a10 a11 a12 a13 a14 a15 a16 a17 a18 a19 a20 a21 a22 ppl psp psy psh tpl tsp tsy tsh kpl ksp ksy ksh bs bt sz nm fd ik psc pnc pdy pzz tsc tnc tdy tzz ksc knc kdy kzz ln so be en va (fX4_faultOfTold bt psc v1 v2) (fX4_faultOfTold bt psc v1 v2) (fX4_finding_o1 fd (fX4_faultOfTold bt psc v1 v2)) (eeX4_finding ..) (((hD (wX4 cI cS a0 a1 a2 a3 a4 a5 a6 a7 a8 a9 a10 a11 a12 a13 a14 a15 a16 a17 a18 a19 a20 a21 a22 ppl psp psy psh tpl tsp tsy tsh kpl ksp ksy ksh bs bt sz nm fd ik psc pnc pdy pzz tsc tnc tdy tzz ksc knc kdy kzz ln so be en va) rfl).sub [0, 1, 2, 3, 4, 5, 6, 7, 8, 9, 10, 11, 12, 13, 14, 15, 16, 17, 18, 19, 20, 21, 22] (by decide) rfl).weaken (fun _ _ _ _ => trivial))) RX4 gX4_fits_X4_finding rfl ⟨rfl, rfl⟩ pdX4_finding rfl ⟨Nat.le_of_ble_eq_true rfl, Nat.le_of_ble_eq_true rfl⟩ (fun _ _ _ _ q => q) (va_recv hE.1 hPc (ci := 3) (q0 := 0) rfl rfl) (fun U hU _ _ => by rw [hU]; exact hPc) hl.1 rfl (Nat.le_of_ble_eq_true rfl) dX4_fits_13 ⟨Nat.zero_le _, Nat.zero_le _⟩) hP (hD _ rfl) hS rfl rfl rfl (fun H locs hP hS => ?_)
    obtain ⟨q0, g0⟩ := Prod.mk.inj (Option.some.inj h)
    obtain ⟨q1, g1⟩ := Prod.mk.inj g0
    obtain ⟨q2, g2⟩ := Prod.mk.inj g1
    obtain ⟨q3, g3⟩ := Prod.mk.inj g2
    obtain ⟨q4, g4⟩ := Prod.mk.inj g3
    obtain ⟨q5, g5⟩ := Prod.mk.inj g4
    obtain ⟨q6, g6⟩ := Prod.mk.inj g5
    obtain ⟨q7, g7⟩ := Prod.mk.inj g6
    obtain ⟨q8, q9⟩ := Prod.mk.inj g7
    subst q0 q1 q2 q3 q4 q5 q6 q7 q8 q9
    exact eMi C0 hP hS rfl rfl dX4_fits_16
def fX4_kinds_23 (F : Nat) (ppl : Nat → Int32) (psp : Nat → Int32) (psy : Nat → Int32) (psh : Nat → Int32) (sz : Nat → Int32) (nm : Nat → Int32) (fd : Nat → Int32) (psc : Int32) (pnc : Int32) (pdy : Int32) (pzz : Int32) (v1 : Int32) (v2 : Int32) : Nat → Int32 → Int32 → (Nat → Int32) → (Nat → Int32) → (Nat → Int32) → (Nat → Int32) → Int32 → Int32 → Int32 → Int32 → Option (Int32 × (Nat → Int32) × (Nat → Int32) × (Nat → Int32) × (Nat → Int32) × (Nat → Int32) × Int32 × Int32 × Int32 × Int32)
  | 0, _, _, _, _, _, _, _, _, _, _ => none
  | n + 1, v4, v5, tpl, tsp, tsy, tsh, tsc, tnc, tdy, tzz => (if 7 ≤ v5 then some (v4, tpl, tsp, tsy, tsh, fd, tsc, tnc, tdy, tzz) else Option.bind (fX4_isAsTold F ppl psp psy psh tpl tsp tsy tsh sz nm psc pnc pdy pzz tsc tnc tdy tzz v1 v2 0 v5) (fun z_3 => (if z_3.1 = 0 then fX4_kinds_23 F ppl psp psy psh sz nm fd psc pnc pdy pzz v1 v2 n v4 (v5 + 1) z_3.2.1 z_3.2.2.1 z_3.2.2.2.1 z_3.2.2.2.2.1 z_3.2.2.2.2.2.1 z_3.2.2.2.2.2.2.1 z_3.2.2.2.2.2.2.2.1 z_3.2.2.2.2.2.2.2.2 else fX4_kinds_23 F ppl psp psy psh sz nm fd psc pnc pdy pzz v1 v2 n (v4 ||| (1 <<< (v5 &&& 31))) (v5 + 1) z_3.2.1 z_3.2.2.1 z_3.2.2.2.1 z_3.2.2.2.2.1 z_3.2.2.2.2.2.1 z_3.2.2.2.2.2.2.1 z_3.2.2.2.2.2.2.2.1 z_3.2.2.2.2.2.2.2.2)))
def fX4_kinds (F : Nat) (ppl : Nat → Int32) (psp : Nat → Int32) (psy : Nat → Int32) (psh : Nat → Int32) (tpl : Nat → Int32) (tsp : Nat → Int32) (tsy : Nat → Int32) (tsh : Nat → Int32) (bt : Nat → Int32) (sz : Nat → Int32) (nm : Nat → Int32) (fd : Nat → Int32) (psc : Int32) (pnc : Int32) (pdy : Int32) (pzz : Int32) (tsc : Int32) (tnc : Int32) (tdy : Int32) (tzz : Int32) (v1 : Int32) (v2 : Int32) : Option (Int32 × (Nat → Int32) × (Nat → Int32) × (Nat → Int32) × (Nat → Int32) × (Nat → Int32) × Int32 × Int32 × Int32 × Int32) := (if (fX4_faultOfTold bt psc v1 v2) = 0 then fX4_kinds_23 F ppl psp psy psh sz nm fd psc pnc pdy pzz v1 v2 F 0 0 tpl tsp tsy tsh tsc tnc tdy tzz else some ((fX4_faultOfTold bt psc v1 v2), tpl, tsp, tsy, tsh, fX4_finding_o1 fd (fX4_faultOfTold bt psc v1 v2), tsc, tnc, tdy, tzz))
abbrev rmX4_kinds : Room := { frames := 6, cells := 0, slots := 0, locals := 148 }
theorem pdX4_kinds : (yX4_kinds.cls = RX4 ∧ yX4_kinds.cls ≠ "java/lang/invoke/MethodHandle" ∧ yX4_kinds.cls ≠ "java/lang/invoke/VarHandle" ∧ (parseMethodDescriptor yX4_kinds.desc).map (fun d => d.parameters.length) = some 2) := by decide +kernel
set_option maxHeartbeats 4000000 in
set_option maxRecDepth 100000 in
theorem lX4_kinds_23 {p : Program} {l : Launch} {e : Env} {s : State} {m : MethodId} {av : Array Value} {below : List Frame} {meth : Method} {c : Code} {D : va_G} {cI cS : ClassId} {a0 a1 a2 a3 a4 a5 a6 a7 a8 a9 a10 a11 a12 a13 a14 a15 a16 a17 a18 a19 a20 a21 a22 : Nat} {W0 : va_W} (C0 : CX p s m av meth c RX4 cX4_kinds 6 (some .int) wsX4_kinds D cI cS) (F : Nat) (ppl : Nat → Int32) (psp : Nat → Int32) (psy : Nat → Int32) (psh : Nat → Int32) (kpl : Nat → Int32) (ksp : Nat → Int32) (ksy : Nat → Int32) (ksh : Nat → Int32) (bs : Nat → Int32) (bt : Nat → Int32) (sz : Nat → Int32) (nm : Nat → Int32) (fd : Nat → Int32) (ik : Int32) (psc : Int32) (pnc : Int32) (pdy : Int32) (pzz : Int32) (ksc : Int32) (knc : Int32) (kdy : Int32) (kzz : Int32) (ln : Int32) (so : Int32) (be : Int32) (en : Int32) (va : Int32) (v1 : Int32) (v2 : Int32) (z0 : Int32) (z1 : Nat → Int32) (z2 : Nat → Int32) (z3 : Nat → Int32) (z4 : Nat → Int32) (z5 : Nat → Int32) (z6 : Int32) (z7 : Int32) (z8 : Int32) (z9 : Int32) (hD : ∀ W : va_W, W.map Prod.fst = [a0, a1, a2, a3, a4, a5, a6, a7, a8, a9, a10, a11, a12, a13, a14, a15, a16, a17, a18, a19, a20, a21, a22] → va_D (wA W0) W) : ∀ (n : Nat) (v4 : Int32) (v5 : Int32) (tpl : Nat → Int32) (tsp : Nat → Int32) (tsy : Nat → Int32) (tsh : Nat → Int32) (tsc : Int32) (tnc : Int32) (tdy : Int32) (tzz : Int32) (H : Heap) (locs : List Loc), va_P D vwCl (wX4 cI cS a0 a1 a2 a3 a4 a5 a6 a7 a8 a9 a10 a11 a12 a13 a14 a15 a16 a17 a18 a19 a20 a21 a22 ppl psp psy psh tpl tsp tsy tsh kpl ksp ksy ksh bs bt sz nm fd ik psc pnc pdy pzz tsc tnc tdy tzz ksc knc kdy kzz ln so be en va) H → va_S (wA W0) s.heap H locs → ∀ (ls : Array Slot), lv_has ls 6 [(0, .ref a0), (1, .int v1), (2, .int v2), (4, .int v4), (5, .int v5)] → fX4_kinds_23 F ppl psp psy psh sz nm fd psc pnc pdy pzz v1 v2 n v4 v5 tpl tsp tsy tsh tsc tnc tdy tzz = some (z0, z1, z2, z3, z4, z5, z6, z7, z8, z9) → W p l e rmX4_kinds s m av below meth c H locs 0 0 (MQ below (qI D W0 (wX4 cI cS a0 a1 a2 a3 a4 a5 a6 a7 a8 a9 a10 a11 a12 a13 a14 a15 a16 a17 a18 a19 a20 a21 a22 ppl psp psy psh z1 z2 z3 z4 kpl ksp ksy ksh bs bt sz nm z5 ik psc pnc pdy pzz z6 z7 z8 z9 ksc knc kdy kzz ln so be en va) z0) av s 0 0 (wA W0)) (F0 m 23 ls []) := by
  obtain ⟨hx, hb, hr, hml, hown, hts, hlk, hE⟩ := id C0
  intro n
  induction n with
  | zero =>
    intro v4 v5 tpl tsp tsy tsh tsc tnc tdy tzz H locs hP hS ls hl h
    cases (show none = some (z0, z1, z2, z3, z4, z5, z6, z7, z8, z9) from h)
  | succ n ih =>
    intro v4 v5 tpl tsp tsy tsh tsc tnc tdy tzz H locs hP hS ls hl h
    rw [fX4_kinds_23] at h
    refine lv_iload hx hb dX4_kinds_23 (lv_at hl 4 rfl) ?_
    refine lv_bipush (v := 7) hx hb dX4_kinds_25 (by decide) ?_
    refine lv_icmp_ge (tgt := 57) hx hb dX4_kinds_27 (by decide) (fun c_2 => ?_) (fun c_2 => ?_)
    · have h := ifp c_2 h
      refine lv_iload hx hb dX4_kinds_57 (lv_at hl 3 rfl) ?_
      obtain ⟨q0, g0⟩ := Prod.mk.inj (Option.some.inj h)
      obtain ⟨q1, g1⟩ := Prod.mk.inj g0
      obtain ⟨q2, g2⟩ := Prod.mk.inj g1
      obtain ⟨q3, g3⟩ := Prod.mk.inj g2
      obtain ⟨q4, g4⟩ := Prod.mk.inj g3
      obtain ⟨q5, g5⟩ := Prod.mk.inj g4
      obtain ⟨q6, g6⟩ := Prod.mk.inj g5
      obtain ⟨q7, g7⟩ := Prod.mk.inj g6
      obtain ⟨q8, q9⟩ := Prod.mk.inj g7
      subst q0 q1 q2 q3 q4 q5 q6 q7 q8 q9
      exact eMi C0 hP hS rfl rfl dX4_kinds_59
    · have h := ifn c_2 h
      refine lv_aload_n hx hb dX4_kinds_30 rfl (lv_at hl 0 rfl) ?_
      refine lv_iload_n hx hb dX4_kinds_31 rfl (lv_at hl 1 rfl) ?_
      refine lv_iload_n hx hb dX4_kinds_32 rfl (lv_at hl 2 rfl) ?_
      refine lv_iconst (v := 0) hx hb dX4_kinds_33 (by decide) ?_
      refine lv_iload hx hb dX4_kinds_34 (lv_at hl 4 rfl) ?_
      obtain ⟨z_3, e_4, h⟩ := bds h
      have hPc := hP.sub (ws' := (wX4 cI cS a0 a1 a2 a3 a4 a5 a6 a7 a8 a9 a10 a11 a12 a13 a14 a15 a16 a17 a18 a19 a20 a21 a22 ppl psp psy psh tpl tsp tsy tsh kpl ksp ksy ksh bs bt sz nm fd ik psc pnc pdy pzz tsc tnc tdy tzz ksc knc kdy kzz ln so be en va)) [0, 1, 2, 3, 4, 5, 6, 7, 8, 9, 10, 11, 12, 13, 14, 15, 16, 17, 18, 19, 20, 21, 22] rfl
      refine kMi (wf' := (wX4 cI cS a0 a1 a2 a3 a4 a5 a6 a7 a8 a9 a10 a11 a12 a13 a14 a15 a16 a17 a18 a19 a20 a21 a22 ppl psp psy psh z_3.2.1 z_3.2.2.1 z_3.2.2.2.1 z_3.2.2.2.2.1 kpl ksp ksy ksh bs bt sz nm fd ik psc pnc pdy pzz z_3.2.2.2.2.2.1 z_3.2.2.2.2.2.2.1 z_3.2.2.2.2.2.2.2.1 z_3.2.2.2.2.2.2.2.2 ksc knc kdy kzz ln so be en va)) [0, 1, 2, 3, 4, 5, 6, 7, 8, 9, 10, 11, 12, 13, 14, 15, 16, 17, 18, 19, 20, 21, 22] [some 0, some 1, some 2, some 3, some 4, some 5, some 6, some 7, some 8, some 9, some 10, some 11, some 12, some 13, some 14, some 15, some 16, some 17, some 18, some 19, some 20, some 21, some 22] (rV C0 (tX4_isAsTold l D cI cS F a0 a1 a2 a3 a4 a5 a6 a7 a8 a9 a10 a11 a12 a13 a14 a15 a16 a17 a18 a19 a20 a21 a22 ppl psp psy psh tpl tsp tsy tsh kpl ksp ksy ksh bs bt sz nm fd ik psc pnc pdy pzz tsc tnc tdy tzz ksc knc kdy kzz ln so be en va v1 v2 0 v5 z_3.1 z_3.2.1 z_3.2.2.1 z_3.2.2.2.1 z_3.2.2.2.2.1 z_3.2.2.2.2.2.1 z_3.2.2.2.2.2.2.1 z_3.2.2.2.2.2.2.2.1 z_3.2.2.2.2.2.2.2.2 e_4 (((hD (wX4 cI cS a0 a1 a2 a3 a4 a5 a6 a7 a8 a9 a10 a11 a12 a13 a14 a15 a16 a17 a18 a19 a20 a21 a22 ppl psp psy psh tpl tsp tsy tsh kpl ksp ksy ksh bs bt sz nm fd ik psc pnc pdy pzz tsc tnc tdy tzz ksc knc kdy kzz ln so be en va) rfl).sub [0, 1, 2, 3, 4, 5, 6, 7, 8, 9, 10, 11, 12, 13, 14, 15, 16, 17, 18, 19, 20, 21, 22] (by decide) rfl).weaken (fun _ _ _ _ => trivial))) RX4 gX4_kinds_X4_isAsTold rfl ⟨rfl, rfl⟩ pdX4_isAsTold rfl ⟨Nat.le_of_ble_eq_true rfl, Nat.le_of_ble_eq_true rfl⟩ (fun _ _ _ _ q => q) (va_recv hE.1 hPc (ci := 3) (q0 := 0) rfl rfl) (fun U hU _ _ => by rw [hU]; exact hPc) hl.1 rfl (Nat.le_of_ble_eq_true rfl) dX4_kinds_36 ⟨Nat.zero_le _, Nat.zero_le _⟩) hP (hD _ rfl) hS rfl rfl rfl (fun H locs hP hS => ?_)
      refine lv_if_eq (tgt := 51) hx hb dX4_kinds_39 (by decide) (fun c_5 => ?_) (fun c_5 => ?_)
      · have h := ifp c_5 h
        refine lv_iinc (v := v5 + 1) (lv' := [(5, .int (v5 + 1)), (0, .ref a0), (1, .int v1), (2, .int v2), (4, .int v4)]) hx hb dX4_kinds_51 hl (k := 4) rfl rfl (by decide) rfl (fun ls hl => ?_)
        refine lv_goto (tgt := 23) hx hb dX4_kinds_54 (by decide) ?_
        exact ih v4 (v5 + 1) z_3.2.1 z_3.2.2.1 z_3.2.2.2.1 z_3.2.2.2.2.1 z_3.2.2.2.2.2.1 z_3.2.2.2.2.2.2.1 z_3.2.2.2.2.2.2.2.1 z_3.2.2.2.2.2.2.2.2 _ _ hP hS _ (lv_sub hl [1, 2, 3, 4, 0] rfl) h
      · have h := ifn c_5 h
        refine lv_iload hx hb dX4_kinds_42 (lv_at hl 3 rfl) ?_
        refine lv_iconst (v := 1) hx hb dX4_kinds_44 (by decide) ?_
        refine lv_iload hx hb dX4_kinds_45 (lv_at hl 4 rfl) ?_
        refine lv_ishl hx hb dX4_kinds_47 ?_
        refine lv_ior hx hb dX4_kinds_48 ?_
        refine lv_istore (lv' := [(4, .int (v4 ||| (1 <<< (v5 &&& 31)))), (0, .ref a0), (1, .int v1), (2, .int v2), (5, .int v5)]) hx hb dX4_kinds_49 hl (by decide) rfl (fun ls hl => ?_)
        refine lv_iinc (v := v5 + 1) (lv' := [(5, .int (v5 + 1)), (4, .int (v4 ||| (1 <<< (v5 &&& 31)))), (0, .ref a0), (1, .int v1), (2, .int v2)]) hx hb dX4_kinds_51 hl (k := 4) rfl rfl (by decide) rfl (fun ls hl => ?_)
        refine lv_goto (tgt := 23) hx hb dX4_kinds_54 (by decide) ?_
        exact ih (v4 ||| (1 <<< (v5 &&& 31))) (v5 + 1) z_3.2.1 z_3.2.2.1 z_3.2.2.2.1 z_3.2.2.2.2.1 z_3.2.2.2.2.2.1 z_3.2.2.2.2.2.2.1 z_3.2.2.2.2.2.2.2.1 z_3.2.2.2.2.2.2.2.2 _ _ hP hS _ (lv_sub hl [2, 3, 4, 1, 0] rfl) h
set_option maxHeartbeats 4000000 in
set_option maxRecDepth 100000 in
theorem tX4_kinds (l : Launch) (D : va_G) (cI cS : ClassId) (F : Nat) (a0 a1 a2 a3 a4 a5 a6 a7 a8 a9 a10 a11 a12 a13 a14 a15 a16 a17 a18 a19 a20 a21 a22 : Nat) (ppl : Nat → Int32) (psp : Nat → Int32) (psy : Nat → Int32) (psh : Nat → Int32) (tpl : Nat → Int32) (tsp : Nat → Int32) (tsy : Nat → Int32) (tsh : Nat → Int32) (kpl : Nat → Int32) (ksp : Nat → Int32) (ksy : Nat → Int32) (ksh : Nat → Int32) (bs : Nat → Int32) (bt : Nat → Int32) (sz : Nat → Int32) (nm : Nat → Int32) (fd : Nat → Int32) (ik : Int32) (psc : Int32) (pnc : Int32) (pdy : Int32) (pzz : Int32) (tsc : Int32) (tnc : Int32) (tdy : Int32) (tzz : Int32) (ksc : Int32) (knc : Int32) (kdy : Int32) (kzz : Int32) (ln : Int32) (so : Int32) (be : Int32) (en : Int32) (va : Int32) (v1 : Int32) (v2 : Int32) (z0 : Int32) (z1 : Nat → Int32) (z2 : Nat → Int32) (z3 : Nat → Int32) (z4 : Nat → Int32) (z5 : Nat → Int32) (z6 : Int32) (z7 : Int32) (z8 : Int32) (z9 : Int32) (h : fX4_kinds F ppl psp psy psh tpl tsp tsy tsh bt sz nm fd psc pnc pdy pzz tsc tnc tdy tzz v1 v2 = some (z0, z1, z2, z3, z4, z5, z6, z7, z8, z9)) (hD0 : va_D (fun _ => True) (wX4 cI cS a0 a1 a2 a3 a4 a5 a6 a7 a8 a9 a10 a11 a12 a13 a14 a15 a16 a17 a18 a19 a20 a21 a22 ppl psp psy psh tpl tsp tsy tsh kpl ksp ksy ksh bs bt sz nm fd ik psc pnc pdy pzz tsc tnc tdy tzz ksc knc kdy kzz ln so be en va)) : Met l yX4_kinds wsX4_kinds rmX4_kinds (PZ D cI cS [.ref a0, .int v1, .int v2] (fun U => va_P D vwCl (wX4 cI cS a0 a1 a2 a3 a4 a5 a6 a7 a8 a9 a10 a11 a12 a13 a14 a15 a16 a17 a18 a19 a20 a21 a22 ppl psp psy psh tpl tsp tsy tsh kpl ksp ksy ksh bs bt sz nm fd ik psc pnc pdy pzz tsc tnc tdy tzz ksc knc kdy kzz ln so be en va) U.heap)) (qI D (wX4 cI cS a0 a1 a2 a3 a4 a5 a6 a7 a8 a9 a10 a11 a12 a13 a14 a15 a16 a17 a18 a19 a20 a21 a22 ppl psp psy psh tpl tsp tsy tsh kpl ksp ksy ksh bs bt sz nm fd ik psc pnc pdy pzz tsc tnc tdy tzz ksc knc kdy kzz ln so be en va) (wX4 cI cS a0 a1 a2 a3 a4 a5 a6 a7 a8 a9 a10 a11 a12 a13 a14 a15 a16 a17 a18 a19 a20 a21 a22 ppl psp psy psh z1 z2 z3 z4 kpl ksp ksy ksh bs bt sz nm z5 ik psc pnc pdy pzz z6 z7 z8 z9 ksc knc kdy kzz ln so be en va) z0) 0 0 (wA (wX4 cI cS a0 a1 a2 a3 a4 a5 a6 a7 a8 a9 a10 a11 a12 a13 a14 a15 a16 a17 a18 a19 a20 a21 a22 ppl psp psy psh tpl tsp tsy tsh kpl ksp ksy ksh bs bt sz nm fd ik psc pnc pdy pzz tsc tnc tdy tzz ksc knc kdy kzz ln so be en va)) := by
  refine Met.mk RX4 (by decide) rfl rfl (Nat.le_of_ble_eq_true rfl) ?_
  intro p e s m below meth c ls C0 hP hl
  have hl : lv_has ls 6 [(0, .ref a0), (1, .int v1), (2, .int v2)] := hl
  obtain ⟨hx, hb, hr, hml, hown, hts, hlk, hE⟩ := id C0
  have hD : ∀ W : va_W, W.map Prod.fst = [a0, a1, a2, a3, a4, a5, a6, a7, a8, a9, a10, a11, a12, a13, a14, a15, a16, a17, a18, a19, a20, a21, a22] → va_D (wA (wX4 cI cS a0 a1 a2 a3 a4 a5 a6 a7 a8 a9 a10 a11 a12 a13 a14 a15 a16 a17 a18 a19 a20 a21 a22 ppl psp psy psh tpl tsp tsy tsh kpl ksp ksy ksh bs bt sz nm fd ik psc pnc pdy pzz tsc tnc tdy tzz ksc knc kdy kzz ln so be en va)) W := fun W hW => hD0.own.re hW
  have hS : va_S (wA (wX4 cI cS a0 a1 a2 a3 a4 a5 a6 a7 a8 a9 a10 a11 a12 a13 a14 a15 a16 a17 a18 a19 a20 a21 a22 ppl psp psy psh tpl tsp tsy tsh kpl ksp ksy ksh bs bt sz nm fd ik psc pnc pdy pzz tsc tnc tdy tzz ksc knc kdy kzz ln so be en va)) s.heap s.heap [] := va_S.rf
  have hP : va_P D vwCl (wX4 cI cS a0 a1 a2 a3 a4 a5 a6 a7 a8 a9 a10 a11 a12 a13 a14 a15 a16 a17 a18 a19 a20 a21 a22 ppl psp psy psh tpl tsp tsy tsh kpl ksp ksy ksh bs bt sz nm fd ik psc pnc pdy pzz tsc tnc tdy tzz ksc knc kdy kzz ln so be en va) s.heap := hP
  rw [fX4_kinds] at h
  refine lv_aload_n hx hb dX4_kinds_0 rfl (lv_at hl 0 rfl) ?_
  refine lv_iload_n hx hb dX4_kinds_1 rfl (lv_at hl 1 rfl) ?_
  refine lv_iload_n hx hb dX4_kinds_2 rfl (lv_at hl 2 rfl) ?_
  have hPc := hP.sub (ws' := (wX4 cI cS a0 a1 a2 a3 a4 a5 a6 a7 a8 a9 a10 a11 a12 a13 a14 a15 a16 a17 a18 a19 a20 a21 a22 ppl psp psy psh tpl tsp tsy tsh kpl ksp ksy ksh bs bt sz nm fd ik psc pnc pdy pzz tsc tnc tdy tzz ksc knc kdy kzz ln so be en va)) [0, 1, 2, 3, 4, 5, 6, 7, 8, 9, 10, 11, 12, 13, 14, 15, 16, 17, 18, 19, 20, 21, 22] rfl
  refine kRi (rV C0 (tX4_faultOfTold l D cI cS a0 a1 a2 a3 a4 a5 a6 a7 a8 a9 a10 a11 a12 a13 a14 a15 a16 a17 a18 a19 a20 a21 a22 ppl psp psy psh tpl tsp tsy tsh kpl ksp ksy ksh bs bt sz nm fd ik psc pnc pdy pzz tsc tnc tdy tzz ksc knc kdy kzz ln so be en va v1 v2 (fX4_faultOfTold bt psc v1 v2) rfl) RX4 gX4_kinds_X4_faultOfTold rfl ⟨rfl, rfl⟩ pdX4_faultOfTold rfl ⟨Nat.le_of_ble_eq_true rfl, Nat.le_of_ble_eq_true rfl⟩ (fun _ _ _ _ q => q) (va_recv hE.1 hPc (ci := 3) (q0 := 0) rfl rfl) (fun U hU _ _ => by rw [hU]; exact hPc) hl.1 rfl (Nat.le_of_ble_eq_true rfl) dX4_kinds_3 ⟨Nat.zero_le _, Nat.zero_le _⟩) ?_
  refine lv_istore_n (lv' := [(3, .int (fX4_faultOfTold bt psc v1 v2)), (0, .ref a0), (1, .int v1), (2, .int v2)]) hx hb dX4_kinds_6 rfl hl (by decide) rfl (fun ls hl => ?_)
  refine lv_iload_n hx hb dX4_kinds_7 rfl (lv_at hl 0 rfl) ?_
  refine lv_if_eq (tgt := 17) hx hb dX4_kinds_8 (by decide) (fun c_1 => ?_) (fun c_1 => ?_)
  · have h := ifp c_1 h
    refine lv_iconst (v := 0) hx hb dX4_kinds_17 (by decide) ?_
    refine lv_istore (lv' := [(4, .int 0), (3, .int (fX4_faultOfTold bt psc v1 v2)), (0, .ref a0), (1, .int v1), (2, .int v2)]) hx hb dX4_kinds_18 hl (by decide) rfl (fun ls hl => ?_)
    refine lv_iconst (v := 0) hx hb dX4_kinds_20 (by decide) ?_
    refine lv_istore (lv' := [(5, .int 0), (4, .int 0), (3, .int (fX4_faultOfTold bt psc v1 v2)), (0, .ref a0), (1, .int v1), (2, .int v2)]) hx hb dX4_kinds_21 hl (by decide) rfl (fun ls hl => ?_)
    exact lX4_kinds_23 (l := l) (e := e) (below := below) C0 F ppl psp psy psh kpl ksp ksy ksh bs bt sz nm fd ik psc pnc pdy pzz ksc knc kdy kzz ln so be en va v1 v2 z0 z1 z2 z3 z4 z5 z6 z7 z8 z9 hD F 0 0 tpl tsp tsy tsh tsc tnc tdy tzz _ _ hP hS _ (lv_sub hl [3, 4, 5, 1, 0] rfl) h
  · have h := ifn c_1 h
    refine lv_aload_n hx hb dX4_kinds_11 rfl (lv_at hl 1 rfl) ?_
    refine lv_iload_n hx hb dX4_kinds_12 rfl (lv_at hl 0 rfl) ?_
    have hPc := hP.sub (ws' := (wX4 cI cS a0 a1 a2 a3 a4 a5 a6 a7 a8 a9 a10 a11 a12 a13 a14 a15 a16 a17 a18 a19 a20 a21 a22 ppl psp psy psh tpl tsp tsy tsh kpl ksp ksy ksh bs bt sz nm fd ik psc pnc pdy pzz tsc tnc tdy tzz ksc knc kdy kzz ln so be en va)) [0, 1, 2, 3, 4, 5, 6, 7, 8, 9, 10, 11, 12, 13, 14, 15, 16, 17, 18, 19, 20, 21, 22] rfl
    refine kMi (wf' := (wX4 cI cS a0 a1 a2 a3 a4 a5 a6 a7 a8 a9 a10 a11 a12 a13 a14 a15 a16 a17 a18 a19 a20 a21 a22 ppl psp psy psh tpl tsp tsy tsh kpl ksp ksy ksh bs bt sz nm (fX4_finding_o1 fd (fX4_faultOfTold bt psc v1 v2)) ik psc pnc pdy pzz tsc tnc tdy tzz ksc knc kdy kzz ln so be en va)) [0, 1, 2, 3, 4, 5, 6, 7, 8, 9, 10, 11, 12, 13, 14, 15, 16, 17, 18, 19, 20, 21, 22] [some 0, some 1, some 2, some 3, some 4, some 5, some 6, some 7, some 8, some 9, some 10, some 11, some 12, some 13, some 14, some 15, some 16, some 17, some 18, some 19, some 20, some 21, some 22] (rV C0 (tX4_finding l D cI cS a0 a1 a2 a3 a4 a5 a6 a7 a8 a9 a10 a11 a12 a13 a14 a15 a16 a17 a18 a19 a20 a21 a22 ppl psp psy psh tpl tsp tsy tsh kpl ksp ksy ksh bs bt sz nm fd ik psc pnc pdy pzz tsc tnc tdy tzz ksc knc kdy kzz ln so be en va (fX4_faultOfTold bt psc v1 v2) (fX4_faultOfTold bt psc v1 v2) (fX4_finding_o1 fd (fX4_faultOfTold bt psc v1 v2)) (eeX4_finding ..) (((hD (wX4 cI cS a0 a1 a2 a3 a4 a5 a6 a7 a8 a9 a10 a11 a12 a13 a14 a15 a16 a17 a18 a19 a20 a21 a22 ppl psp psy psh tpl tsp tsy tsh kpl ksp ksy ksh bs bt sz nm fd ik psc pnc pdy pzz tsc tnc tdy tzz ksc knc kdy kzz ln so be en va) rfl).sub [0, 1, 2, 3, 4, 5, 6, 7, 8, 9, 10, 11, 12, 13, 14, 15, 16, 17, 18, 19, 20, 21, 22] (by decide) rfl).weaken (fun _ _ _ _ => trivial))) RX4 gX4_kinds_X4_finding rfl ⟨rfl, rfl⟩ pdX4_finding rfl ⟨Nat.le_of_ble_eq_true rfl, Nat.le_of_ble_eq_true rfl⟩ (fun _ _ _ _ q => q) (va_recv hE.1 hPc (ci := 3) (q0 := 0) rfl rfl) (fun U hU _ _ => by rw [hU]; exact hPc) hl.1 rfl (Nat.le_of_ble_eq_true rfl) dX4_kinds_13 ⟨Nat.zero_le _, Nat.zero_le _⟩) hP (hD _ rfl) hS rfl rfl rfl (fun H locs hP hS => ?_)
    obtain ⟨q0, g0⟩ := Prod.mk.inj (Option.some.inj h)
    obtain ⟨q1, g1⟩ := Prod.mk.inj g0
    obtain ⟨q2, g2⟩ := Prod.mk.inj g1
    obtain ⟨q3, g3⟩ := Prod.mk.inj g2
    obtain ⟨q4, g4⟩ := Prod.mk.inj g3
    obtain ⟨q5, g5⟩ := Prod.mk.inj g4
    obtain ⟨q6, g6⟩ := Prod.mk.inj g5
    obtain ⟨q7, g7⟩ := Prod.mk.inj g6
    obtain ⟨q8, q9⟩ := Prod.mk.inj g7
    subst q0 q1 q2 q3 q4 q5 q6 q7 q8 q9
    exact eMi C0 hP hS rfl rfl dX4_kinds_16
def fX4_committee_40 (F : Nat) (fd : Nat → Int32) (psc : Int32) (pnc : Int32) (v1 : Int32) : Nat → Int32 → (Nat → Int32) → (Nat → Int32) → (Nat → Int32) → Int32 → Int32 → Option (Int32 × (Nat → Int32) × (Nat → Int32) × (Nat → Int32) × (Nat → Int32) × Int32 × Int32)
  | 0, _, _, _, _, _, _ => none
  | n + 1, v2, ppl, psy, psh, pdy, pzz => (if v1 ≤ v2 then Option.bind (fX0_shipsInPort F psh pnc) (fun z_4 => some (z_4, ppl, psy, psh, fd, pdy, pzz)) else Option.bind (fX0_passDays F (fX0_setPlace ppl (fX0_placeOfDay pdy) ((fX0_draw_o0 pzz) - (fX0_draw_o0 pzz) / 9 * 9)) (fX0_makeVaguer psy psc ((fX0_draw_o0 (fX0_draw_o1 pzz)) - (fX0_draw_o0 (fX0_draw_o1 pzz)) / 8 * 8)) psh psc pnc pdy 1 63) (fun z_6 => fX4_committee_40 F fd psc pnc v1 n (v2 + 1) (fX0_setPlace ppl (fX0_placeOfDay pdy) ((fX0_draw_o0 pzz) - (fX0_draw_o0 pzz) / 9 * 9)) z_6.1 z_6.2.1 z_6.2.2 (fX0_draw_o1 (fX0_draw_o1 pzz))))
def fX4_committee (F : Nat) (ppl : Nat → Int32) (psy : Nat → Int32) (psh : Nat → Int32) (fd : Nat → Int32) (psc : Int32) (pnc : Int32) (pdy : Int32) (pzz : Int32) (v1 : Int32) : Option (Int32 × (Nat → Int32) × (Nat → Int32) × (Nat → Int32) × (Nat → Int32) × Int32 × Int32) := (if (fX4_within v1 1 20) = 0 then some ((-1000001), ppl, psy, psh, fX4_finding_o1 fd (-1000001), pdy, pzz) else (if (pdy + v1) ≤ 99999 then fX4_committee_40 F fd psc pnc v1 F 0 ppl psy psh pdy pzz else some ((-1000005), ppl, psy, psh, fX4_finding_o1 fd (-1000005), pdy, pzz)))
abbrev rmX4_committee : Room := { frames := 5, cells := 0, slots := 0, locals := 120 }
theorem pdX4_committee : (yX4_committee.cls = RX4 ∧ yX4_committee.cls ≠ "java/lang/invoke/MethodHandle" ∧ yX4_committee.cls ≠ "java/lang/invoke/VarHandle" ∧ (parseMethodDescriptor yX4_committee.desc).map (fun d => d.parameters.length) = some 1) := by decide +kernel
set_option maxHeartbeats 4000000 in
set_option maxRecDepth 100000 in
theorem lX4_committee_40 {p : Program} {l : Launch} {e : Env} {s : State} {m : MethodId} {av : Array Value} {below : List Frame} {meth : Method} {c : Code} {D : va_G} {cI cS : ClassId} {a0 a1 a2 a3 a4 a5 a6 a7 a8 a9 a10 a11 a12 a13 a14 a15 a16 a17 a18 a19 a20 a21 a22 : Nat} {W0 : va_W} (C0 : CX p s m av meth c RX4 cX4_committee 3 (some .int) wsX4_committee D cI cS) (F : Nat) (psp : Nat → Int32) (tpl : Nat → Int32) (tsp : Nat → Int32) (tsy : Nat → Int32) (tsh : Nat → Int32) (kpl : Nat → Int32) (ksp : Nat → Int32) (ksy : Nat → Int32) (ksh : Nat → Int32) (bs : Nat → Int32) (bt : Nat → Int32) (sz : Nat → Int32) (nm : Nat → Int32) (fd : Nat → Int32) (ik : Int32) (psc : Int32) (pnc : Int32) (tsc : Int32) (tnc : Int32) (tdy : Int32) (tzz : Int32) (ksc : Int32) (knc : Int32) (kdy : Int32) (kzz : Int32) (ln : Int32) (so : Int32) (be : Int32) (en : Int32) (va : Int32) (v1 : Int32) (z0 : Int32) (z1 : Nat → Int32) (z2 : Nat → Int32) (z3 : Nat → Int32) (z4 : Nat → Int32) (z5 : Int32) (z6 : Int32) (hD : ∀ W : va_W, W.map Prod.fst = [a0, a1, a2, a3, a4, a5, a6, a7, a8, a9, a10, a11, a12, a13, a14, a15, a16, a17, a18, a19, a20, a21, a22] → va_D (wA W0) W) : ∀ (n : Nat) (v2 : Int32) (ppl : Nat → Int32) (psy : Nat → Int32) (psh : Nat → Int32) (pdy : Int32) (pzz : Int32) (H : Heap) (locs : List Loc), va_P D vwCl (wX4 cI cS a0 a1 a2 a3 a4 a5 a6 a7 a8 a9 a10 a11 a12 a13 a14 a15 a16 a17 a18 a19 a20 a21 a22 ppl psp psy psh tpl tsp tsy tsh kpl ksp ksy ksh bs bt sz nm fd ik psc pnc pdy pzz tsc tnc tdy tzz ksc knc kdy kzz ln so be en va) H → va_S (wA W0) s.heap H locs → ∀ (ls : Array Slot), lv_has ls 3 [(0, .ref a0), (1, .int v1), (2, .int v2)] → fX4_committee_40 F fd psc pnc v1 n v2 ppl psy psh pdy pzz = some (z0, z1, z2, z3, z4, z5, z6) → W p l e rmX4_committee s m av below meth c H locs 0 0 (MQ below (qI D W0 (wX4 cI cS a0 a1 a2 a3 a4 a5 a6 a7 a8 a9 a10 a11 a12 a13 a14 a15 a16 a17 a18 a19 a20 a21 a22 z1 psp z2 z3 tpl tsp tsy tsh kpl ksp ksy ksh bs bt sz nm z4 ik psc pnc z5 z6 tsc tnc tdy tzz ksc knc kdy kzz ln so be en va) z0) av s 0 0 (wA W0)) (F0 m 40 ls []) := by
  obtain ⟨hx, hb, hr, hml, hown, hts, hlk, hE⟩ := id C0
  have hinX0 : ∀ w ∈ u_ws RX0 TX0 8, w ∈ wsX4_committee := by decide +kernel
  have hinX4 : ∀ w ∈ u_ws RX4 TX4 7, w ∈ wsX4_committee := by decide +kernel
  intro n
  induction n with
  | zero =>
    intro v2 ppl psy psh pdy pzz H locs hP hS ls hl h
    cases (show none = some (z0, z1, z2, z3, z4, z5, z6) from h)
  | succ n ih =>
    intro v2 ppl psy psh pdy pzz H locs hP hS ls hl h
    rw [fX4_committee_40] at h
    refine lv_iload_n hx hb dX4_committee_40 rfl (lv_at hl 2 rfl) ?_
    refine lv_iload_n hx hb dX4_committee_41 rfl (lv_at hl 1 rfl) ?_
    refine lv_icmp_ge (tgt := 102) hx hb dX4_committee_42 (by decide) (fun c_3 => ?_) (fun c_3 => ?_)
    · have h := ifp c_3 h
      refine lv_aload_n hx hb dX4_committee_102 rfl (lv_at hl 0 rfl) ?_
      refine va_get (D := D) (ci := 3) (v := .ref a1) (C := RX4) (T := TX4) (N := 7) hx hb hts hinX4 hown hE.1 hP 0 rfl rfl 0 (by decide) (hts _ (List.mem_of_getElem? (i := 2) rfl)) (fun _ h9 => h9) rfl dX4_committee_103 ?_
      obtain ⟨z_4, e_5, h⟩ := bds h
      have hPc := hP.sub (ws' := (wX0 cI cS a1 a2 a3 a4 a5 ppl psp psy psh psc pnc pdy pzz)) [1, 2, 3, 4, 5] rfl
      refine kRi (rV C0 (tX0_shipsInPort l D cI cS F a1 a2 a3 a4 a5 ppl psp psy psh psc pnc pdy pzz  z_4 e_5) RX0 gX4_committee_X0_shipsInPort rfl ⟨rfl, rfl⟩ pdX0_shipsInPort rfl ⟨Nat.le_of_ble_eq_true rfl, Nat.le_of_ble_eq_true rfl⟩ (fun _ _ _ _ q => q) (va_recv hE.1 hPc (ci := 0) (q0 := 0) rfl rfl) (fun U hU _ _ => by rw [hU]; exact hPc) hl.1 rfl (Nat.le_of_ble_eq_true rfl) dX4_committee_106 ⟨Nat.zero_le _, Nat.zero_le _⟩) ?_
      obtain ⟨q0, g0⟩ := Prod.mk.inj (Option.some.inj h)
      obtain ⟨q1, g1⟩ := Prod.mk.inj g0
      obtain ⟨q2, g2⟩ := Prod.mk.inj g1
      obtain ⟨q3, g3⟩ := Prod.mk.inj g2
      obtain ⟨q4, g4⟩ := Prod.mk.inj g3
      obtain ⟨q5, q6⟩ := Prod.mk.inj g4
      subst q0 q1 q2 q3 q4 q5 q6
      exact eMi C0 hP hS rfl rfl dX4_committee_109
    · have h := ifn c_3 h
      refine lv_aload_n hx hb dX4_committee_45 rfl (lv_at hl 0 rfl) ?_
      refine va_get (D := D) (ci := 3) (v := .ref a1) (C := RX4) (T := TX4) (N := 7) hx hb hts hinX4 hown hE.1 hP 0 rfl rfl 0 (by decide) (hts _ (List.mem_of_getElem? (i := 2) rfl)) (fun _ h9 => h9) rfl dX4_committee_46 ?_
      refine lv_aload_n hx hb dX4_committee_49 rfl (lv_at hl 0 rfl) ?_
      refine va_get (D := D) (ci := 3) (v := .ref a1) (C := RX4) (T := TX4) (N := 7) hx hb hts hinX4 hown hE.1 hP 0 rfl rfl 0 (by decide) (hts _ (List.mem_of_getElem? (i := 2) rfl)) (fun _ h9 => h9) rfl dX4_committee_50 ?_
      have hPc := hP.sub (ws' := (wX0 cI cS a1 a2 a3 a4 a5 ppl psp psy psh psc pnc pdy pzz)) [1, 2, 3, 4, 5] rfl
      refine kRi (rV C0 (tX0_placeOfDay l D cI cS a1 a2 a3 a4 a5 ppl psp psy psh psc pnc pdy pzz  (fX0_placeOfDay pdy) rfl) RX0 gX4_committee_X0_placeOfDay rfl ⟨rfl, rfl⟩ pdX0_placeOfDay rfl ⟨Nat.le_of_ble_eq_true rfl, Nat.le_of_ble_eq_true rfl⟩ (fun _ _ _ _ q => q) (va_recv hE.1 hPc (ci := 0) (q0 := 0) rfl rfl) (fun U hU _ _ => by rw [hU]; exact hPc) hl.1 rfl (Nat.le_of_ble_eq_true rfl) dX4_committee_53 ⟨Nat.zero_le _, Nat.zero_le _⟩) ?_
      refine lv_aload_n hx hb dX4_committee_56 rfl (lv_at hl 0 rfl) ?_
      refine va_get (D := D) (ci := 3) (v := .ref a1) (C := RX4) (T := TX4) (N := 7) hx hb hts hinX4 hown hE.1 hP 0 rfl rfl 0 (by decide) (hts _ (List.mem_of_getElem? (i := 2) rfl)) (fun _ h9 => h9) rfl dX4_committee_57 ?_
      have hPc := hP.sub (ws' := (wX0 cI cS a1 a2 a3 a4 a5 ppl psp psy psh psc pnc pdy pzz)) [1, 2, 3, 4, 5] rfl
      refine kMi (wf' := (wX4 cI cS a0 a1 a2 a3 a4 a5 a6 a7 a8 a9 a10 a11 a12 a13 a14 a15 a16 a17 a18 a19 a20 a21 a22 ppl psp psy psh tpl tsp tsy tsh kpl ksp ksy ksh bs bt sz nm fd ik psc pnc pdy (fX0_draw_o1 pzz) tsc tnc tdy tzz ksc knc kdy kzz ln so be en va)) [1, 2, 3, 4, 5] [none, some 0, some 1, some 2, some 3, some 4, none, none, none, none, none, none, none, none, none, none, none, none, none, none, none, none, none] (rV C0 (tX0_draw l D cI cS a1 a2 a3 a4 a5 ppl psp psy psh psc pnc pdy pzz  (fX0_draw_o0 pzz) (fX0_draw_o1 pzz) (eeX0_draw ..) (((hD (wX4 cI cS a0 a1 a2 a3 a4 a5 a6 a7 a8 a9 a10 a11 a12 a13 a14 a15 a16 a17 a18 a19 a20 a21 a22 ppl psp psy psh tpl tsp tsy tsh kpl ksp ksy ksh bs bt sz nm fd ik psc pnc pdy pzz tsc tnc tdy tzz ksc knc kdy kzz ln so be en va) rfl).sub [1, 2, 3, 4, 5] (by decide) rfl).weaken (fun _ _ _ _ => trivial))) RX0 gX4_committee_X0_draw rfl ⟨rfl, rfl⟩ pdX0_draw rfl ⟨Nat.le_of_ble_eq_true rfl, Nat.le_of_ble_eq_true rfl⟩ (fun _ _ _ _ q => q) (va_recv hE.1 hPc (ci := 0) (q0 := 0) rfl rfl) (fun U hU _ _ => by rw [hU]; exact hPc) hl.1 rfl (Nat.le_of_ble_eq_true rfl) dX4_committee_60 ⟨Nat.zero_le _, Nat.zero_le _⟩) hP (hD _ rfl) hS rfl rfl rfl (fun H locs hP hS => ?_)
      refine lv_bipush (v := 9) hx hb dX4_committee_63 (by decide) ?_
      refine lv_irem hx hb dX4_committee_65 (by decide) ?_
      have hPc := hP.sub (ws' := (wX0 cI cS a1 a2 a3 a4 a5 ppl psp psy psh psc pnc pdy (fX0_draw_o1 pzz))) [1, 2, 3, 4, 5] rfl
      refine kMv (wf' := (wX4 cI cS a0 a1 a2 a3 a4 a5 a6 a7 a8 a9 a10 a11 a12 a13 a14 a15 a16 a17 a18 a19 a20 a21 a22 (fX0_setPlace ppl (fX0_placeOfDay pdy) ((fX0_draw_o0 pzz) - (fX0_draw_o0 pzz) / 9 * 9)) psp psy psh tpl tsp tsy tsh kpl ksp ksy ksh bs bt sz nm fd ik psc pnc pdy (fX0_draw_o1 pzz) tsc tnc tdy tzz ksc knc kdy kzz ln so be en va)) [1, 2, 3, 4, 5] [none, some 0, some 1, some 2, some 3, some 4, none, none, none, none, none, none, none, none, none, none, none, none, none, none, none, none, none] (rV C0 (tX0_setPlace l D cI cS a1 a2 a3 a4 a5 ppl psp psy psh psc pnc pdy (fX0_draw_o1 pzz) (fX0_placeOfDay pdy) ((fX0_draw_o0 pzz) - (fX0_draw_o0 pzz) / 9 * 9) (fX0_setPlace ppl (fX0_placeOfDay pdy) ((fX0_draw_o0 pzz) - (fX0_draw_o0 pzz) / 9 * 9)) rfl (((hD (wX4 cI cS a0 a1 a2 a3 a4 a5 a6 a7 a8 a9 a10 a11 a12 a13 a14 a15 a16 a17 a18 a19 a20 a21 a22 ppl psp psy psh tpl tsp tsy tsh kpl ksp ksy ksh bs bt sz nm fd ik psc pnc pdy (fX0_draw_o1 pzz) tsc tnc tdy tzz ksc knc kdy kzz ln so be en va) rfl).sub [1, 2, 3, 4, 5] (by decide) rfl).weaken (fun _ _ _ _ => trivial))) RX0 gX4_committee_X0_setPlace rfl ⟨rfl, rfl⟩ pdX0_setPlace rfl ⟨Nat.le_of_ble_eq_true rfl, Nat.le_of_ble_eq_true rfl⟩ (fun _ _ _ _ q => q) (va_recv hE.1 hPc (ci := 0) (q0 := 0) rfl rfl) (fun U hU _ _ => by rw [hU]; exact hPc) hl.1 rfl (Nat.le_of_ble_eq_true rfl) dX4_committee_66 ⟨Nat.zero_le _, Nat.zero_le _⟩) hP (hD _ rfl) hS rfl rfl rfl (fun H locs hP hS => ?_)
      refine lv_aload_n hx hb dX4_committee_69 rfl (lv_at hl 0 rfl) ?_
      refine va_get (D := D) (ci := 3) (v := .ref a1) (C := RX4) (T := TX4) (N := 7) hx hb hts hinX4 hown hE.1 hP 0 rfl rfl 0 (by decide) (hts _ (List.mem_of_getElem? (i := 2) rfl)) (fun _ h9 => h9) rfl dX4_committee_70 ?_
      refine lv_aload_n hx hb dX4_committee_73 rfl (lv_at hl 0 rfl) ?_
      refine va_get (D := D) (ci := 3) (v := .ref a1) (C := RX4) (T := TX4) (N := 7) hx hb hts hinX4 hown hE.1 hP 0 rfl rfl 0 (by decide) (hts _ (List.mem_of_getElem? (i := 2) rfl)) (fun _ h9 => h9) rfl dX4_committee_74 ?_
      have hPc := hP.sub (ws' := (wX0 cI cS a1 a2 a3 a4 a5 (fX0_setPlace ppl (fX0_placeOfDay pdy) ((fX0_draw_o0 pzz) - (fX0_draw_o0 pzz) / 9 * 9)) psp psy psh psc pnc pdy (fX0_draw_o1 pzz))) [1, 2, 3, 4, 5] rfl
      refine kMi (wf' := (wX4 cI cS a0 a1 a2 a3 a4 a5 a6 a7 a8 a9 a10 a11 a12 a13 a14 a15 a16 a17 a18 a19 a20 a21 a22 (fX0_setPlace ppl (fX0_placeOfDay pdy) ((fX0_draw_o0 pzz) - (fX0_draw_o0 pzz) / 9 * 9)) psp psy psh tpl tsp tsy tsh kpl ksp ksy ksh bs bt sz nm fd ik psc pnc pdy (fX0_draw_o1 (fX0_draw_o1 pzz)) tsc tnc tdy tzz ksc knc kdy kzz ln so be en va)) [1, 2, 3, 4, 5] [none, some 0, some 1, some 2, some 3, some 4, none, none, none, none, none, none, none, none, none, none, none, none, none, none, none, none, none] (rV C0 (tX0_draw l D cI cS a1 a2 a3 a4 a5 (fX0_setPlace ppl (fX0_placeOfDay pdy) ((fX0_draw_o0 pzz) - (fX0_draw_o0 pzz) / 9 * 9)) psp psy psh psc pnc pdy (fX0_draw_o1 pzz)  (fX0_draw_o0 (fX0_draw_o1 pzz)) (fX0_draw_o1 (fX0_draw_o1 pzz)) (eeX0_draw ..) (((hD (wX4 cI cS a0 a1 a2 a3 a4 a5 a6 a7 a8 a9 a10 a11 a12 a13 a14 a15 a16 a17 a18 a19 a20 a21 a22 (fX0_setPlace ppl (fX0_placeOfDay pdy) ((fX0_draw_o0 pzz) - (fX0_draw_o0 pzz) / 9 * 9)) psp psy psh tpl tsp tsy tsh kpl ksp ksy ksh bs bt sz nm fd ik psc pnc pdy (fX0_draw_o1 pzz) tsc tnc tdy tzz ksc knc kdy kzz ln so be en va) rfl).sub [1, 2, 3, 4, 5] (by decide) rfl).weaken (fun _ _ _ _ => trivial))) RX0 gX4_committee_X0_draw rfl ⟨rfl, rfl⟩ pdX0_draw rfl ⟨Nat.le_of_ble_eq_true rfl, Nat.le_of_ble_eq_true rfl⟩ (fun _ _ _ _ q => q) (va_recv hE.1 hPc (ci := 0) (q0 := 0) rfl rfl) (fun U hU _ _ => by rw [hU]; exact hPc) hl.1 rfl (Nat.le_of_ble_eq_true rfl) dX4_committee_77 ⟨Nat.zero_le _, Nat.zero_le _⟩) hP (hD _ rfl) hS rfl rfl rfl (fun H locs hP hS => ?_)
      refine lv_bipush (v := 8) hx hb dX4_committee_80 (by decide) ?_
      refine lv_irem hx hb dX4_committee_82 (by decide) ?_
      have hPc := hP.sub (ws' := (wX0 cI cS a1 a2 a3 a4 a5 (fX0_setPlace ppl (fX0_placeOfDay pdy) ((fX0_draw_o0 pzz) - (fX0_draw_o0 pzz) / 9 * 9)) psp psy psh psc pnc pdy (fX0_draw_o1 (fX0_draw_o1 pzz)))) [1, 2, 3, 4, 5] rfl
      refine kMv (wf' := (wX4 cI cS a0 a1 a2 a3 a4 a5 a6 a7 a8 a9 a10 a11 a12 a13 a14 a15 a16 a17 a18 a19 a20 a21 a22 (fX0_setPlace ppl (fX0_placeOfDay pdy) ((fX0_draw_o0 pzz) - (fX0_draw_o0 pzz) / 9 * 9)) psp (fX0_makeVaguer psy psc ((fX0_draw_o0 (fX0_draw_o1 pzz)) - (fX0_draw_o0 (fX0_draw_o1 pzz)) / 8 * 8)) psh tpl tsp tsy tsh kpl ksp ksy ksh bs bt sz nm fd ik psc pnc pdy (fX0_draw_o1 (fX0_draw_o1 pzz)) tsc tnc tdy tzz ksc knc kdy kzz ln so be en va)) [1, 2, 3, 4, 5] [none, some 0, some 1, some 2, some 3, some 4, none, none, none, none, none, none, none, none, none, none, none, none, none, none, none, none, none] (rV C0 (tX0_makeVaguer l D cI cS a1 a2 a3 a4 a5 (fX0_setPlace ppl (fX0_placeOfDay pdy) ((fX0_draw_o0 pzz) - (fX0_draw_o0 pzz) / 9 * 9)) psp psy psh psc pnc pdy (fX0_draw_o1 (fX0_draw_o1 pzz)) ((fX0_draw_o0 (fX0_draw_o1 pzz)) - (fX0_draw_o0 (fX0_draw_o1 pzz)) / 8 * 8) (fX0_makeVaguer psy psc ((fX0_draw_o0 (fX0_draw_o1 pzz)) - (fX0_draw_o0 (fX0_draw_o1 pzz)) / 8 * 8)) rfl (((hD (wX4 cI cS a0 a1 a2 a3 a4 a5 a6 a7 a8 a9 a10 a11 a12 a13 a14 a15 a16 a17 a18 a19 a20 a21 a22 (fX0_setPlace ppl (fX0_placeOfDay pdy) ((fX0_draw_o0 pzz) - (fX0_draw_o0 pzz) / 9 * 9)) psp psy psh tpl tsp tsy tsh kpl ksp ksy ksh bs bt sz nm fd ik psc pnc pdy (fX0_draw_o1 (fX0_draw_o1 pzz)) tsc tnc tdy tzz ksc knc kdy kzz ln so be en va) rfl).sub [1, 2, 3, 4, 5] (by decide) rfl).weaken (fun _ _ _ _ => trivial))) RX0 gX4_committee_X0_makeVaguer rfl ⟨rfl, rfl⟩ pdX0_makeVaguer rfl ⟨Nat.le_of_ble_eq_true rfl, Nat.le_of_ble_eq_true rfl⟩ (fun _ _ _ _ q => q) (va_recv hE.1 hPc (ci := 0) (q0 := 0) rfl rfl) (fun U hU _ _ => by rw [hU]; exact hPc) hl.1 rfl (Nat.le_of_ble_eq_true rfl) dX4_committee_83 ⟨Nat.zero_le _, Nat.zero_le _⟩) hP (hD _ rfl) hS rfl rfl rfl (fun H locs hP hS => ?_)
      refine lv_aload_n hx hb dX4_committee_86 rfl (lv_at hl 0 rfl) ?_
      refine va_get (D := D) (ci := 3) (v := .ref a1) (C := RX4) (T := TX4) (N := 7) hx hb hts hinX4 hown hE.1 hP 0 rfl rfl 0 (by decide) (hts _ (List.mem_of_getElem? (i := 2) rfl)) (fun _ h9 => h9) rfl dX4_committee_87 ?_
      refine lv_iconst (v := 1) hx hb dX4_committee_90 (by decide) ?_
      refine lv_bipush (v := 63) hx hb dX4_committee_91 (by decide) ?_
      obtain ⟨z_6, e_7, h⟩ := bds h
      have hPc := hP.sub (ws' := (wX0 cI cS a1 a2 a3 a4 a5 (fX0_setPlace ppl (fX0_placeOfDay pdy) ((fX0_draw_o0 pzz) - (fX0_draw_o0 pzz) / 9 * 9)) psp (fX0_makeVaguer psy psc ((fX0_draw_o0 (fX0_draw_o1 pzz)) - (fX0_draw_o0 (fX0_draw_o1 pzz)) / 8 * 8)) psh psc pnc pdy (fX0_draw_o1 (fX0_draw_o1 pzz)))) [1, 2, 3, 4, 5] rfl
      refine kMv (wf' := (wX4 cI cS a0 a1 a2 a3 a4 a5 a6 a7 a8 a9 a10 a11 a12 a13 a14 a15 a16 a17 a18 a19 a20 a21 a22 (fX0_setPlace ppl (fX0_placeOfDay pdy) ((fX0_draw_o0 pzz) - (fX0_draw_o0 pzz) / 9 * 9)) psp z_6.1 z_6.2.1 tpl tsp tsy tsh kpl ksp ksy ksh bs bt sz nm fd ik psc pnc z_6.2.2 (fX0_draw_o1 (fX0_draw_o1 pzz)) tsc tnc tdy tzz ksc knc kdy kzz ln so be en va)) [1, 2, 3, 4, 5] [none, some 0, some 1, some 2, some 3, some 4, none, none, none, none, none, none, none, none, none, none, none, none, none, none, none, none, none] (rV C0 (tX0_passDays l D cI cS F a1 a2 a3 a4 a5 (fX0_setPlace ppl (fX0_placeOfDay pdy) ((fX0_draw_o0 pzz) - (fX0_draw_o0 pzz) / 9 * 9)) psp (fX0_makeVaguer psy psc ((fX0_draw_o0 (fX0_draw_o1 pzz)) - (fX0_draw_o0 (fX0_draw_o1 pzz)) / 8 * 8)) psh psc pnc pdy (fX0_draw_o1 (fX0_draw_o1 pzz)) 1 63 z_6.1 z_6.2.1 z_6.2.2 e_7 (((hD (wX4 cI cS a0 a1 a2 a3 a4 a5 a6 a7 a8 a9 a10 a11 a12 a13 a14 a15 a16 a17 a18 a19 a20 a21 a22 (fX0_setPlace ppl (fX0_placeOfDay pdy) ((fX0_draw_o0 pzz) - (fX0_draw_o0 pzz) / 9 * 9)) psp (fX0_makeVaguer psy psc ((fX0_draw_o0 (fX0_draw_o1 pzz)) - (fX0_draw_o0 (fX0_draw_o1 pzz)) / 8 * 8)) psh tpl tsp tsy tsh kpl ksp ksy ksh bs bt sz nm fd ik psc pnc pdy (fX0_draw_o1 (fX0_draw_o1 pzz)) tsc tnc tdy tzz ksc knc kdy kzz ln so be en va) rfl).sub [1, 2, 3, 4, 5] (by decide) rfl).weaken (fun _ _ _ _ => trivial))) RX0 gX4_committee_X0_passDays rfl ⟨rfl, rfl⟩ pdX0_passDays rfl ⟨Nat.le_of_ble_eq_true rfl, Nat.le_of_ble_eq_true rfl⟩ (fun _ _ _ _ q => q) (va_recv hE.1 hPc (ci := 0) (q0 := 0) rfl rfl) (fun U hU _ _ => by rw [hU]; exact hPc) hl.1 rfl (Nat.le_of_ble_eq_true rfl) dX4_committee_93 ⟨Nat.zero_le _, Nat.zero_le _⟩) hP (hD _ rfl) hS rfl rfl rfl (fun H locs hP hS => ?_)
      refine lv_iinc (v := v2 + 1) (lv' := [(2, .int (v2 + 1)), (0, .ref a0), (1, .int v1)]) hx hb dX4_committee_96 hl (k := 2) rfl rfl (by decide) rfl (fun ls hl => ?_)
      refine lv_goto (tgt := 40) hx hb dX4_committee_99 (by decide) ?_
      exact ih (v2 + 1) (fX0_setPlace ppl (fX0_placeOfDay pdy) ((fX0_draw_o0 pzz) - (fX0_draw_o0 pzz) / 9 * 9)) z_6.1 z_6.2.1 z_6.2.2 (fX0_draw_o1 (fX0_draw_o1 pzz)) _ _ hP hS _ (lv_sub hl [1, 2, 0] rfl) h
set_option maxHeartbeats 4000000 in
set_option maxRecDepth 100000 in
theorem tX4_committee (l : Launch) (D : va_G) (cI cS : ClassId) (F : Nat) (a0 a1 a2 a3 a4 a5 a6 a7 a8 a9 a10 a11 a12 a13 a14 a15 a16 a17 a18 a19 a20 a21 a22 : Nat) (ppl : Nat → Int32) (psp : Nat → Int32) (psy : Nat → Int32) (psh : Nat → Int32) (tpl : Nat → Int32) (tsp : Nat → Int32) (tsy : Nat → Int32) (tsh : Nat → Int32) (kpl : Nat → Int32) (ksp : Nat → Int32) (ksy : Nat → Int32) (ksh : Nat → Int32) (bs : Nat → Int32) (bt : Nat → Int32) (sz : Nat → Int32) (nm : Nat → Int32) (fd : Nat → Int32) (ik : Int32) (psc : Int32) (pnc : Int32) (pdy : Int32) (pzz : Int32) (tsc : Int32) (tnc : Int32) (tdy : Int32) (tzz : Int32) (ksc : Int32) (knc : Int32) (kdy : Int32) (kzz : Int32) (ln : Int32) (so : Int32) (be : Int32) (en : Int32) (va : Int32) (v1 : Int32) (z0 : Int32) (z1 : Nat → Int32) (z2 : Nat → Int32) (z3 : Nat → Int32) (z4 : Nat → Int32) (z5 : Int32) (z6 : Int32) (h : fX4_committee F ppl psy psh fd psc pnc pdy pzz v1 = some (z0, z1, z2, z3, z4, z5, z6)) (hD0 : va_D (fun _ => True) (wX4 cI cS a0 a1 a2 a3 a4 a5 a6 a7 a8 a9 a10 a11 a12 a13 a14 a15 a16 a17 a18 a19 a20 a21 a22 ppl psp psy psh tpl tsp tsy tsh kpl ksp ksy ksh bs bt sz nm fd ik psc pnc pdy pzz tsc tnc tdy tzz ksc knc kdy kzz ln so be en va)) : Met l yX4_committee wsX4_committee rmX4_committee (PZ D cI cS [.ref a0, .int v1] (fun U => va_P D vwCl (wX4 cI cS a0 a1 a2 a3 a4 a5 a6 a7 a8 a9 a10 a11 a12 a13 a14 a15 a16 a17 a18 a19 a20 a21 a22 ppl psp psy psh tpl tsp tsy tsh kpl ksp ksy ksh bs bt sz nm fd ik psc pnc pdy pzz tsc tnc tdy tzz ksc knc kdy kzz ln so be en va) U.heap)) (qI D (wX4 cI cS a0 a1 a2 a3 a4 a5 a6 a7 a8 a9 a10 a11 a12 a13 a14 a15 a16 a17 a18 a19 a20 a21 a22 ppl psp psy psh tpl tsp tsy tsh kpl ksp ksy ksh bs bt sz nm fd ik psc pnc pdy pzz tsc tnc tdy tzz ksc knc kdy kzz ln so be en va) (wX4 cI cS a0 a1 a2 a3 a4 a5 a6 a7 a8 a9 a10 a11 a12 a13 a14 a15 a16 a17 a18 a19 a20 a21 a22 z1 psp z2 z3 tpl tsp tsy tsh kpl ksp ksy ksh bs bt sz nm z4 ik psc pnc z5 z6 tsc tnc tdy tzz ksc knc kdy kzz ln so be en va) z0) 0 0 (wA (wX4 cI cS a0 a1 a2 a3 a4 a5 a6 a7 a8 a9 a10 a11 a12 a13 a14 a15 a16 a17 a18 a19 a20 a21 a22 ppl psp psy psh tpl tsp tsy tsh kpl ksp ksy ksh bs bt sz nm fd ik psc pnc pdy pzz tsc tnc tdy tzz ksc knc kdy kzz ln so be en va)) := by
  refine Met.mk RX4 (by decide) rfl rfl (Nat.le_of_ble_eq_true rfl) ?_
  intro p e s m below meth c ls C0 hP hl
  have hl : lv_has ls 3 [(0, .ref a0), (1, .int v1)] := hl
  obtain ⟨hx, hb, hr, hml, hown, hts, hlk, hE⟩ := id C0
  have hinX0 : ∀ w ∈ u_ws RX0 TX0 8, w ∈ wsX4_committee := by decide +kernel
  have hinX4 : ∀ w ∈ u_ws RX4 TX4 7, w ∈ wsX4_committee := by decide +kernel
  have hD : ∀ W : va_W, W.map Prod.fst = [a0, a1, a2, a3, a4, a5, a6, a7, a8, a9, a10, a11, a12, a13, a14, a15, a16, a17, a18, a19, a20, a21, a22] → va_D (wA (wX4 cI cS a0 a1 a2 a3 a4 a5 a6 a7 a8 a9 a10 a11 a12 a13 a14 a15 a16 a17 a18 a19 a20 a21 a22 ppl psp psy psh tpl tsp tsy tsh kpl ksp ksy ksh bs bt sz nm fd ik psc pnc pdy pzz tsc tnc tdy tzz ksc knc kdy kzz ln so be en va)) W := fun W hW => hD0.own.re hW
  have hS : va_S (wA (wX4 cI cS a0 a1 a2 a3 a4 a5 a6 a7 a8 a9 a10 a11 a12 a13 a14 a15 a16 a17 a18 a19 a20 a21 a22 ppl psp psy psh tpl tsp tsy tsh kpl ksp ksy ksh bs bt sz nm fd ik psc pnc pdy pzz tsc tnc tdy tzz ksc knc kdy kzz ln so be en va)) s.heap s.heap [] := va_S.rf
  have hP : va_P D vwCl (wX4 cI cS a0 a1 a2 a3 a4 a5 a6 a7 a8 a9 a10 a11 a12 a13 a14 a15 a16 a17 a18 a19 a20 a21 a22 ppl psp psy psh tpl tsp tsy tsh kpl ksp ksy ksh bs bt sz nm fd ik psc pnc pdy pzz tsc tnc tdy tzz ksc knc kdy kzz ln so be en va) s.heap := hP
  rw [fX4_committee] at h
  refine lv_iload_n hx hb dX4_committee_0 rfl (lv_at hl 1 rfl) ?_
  refine lv_iconst (v := 1) hx hb dX4_committee_1 (by decide) ?_
  refine lv_bipush (v := 20) hx hb dX4_committee_2 (by decide) ?_
  refine kRi (rS C0 (tX4_within l D cI cS v1 1 20 (fX4_within v1 1 20) rfl) gX4_committee_X4_within rfl ⟨rfl, rfl⟩ pdX4_within rfl ⟨Nat.le_of_ble_eq_true rfl, Nat.le_of_ble_eq_true rfl⟩ (fun _ _ _ _ q => q) (fun _ _ _ _ => vp0) hl.1 rfl (Nat.le_of_ble_eq_true rfl) dX4_committee_4 ⟨Nat.zero_le _, Nat.zero_le _⟩) ?_
  refine lv_if_ne (tgt := 17) hx hb dX4_committee_7 (by decide) (fun c_1 => ?_) (fun c_1 => ?_)
  · have h := ifn c_1 h
    refine lv_aload_n hx hb dX4_committee_17 rfl (lv_at hl 0 rfl) ?_
    refine va_get (D := D) (ci := 3) (v := .ref a1) (C := RX4) (T := TX4) (N := 7) hx hb hts hinX4 hown hE.1 hP 0 rfl rfl 0 (by decide) (hts _ (List.mem_of_getElem? (i := 2) rfl)) (fun _ h9 => h9) rfl dX4_committee_18 ?_
    refine va_getN (D := D) (ci := 0) (v := .int pdy) (C := RX0) (T := TX0) (N := 8) hx hb hts hinX0 hown hE.1 hP 1 rfl rfl 6 (by decide) (va_Nw.use rfl (hE.2 _ (List.mem_of_getElem? (i := 4) rfl))) (fun _ h9 => h9) rfl dX4_committee_21 ?_
    refine lv_iload_n hx hb dX4_committee_24 rfl (lv_at hl 1 rfl) ?_
    refine lv_iadd hx hb dX4_committee_25 ?_
    refine lv_ldc (v := 99999) hx hb hown (hts _ (List.mem_of_getElem? (i := 3) rfl)) dX4_committee_26 ?_
    refine lv_icmp_le (tgt := 38) hx hb dX4_committee_28 (by decide) (fun c_2 => ?_) (fun c_2 => ?_)
    · have h := ifp c_2 h
      refine lv_iconst (v := 0) hx hb dX4_committee_38 (by decide) ?_
      refine lv_istore_n (lv' := [(2, .int 0), (0, .ref a0), (1, .int v1)]) hx hb dX4_committee_39 rfl hl (by decide) rfl (fun ls hl => ?_)
      exact lX4_committee_40 (l := l) (e := e) (below := below) C0 F psp tpl tsp tsy tsh kpl ksp ksy ksh bs bt sz nm fd ik psc pnc tsc tnc tdy tzz ksc knc kdy kzz ln so be en va v1 z0 z1 z2 z3 z4 z5 z6 hD F 0 ppl psy psh pdy pzz _ _ hP hS _ (lv_sub hl [1, 2, 0] rfl) h
    · have h := ifn c_2 h
      refine lv_aload_n hx hb dX4_committee_31 rfl (lv_at hl 0 rfl) ?_
      refine lv_ldc (v := (-1000005)) hx hb hown (hts _ (List.mem_of_getElem? (i := 4) rfl)) dX4_committee_32 ?_
      have hPc := hP.sub (ws' := (wX4 cI cS a0 a1 a2 a3 a4 a5 a6 a7 a8 a9 a10 a11 a12 a13 a14 a15 a16 a17 a18 a19 a20 a21 a22 ppl psp psy psh tpl tsp tsy tsh kpl ksp ksy ksh bs bt sz nm fd ik psc pnc pdy pzz tsc tnc tdy tzz ksc knc kdy kzz ln so be en va)) [0, 1, 2, 3, 4, 5, 6, 7, 8, 9, 10, 11, 12, 13, 14, 15, 16, 17, 18, 19, 20, 21, 22] rfl
      refine kMi (wf' := (wX4 cI cS a0 a1 a2 a3 a4 a5 a6 a7 a8 a9 a10 a11 a12 a13 a14 a15 a16 a17 a18 a19 a20 a21 a22 ppl psp psy psh tpl tsp tsy tsh kpl ksp ksy ksh bs bt sz nm (fX4_finding_o1 fd (-1000005)) ik psc pnc pdy pzz tsc tnc tdy tzz ksc knc kdy kzz ln so be en va)) [0, 1, 2, 3, 4, 5, 6, 7, 8, 9, 10, 11, 12, 13, 14, 15, 16, 17, 18, 19, 20, 21, 22] [some 0, some 1, some 2, some 3, some 4, some 5, some 6, some 7, some 8, some 9, some 10, some 11, some 12, some 13, some 14, some 15, some 16, some 17, some 18, some 19, some 20, some 21, some 22] (rV C0 (tX4_finding l D cI cS a0 a1 a2 a3 a4 a5 a6 a7 a8 a9 a10 a11 a12 a13 a14 a15 a16 a17 a18 a19 a20 a21 a22 ppl psp psy psh tpl tsp tsy tsh kpl ksp ksy ksh bs bt sz nm fd ik psc pnc pdy pzz tsc tnc tdy tzz ksc knc kdy kzz ln so be en va (-1000005) (-1000005) (fX4_finding_o1 fd (-1000005)) (eeX4_finding ..) (((hD (wX4 cI cS a0 a1 a2 a3 a4 a5 a6 a7 a8 a9 a10 a11 a12 a13 a14 a15 a16 a17 a18 a19 a20 a21 a22 ppl psp psy psh tpl tsp tsy tsh kpl ksp ksy ksh bs bt sz nm fd ik psc pnc pdy pzz tsc tnc tdy tzz ksc knc kdy kzz ln so be en va) rfl).sub [0, 1, 2, 3, 4, 5, 6, 7, 8, 9, 10, 11, 12, 13, 14, 15, 16, 17, 18, 19, 20, 21, 22] (by decide) rfl).weaken (fun _ _ _ _ => trivial))) RX4 gX4_committee_X4_finding rfl ⟨rfl, rfl⟩ pdX4_finding rfl ⟨Nat.le_of_ble_eq_true rfl, Nat.le_of_ble_eq_true rfl⟩ (fun _ _ _ _ q => q) (va_recv hE.1 hPc (ci := 3) (q0 := 0) rfl rfl) (fun U hU _ _ => by rw [hU]; exact hPc) hl.1 rfl (Nat.le_of_ble_eq_true rfl) dX4_committee_34 ⟨Nat.zero_le _, Nat.zero_le _⟩) hP (hD _ rfl) hS rfl rfl rfl (fun H locs hP hS => ?_)
      obtain ⟨q0, g0⟩ := Prod.mk.inj (Option.some.inj h)
      obtain ⟨q1, g1⟩ := Prod.mk.inj g0
      obtain ⟨q2, g2⟩ := Prod.mk.inj g1
      obtain ⟨q3, g3⟩ := Prod.mk.inj g2
      obtain ⟨q4, g4⟩ := Prod.mk.inj g3
      obtain ⟨q5, q6⟩ := Prod.mk.inj g4
      subst q0 q1 q2 q3 q4 q5 q6
      exact eMi C0 hP hS rfl rfl dX4_committee_37
  · have h := ifp c_1 h
    refine lv_aload_n hx hb dX4_committee_10 rfl (lv_at hl 0 rfl) ?_
    refine lv_ldc (v := (-1000001)) hx hb hown (hts _ (List.mem_of_getElem? (i := 1) rfl)) dX4_committee_11 ?_
    have hPc := hP.sub (ws' := (wX4 cI cS a0 a1 a2 a3 a4 a5 a6 a7 a8 a9 a10 a11 a12 a13 a14 a15 a16 a17 a18 a19 a20 a21 a22 ppl psp psy psh tpl tsp tsy tsh kpl ksp ksy ksh bs bt sz nm fd ik psc pnc pdy pzz tsc tnc tdy tzz ksc knc kdy kzz ln so be en va)) [0, 1, 2, 3, 4, 5, 6, 7, 8, 9, 10, 11, 12, 13, 14, 15, 16, 17, 18, 19, 20, 21, 22] rfl
    refine kMi (wf' := (wX4 cI cS a0 a1 a2 a3 a4 a5 a6 a7 a8 a9 a10 a11 a12 a13 a14 a15 a16 a17 a18 a19 a20 a21 a22 ppl psp psy psh tpl tsp tsy tsh kpl ksp ksy ksh bs bt sz nm (fX4_finding_o1 fd (-1000001)) ik psc pnc pdy pzz tsc tnc tdy tzz ksc knc kdy kzz ln so be en va)) [0, 1, 2, 3, 4, 5, 6, 7, 8, 9, 10, 11, 12, 13, 14, 15, 16, 17, 18, 19, 20, 21, 22] [some 0, some 1, some 2, some 3, some 4, some 5, some 6, some 7, some 8, some 9, some 10, some 11, some 12, some 13, some 14, some 15, some 16, some 17, some 18, some 19, some 20, some 21, some 22] (rV C0 (tX4_finding l D cI cS a0 a1 a2 a3 a4 a5 a6 a7 a8 a9 a10 a11 a12 a13 a14 a15 a16 a17 a18 a19 a20 a21 a22 ppl psp psy psh tpl tsp tsy tsh kpl ksp ksy ksh bs bt sz nm fd ik psc pnc pdy pzz tsc tnc tdy tzz ksc knc kdy kzz ln so be en va (-1000001) (-1000001) (fX4_finding_o1 fd (-1000001)) (eeX4_finding ..) (((hD (wX4 cI cS a0 a1 a2 a3 a4 a5 a6 a7 a8 a9 a10 a11 a12 a13 a14 a15 a16 a17 a18 a19 a20 a21 a22 ppl psp psy psh tpl tsp tsy tsh kpl ksp ksy ksh bs bt sz nm fd ik psc pnc pdy pzz tsc tnc tdy tzz ksc knc kdy kzz ln so be en va) rfl).sub [0, 1, 2, 3, 4, 5, 6, 7, 8, 9, 10, 11, 12, 13, 14, 15, 16, 17, 18, 19, 20, 21, 22] (by decide) rfl).weaken (fun _ _ _ _ => trivial))) RX4 gX4_committee_X4_finding rfl ⟨rfl, rfl⟩ pdX4_finding rfl ⟨Nat.le_of_ble_eq_true rfl, Nat.le_of_ble_eq_true rfl⟩ (fun _ _ _ _ q => q) (va_recv hE.1 hPc (ci := 3) (q0 := 0) rfl rfl) (fun U hU _ _ => by rw [hU]; exact hPc) hl.1 rfl (Nat.le_of_ble_eq_true rfl) dX4_committee_13 ⟨Nat.zero_le _, Nat.zero_le _⟩) hP (hD _ rfl) hS rfl rfl rfl (fun H locs hP hS => ?_)
    obtain ⟨q0, g0⟩ := Prod.mk.inj (Option.some.inj h)
    obtain ⟨q1, g1⟩ := Prod.mk.inj g0
    obtain ⟨q2, g2⟩ := Prod.mk.inj g1
    obtain ⟨q3, g3⟩ := Prod.mk.inj g2
    obtain ⟨q4, g4⟩ := Prod.mk.inj g3
    obtain ⟨q5, q6⟩ := Prod.mk.inj g4
    subst q0 q1 q2 q3 q4 q5 q6
    exact eMi C0 hP hS rfl rfl dX4_committee_16
def fX4_odds_57 (k : Int64 → Int64 → Option (Int64 × (Nat → Int32))) (v2 : Int32) (v8 : Int32) : Nat → Int64 → Int64 → Int32 → Option (Int64 × (Nat → Int32))
  | 0, _, _, _ => none
  | n + 1, v4, v6, v9 => (if v2 ≤ v9 then k v4 v6 else fX4_odds_57 k v2 v8 n (v4 * v8.toInt64) (v6 * 16) (v9 + 1))
def fX4_odds_88 (fd : Nat → Int32) (v3 : Int32) : Nat → Int64 → Int64 → Int32 → Option (Int64 × (Nat → Int32))
  | 0, _, _, _ => none
  | n + 1, v4, v6, v9 => (if 60 ≤ v9 then (if v3 = 0 then some (v4, fd) else some (v6, fd)) else (if (lg_cmp v6 1) ≤ 0 then (if v3 = 0 then some (v4, fd) else some (v6, fd)) else (if (lg_cmp (v4 - v4 / 2 * 2) 0) = 0 then fX4_odds_88 fd v3 n (v4 / 2) (v6 / 2) (v9 + 1) else (if v3 = 0 then some (v4, fd) else some (v6, fd)))))
def fX4_odds (F : Nat) (psy : Nat → Int32) (psh : Nat → Int32) (fd : Nat → Int32) (psc : Int32) (pnc : Int32) (v1 : Int32) (v2 : Int32) (v3 : Int32) : Option (Int64 × (Nat → Int32)) := (if (fX0_hasShip pnc v1) = 0 then some ((-1000001).toInt64, fX4_finding_o1 fd (-1000001)) else (if (fX4_within v2 0 15) = 0 then some ((-1000001).toInt64, fX4_finding_o1 fd (-1000001)) else (if (fX4_within v3 0 1) = 0 then some ((-1000001).toInt64, fX4_finding_o1 fd (-1000001)) else Option.bind (fX0_cellsWhereGoesOn F psy psh psc v1) (fun z_4 => fX4_odds_57 (fun w_7 w_8 => fX4_odds_88 fd v3 F w_7 w_8 0) v2 z_4 F 1 1 0))))
abbrev rmX4_odds : Room := { frames := 5, cells := 0, slots := 0, locals := 118 }
theorem pdX4_odds : (yX4_odds.cls = RX4 ∧ yX4_odds.cls ≠ "java/lang/invoke/MethodHandle" ∧ yX4_odds.cls ≠ "java/lang/invoke/VarHandle" ∧ (parseMethodDescriptor yX4_odds.desc).map (fun d => d.parameters.length) = some 3) := by decide +kernel
set_option maxHeartbeats 4000000 in
set_option maxRecDepth 100000 in
theorem lX4_odds_57 {p : Program} {l : Launch} {e : Env} {s : State} {m : MethodId} {av : Array Value} {below : List Frame} {meth : Method} {c : Code} {D : va_G} {cI cS : ClassId} {a0 a1 a2 a3 a4 a5 a6 a7 a8 a9 a10 a11 a12 a13 a14 a15 a16 a17 a18 a19 a20 a21 a22 : Nat} {W0 : va_W} (C0 : CX p s m av meth c RX4 cX4_odds 10 (some .long) wsX4_odds D cI cS) (F : Nat) (k : Int64 → Int64 → Option (Int64 × (Nat → Int32))) (ppl : Nat → Int32) (psp : Nat → Int32) (psy : Nat → Int32) (psh : Nat → Int32) (tpl : Nat → Int32) (tsp : Nat → Int32) (tsy : Nat → Int32) (tsh : Nat → Int32) (kpl : Nat → Int32) (ksp : Nat → Int32) (ksy : Nat → Int32) (ksh : Nat → Int32) (bs : Nat → Int32) (bt : Nat → Int32) (sz : Nat → Int32) (nm : Nat → Int32) (fd : Nat → Int32) (ik : Int32) (psc : Int32) (pnc : Int32) (pdy : Int32) (pzz : Int32) (tsc : Int32) (tnc : Int32) (tdy : Int32) (tzz : Int32) (ksc : Int32) (knc : Int32) (kdy : Int32) (kzz : Int32) (ln : Int32) (so : Int32) (be : Int32) (en : Int32) (va : Int32) (v2 : Int32) (v3 : Int32) (v8 : Int32) (z0 : Int64) (z1 : Nat → Int32) (hD : ∀ W : va_W, W.map Prod.fst = [a0, a1, a2, a3, a4, a5, a6, a7, a8, a9, a10, a11, a12, a13, a14, a15, a16, a17, a18, a19, a20, a21, a22] → va_D (wA W0) W) (kk : ∀ (v4 : Int64) (v6 : Int64) (H : Heap) (locs : List Loc), va_P D vwCl (wX4 cI cS a0 a1 a2 a3 a4 a5 a6 a7 a8 a9 a10 a11 a12 a13 a14 a15 a16 a17 a18 a19 a20 a21 a22 ppl psp psy psh tpl tsp tsy tsh kpl ksp ksy ksh bs bt sz nm fd ik psc pnc pdy pzz tsc tnc tdy tzz ksc knc kdy kzz ln so be en va) H → va_S (wA W0) s.heap H locs → ∀ (ls : Array Slot), lv_has ls 10 [(3, .int v3), (4, .long v4), (6, .long v6)] → k v4 v6 = some (z0, z1) → W p l e rmX4_odds s m av below meth c H locs 0 0 (MQ below (qL D W0 (wX4 cI cS a0 a1 a2 a3 a4 a5 a6 a7 a8 a9 a10 a11 a12 a13 a14 a15 a16 a17 a18 a19 a20 a21 a22 ppl psp psy psh tpl tsp tsy tsh kpl ksp ksy ksh bs bt sz nm z1 ik psc pnc pdy pzz tsc tnc tdy tzz ksc knc kdy kzz ln so be en va) z0) av s 0 0 (wA W0)) (F0 m 85 ls [])) : ∀ (n : Nat) (v4 : Int64) (v6 : Int64) (v9 : Int32) (H : Heap) (locs : List Loc), va_P D vwCl (wX4 cI cS a0 a1 a2 a3 a4 a5 a6 a7 a8 a9 a10 a11 a12 a13 a14 a15 a16 a17 a18 a19 a20 a21 a22 ppl psp psy psh tpl tsp tsy tsh kpl ksp ksy ksh bs bt sz nm fd ik psc pnc pdy pzz tsc tnc tdy tzz ksc knc kdy kzz ln so be en va) H → va_S (wA W0) s.heap H locs → ∀ (ls : Array Slot), lv_has ls 10 [(2, .int v2), (3, .int v3), (4, .long v4), (6, .long v6), (8, .int v8), (9, .int v9)] → fX4_odds_57 k v2 v8 n v4 v6 v9 = some (z0, z1) → W p l e rmX4_odds s m av below meth c H locs 0 0 (MQ below (qL D W0 (wX4 cI cS a0 a1 a2 a3 a4 a5 a6 a7 a8 a9 a10 a11 a12 a13 a14 a15 a16 a17 a18 a19 a20 a21 a22 ppl psp psy psh tpl tsp tsy tsh kpl ksp ksy ksh bs bt sz nm z1 ik psc pnc pdy pzz tsc tnc tdy tzz ksc knc kdy kzz ln so be en va) z0) av s 0 0 (wA W0)) (F0 m 57 ls []) := by
  obtain ⟨hx, hb, hr, hml, hown, hts, hlk, hE⟩ := id C0
  have hinX4 : ∀ w ∈ u_ws RX4 TX4 7, w ∈ wsX4_odds := by decide +kernel
  intro n
  induction n with
  | zero =>
    intro v4 v6 v9 H locs hP hS ls hl h
    cases (show none = some (z0, z1) from h)
  | succ n ih =>
    intro v4 v6 v9 H locs hP hS ls hl h
    rw [fX4_odds_57] at h
    refine lv_iload hx hb dX4_odds_57 (lv_at hl 5 rfl) ?_
    refine lv_iload_n hx hb dX4_odds_59 rfl (lv_at hl 0 rfl) ?_
    refine lv_icmp_ge (tgt := 85) hx hb dX4_odds_60 (by decide) (fun c_6 => ?_) (fun c_6 => ?_)
    · have h := ifp c_6 h
      exact kk v4 v6 _ _ hP hS _ (lv_sub hl [1, 2, 3] rfl) h
    · have h := ifn c_6 h
      refine lv_lload hx hb dX4_odds_63 (lv_at hl 2 rfl) ?_
      refine lv_iload hx hb dX4_odds_65 (lv_at hl 4 rfl) ?_
      refine lv_i2l (v := v8.toInt64) hx hb dX4_odds_67 rfl ?_
      refine lv_lmul hx hb dX4_odds_68 ?_
      refine lv_lstore (lv' := [(4, .long (v4 * v8.toInt64)), (2, .int v2), (3, .int v3), (6, .long v6), (8, .int v8), (9, .int v9)]) hx hb dX4_odds_69 hl (by decide) rfl (fun ls hl => ?_)
      refine lv_lload hx hb dX4_odds_71 (lv_at hl 3 rfl) ?_
      refine lv_ldc2 (v := 16) hx hb hown (hts _ (List.mem_of_getElem? (i := 3) rfl)) dX4_odds_73 ?_
      refine lv_lmul hx hb dX4_odds_76 ?_
      refine lv_lstore (lv' := [(6, .long (v6 * 16)), (4, .long (v4 * v8.toInt64)), (2, .int v2), (3, .int v3), (8, .int v8), (9, .int v9)]) hx hb dX4_odds_77 hl (by decide) rfl (fun ls hl => ?_)
      refine lv_iinc (v := v9 + 1) (lv' := [(9, .int (v9 + 1)), (6, .long (v6 * 16)), (4, .long (v4 * v8.toInt64)), (2, .int v2), (3, .int v3), (8, .int v8)]) hx hb dX4_odds_79 hl (k := 5) rfl rfl (by decide) rfl (fun ls hl => ?_)
      refine lv_goto (tgt := 57) hx hb dX4_odds_82 (by decide) ?_
      exact ih (v4 * v8.toInt64) (v6 * 16) (v9 + 1) _ _ hP hS _ (lv_sub hl [3, 4, 2, 1, 5, 0] rfl) h
set_option maxHeartbeats 4000000 in
set_option maxRecDepth 100000 in
theorem lX4_odds_88 {p : Program} {l : Launch} {e : Env} {s : State} {m : MethodId} {av : Array Value} {below : List Frame} {meth : Method} {c : Code} {D : va_G} {cI cS : ClassId} {a0 a1 a2 a3 a4 a5 a6 a7 a8 a9 a10 a11 a12 a13 a14 a15 a16 a17 a18 a19 a20 a21 a22 : Nat} {W0 : va_W} (C0 : CX p s m av meth c RX4 cX4_odds 10 (some .long) wsX4_odds D cI cS) (F : Nat) (ppl : Nat → Int32) (psp : Nat → Int32) (psy : Nat → Int32) (psh : Nat → Int32) (tpl : Nat → Int32) (tsp : Nat → Int32) (tsy : Nat → Int32) (tsh : Nat → Int32) (kpl : Nat → Int32) (ksp : Nat → Int32) (ksy : Nat → Int32) (ksh : Nat → Int32) (bs : Nat → Int32) (bt : Nat → Int32) (sz : Nat → Int32) (nm : Nat → Int32) (fd : Nat → Int32) (ik : Int32) (psc : Int32) (pnc : Int32) (pdy : Int32) (pzz : Int32) (tsc : Int32) (tnc : Int32) (tdy : Int32) (tzz : Int32) (ksc : Int32) (knc : Int32) (kdy : Int32) (kzz : Int32) (ln : Int32) (so : Int32) (be : Int32) (en : Int32) (va : Int32) (v3 : Int32) (z0 : Int64) (z1 : Nat → Int32) (hD : ∀ W : va_W, W.map Prod.fst = [a0, a1, a2, a3, a4, a5, a6, a7, a8, a9, a10, a11, a12, a13, a14, a15, a16, a17, a18, a19, a20, a21, a22] → va_D (wA W0) W) : ∀ (n : Nat) (v4 : Int64) (v6 : Int64) (v9 : Int32) (H : Heap) (locs : List Loc), va_P D vwCl (wX4 cI cS a0 a1 a2 a3 a4 a5 a6 a7 a8 a9 a10 a11 a12 a13 a14 a15 a16 a17 a18 a19 a20 a21 a22 ppl psp psy psh tpl tsp tsy tsh kpl ksp ksy ksh bs bt sz nm fd ik psc pnc pdy pzz tsc tnc tdy tzz ksc knc kdy kzz ln so be en va) H → va_S (wA W0) s.heap H locs → ∀ (ls : Array Slot), lv_has ls 10 [(3, .int v3), (4, .long v4), (6, .long v6), (9, .int v9)] → fX4_odds_88 fd v3 n v4 v6 v9 = some (z0, z1) → W p l e rmX4_odds s m av below meth c H locs 0 0 (MQ below (qL D W0 (wX4 cI cS a0 a1 a2 a3 a4 a5 a6 a7 a8 a9 a10 a11 a12 a13 a14 a15 a16 a17 a18 a19 a20 a21 a22 ppl psp psy psh tpl tsp tsy tsh kpl ksp ksy ksh bs bt sz nm z1 ik psc pnc pdy pzz tsc tnc tdy tzz ksc knc kdy kzz ln so be en va) z0) av s 0 0 (wA W0)) (F0 m 88 ls []) := by
  obtain ⟨hx, hb, hr, hml, hown, hts, hlk, hE⟩ := id C0
  have hinX4 : ∀ w ∈ u_ws RX4 TX4 7, w ∈ wsX4_odds := by decide +kernel
  intro n
  induction n with
  | zero =>
    intro v4 v6 v9 H locs hP hS ls hl h
    cases (show none = some (z0, z1) from h)
  | succ n ih =>
    intro v4 v6 v9 H locs hP hS ls hl h
    rw [fX4_odds_88] at h
    refine lv_iload hx hb dX4_odds_88 (lv_at hl 3 rfl) ?_
    refine lv_bipush (v := 60) hx hb dX4_odds_90 (by decide) ?_
    refine lv_icmp_ge (tgt := 135) hx hb dX4_odds_92 (by decide) (fun c_9 => ?_) (fun c_9 => ?_)
    · have h := ifp c_9 h
      refine lv_iload_n hx hb dX4_odds_135 rfl (lv_at hl 0 rfl) ?_
      refine lv_if_ne (tgt := 144) hx hb dX4_odds_136 (by decide) (fun c_10 => ?_) (fun c_10 => ?_)
      · have h := ifn c_10 h
        refine lv_lload hx hb dX4_odds_144 (lv_at hl 2 rfl) ?_
        obtain ⟨q0, q1⟩ := Prod.mk.inj (Option.some.inj h)
        subst q0 q1
        exact eMl C0 hP hS rfl rfl dX4_odds_146
      · have h := ifp c_10 h
        refine lv_lload hx hb dX4_odds_139 (lv_at hl 1 rfl) ?_
        refine lv_goto (tgt := 146) hx hb dX4_odds_141 (by decide) ?_
        obtain ⟨q0, q1⟩ := Prod.mk.inj (Option.some.inj h)
        subst q0 q1
        exact eMl C0 hP hS rfl rfl dX4_odds_146
    · have h := ifn c_9 h
      refine lv_lload hx hb dX4_odds_95 (lv_at hl 2 rfl) ?_
      refine lv_lconst (v := 1) hx hb dX4_odds_97 (by decide) ?_
      refine W.lcmp hx hb dX4_odds_98 ?_
      refine lv_if_le (tgt := 135) hx hb dX4_odds_99 (by decide) (fun c_11 => ?_) (fun c_11 => ?_)
      · have h := ifp c_11 h
        refine lv_iload_n hx hb dX4_odds_135 rfl (lv_at hl 0 rfl) ?_
        refine lv_if_ne (tgt := 144) hx hb dX4_odds_136 (by decide) (fun c_12 => ?_) (fun c_12 => ?_)
        · have h := ifn c_12 h
          refine lv_lload hx hb dX4_odds_144 (lv_at hl 2 rfl) ?_
          obtain ⟨q0, q1⟩ := Prod.mk.inj (Option.some.inj h)
          subst q0 q1
          exact eMl C0 hP hS rfl rfl dX4_odds_146
        · have h := ifp c_12 h
          refine lv_lload hx hb dX4_odds_139 (lv_at hl 1 rfl) ?_
          refine lv_goto (tgt := 146) hx hb dX4_odds_141 (by decide) ?_
          obtain ⟨q0, q1⟩ := Prod.mk.inj (Option.some.inj h)
          subst q0 q1
          exact eMl C0 hP hS rfl rfl dX4_odds_146
      · have h := ifn c_11 h
        refine lv_lload hx hb dX4_odds_102 (lv_at hl 1 rfl) ?_
        refine lv_ldc2 (v := 2) hx hb hown (hts _ (List.mem_of_getElem? (i := 4) rfl)) dX4_odds_104 ?_
        refine lv_lrem hx hb dX4_odds_107 (by decide) ?_
        refine lv_lconst (v := 0) hx hb dX4_odds_108 (by decide) ?_
        refine W.lcmp hx hb dX4_odds_109 ?_
        refine lv_if_ne (tgt := 135) hx hb dX4_odds_110 (by decide) (fun c_13 => ?_) (fun c_13 => ?_)
        · have h := ifn c_13 h
          refine lv_iload_n hx hb dX4_odds_135 rfl (lv_at hl 0 rfl) ?_
          refine lv_if_ne (tgt := 144) hx hb dX4_odds_136 (by decide) (fun c_14 => ?_) (fun c_14 => ?_)
          · have h := ifn c_14 h
            refine lv_lload hx hb dX4_odds_144 (lv_at hl 2 rfl) ?_
            obtain ⟨q0, q1⟩ := Prod.mk.inj (Option.some.inj h)
            subst q0 q1
            exact eMl C0 hP hS rfl rfl dX4_odds_146
          · have h := ifp c_14 h
            refine lv_lload hx hb dX4_odds_139 (lv_at hl 1 rfl) ?_
            refine lv_goto (tgt := 146) hx hb dX4_odds_141 (by decide) ?_
            obtain ⟨q0, q1⟩ := Prod.mk.inj (Option.some.inj h)
            subst q0 q1
            exact eMl C0 hP hS rfl rfl dX4_odds_146
        · have h := ifp c_13 h
          refine lv_lload hx hb dX4_odds_113 (lv_at hl 1 rfl) ?_
          refine lv_ldc2 (v := 2) hx hb hown (hts _ (List.mem_of_getElem? (i := 4) rfl)) dX4_odds_115 ?_
          refine lv_ldiv hx hb dX4_odds_118 (by decide) ?_
          refine lv_lstore (lv' := [(4, .long (v4 / 2)), (3, .int v3), (6, .long v6), (9, .int v9)]) hx hb dX4_odds_119 hl (by decide) rfl (fun ls hl => ?_)
          refine lv_lload hx hb dX4_odds_121 (lv_at hl 2 rfl) ?_
          refine lv_ldc2 (v := 2) hx hb hown (hts _ (List.mem_of_getElem? (i := 4) rfl)) dX4_odds_123 ?_
          refine lv_ldiv hx hb dX4_odds_126 (by decide) ?_
          refine lv_lstore (lv' := [(6, .long (v6 / 2)), (4, .long (v4 / 2)), (3, .int v3), (9, .int v9)]) hx hb dX4_odds_127 hl (by decide) rfl (fun ls hl => ?_)
          refine lv_iinc (v := v9 + 1) (lv' := [(9, .int (v9 + 1)), (6, .long (v6 / 2)), (4, .long (v4 / 2)), (3, .int v3)]) hx hb dX4_odds_129 hl (k := 3) rfl rfl (by decide) rfl (fun ls hl => ?_)
          refine lv_goto (tgt := 88) hx hb dX4_odds_132 (by decide) ?_
          exact ih (v4 / 2) (v6 / 2) (v9 + 1) _ _ hP hS _ (lv_sub hl [3, 2, 1, 0] rfl) h
set_option maxHeartbeats 4000000 in
set_option maxRecDepth 100000 in
theorem tX4_odds (l : Launch) (D : va_G) (cI cS : ClassId) (F : Nat) (a0 a1 a2 a3 a4 a5 a6 a7 a8 a9 a10 a11 a12 a13 a14 a15 a16 a17 a18 a19 a20 a21 a22 : Nat) (ppl : Nat → Int32) (psp : Nat → Int32) (psy : Nat → Int32) (psh : Nat → Int32) (tpl : Nat → Int32) (tsp : Nat → Int32) (tsy : Nat → Int32) (tsh : Nat → Int32) (kpl : Nat → Int32) (ksp : Nat → Int32) (ksy : Nat → Int32) (ksh : Nat → Int32) (bs : Nat → Int32) (bt : Nat → Int32) (sz : Nat → Int32) (nm : Nat → Int32) (fd : Nat → Int32) (ik : Int32) (psc : Int32) (pnc : Int32) (pdy : Int32) (pzz : Int32) (tsc : Int32) (tnc : Int32) (tdy : Int32) (tzz : Int32) (ksc : Int32) (knc : Int32) (kdy : Int32) (kzz : Int32) (ln : Int32) (so : Int32) (be : Int32) (en : Int32) (va : Int32) (v1 : Int32) (v2 : Int32) (v3 : Int32) (z0 : Int64) (z1 : Nat → Int32) (h : fX4_odds F psy psh fd psc pnc v1 v2 v3 = some (z0, z1)) (hD0 : va_D (fun _ => True) (wX4 cI cS a0 a1 a2 a3 a4 a5 a6 a7 a8 a9 a10 a11 a12 a13 a14 a15 a16 a17 a18 a19 a20 a21 a22 ppl psp psy psh tpl tsp tsy tsh kpl ksp ksy ksh bs bt sz nm fd ik psc pnc pdy pzz tsc tnc tdy tzz ksc knc kdy kzz ln so be en va)) : Met l yX4_odds wsX4_odds rmX4_odds (PZ D cI cS [.ref a0, .int v1, .int v2, .int v3] (fun U => va_P D vwCl (wX4 cI cS a0 a1 a2 a3 a4 a5 a6 a7 a8 a9 a10 a11 a12 a13 a14 a15 a16 a17 a18 a19 a20 a21 a22 ppl psp psy psh tpl tsp tsy tsh kpl ksp ksy ksh bs bt sz nm fd ik psc pnc pdy pzz tsc tnc tdy tzz ksc knc kdy kzz ln so be en va) U.heap)) (qL D (wX4 cI cS a0 a1 a2 a3 a4 a5 a6 a7 a8 a9 a10 a11 a12 a13 a14 a15 a16 a17 a18 a19 a20 a21 a22 ppl psp psy psh tpl tsp tsy tsh kpl ksp ksy ksh bs bt sz nm fd ik psc pnc pdy pzz tsc tnc tdy tzz ksc knc kdy kzz ln so be en va) (wX4 cI cS a0 a1 a2 a3 a4 a5 a6 a7 a8 a9 a10 a11 a12 a13 a14 a15 a16 a17 a18 a19 a20 a21 a22 ppl psp psy psh tpl tsp tsy tsh kpl ksp ksy ksh bs bt sz nm z1 ik psc pnc pdy pzz tsc tnc tdy tzz ksc knc kdy kzz ln so be en va) z0) 0 0 (wA (wX4 cI cS a0 a1 a2 a3 a4 a5 a6 a7 a8 a9 a10 a11 a12 a13 a14 a15 a16 a17 a18 a19 a20 a21 a22 ppl psp psy psh tpl tsp tsy tsh kpl ksp ksy ksh bs bt sz nm fd ik psc pnc pdy pzz tsc tnc tdy tzz ksc knc kdy kzz ln so be en va)) := by
  refine Met.mk RX4 (by decide) rfl rfl (Nat.le_of_ble_eq_true rfl) ?_
  intro p e s m below meth c ls C0 hP hl
  have hl : lv_has ls 10 [(0, .ref a0), (1, .int v1), (2, .int v2), (3, .int v3)] := hl
  obtain ⟨hx, hb, hr, hml, hown, hts, hlk, hE⟩ := id C0
  have hinX4 : ∀ w ∈ u_ws RX4 TX4 7, w ∈ wsX4_odds := by decide +kernel
  have hD : ∀ W : va_W, W.map Prod.fst = [a0, a1, a2, a3, a4, a5, a6, a7, a8, a9, a10, a11, a12, a13, a14, a15, a16, a17, a18, a19, a20, a21, a22] → va_D (wA (wX4 cI cS a0 a1 a2 a3 a4 a5 a6 a7 a8 a9 a10 a11 a12 a13 a14 a15 a16 a17 a18 a19 a20 a21 a22 ppl psp psy psh tpl tsp tsy tsh kpl ksp ksy ksh bs bt sz nm fd ik psc pnc pdy pzz tsc tnc tdy tzz ksc knc kdy kzz ln so be en va)) W := fun W hW => hD0.own.re hW
  have hS : va_S (wA (wX4 cI cS a0 a1 a2 a3 a4 a5 a6 a7 a8 a9 a10 a11 a12 a13 a14 a15 a16 a17 a18 a19 a20 a21 a22 ppl psp psy psh tpl tsp tsy tsh kpl ksp ksy ksh bs bt sz nm fd ik psc pnc pdy pzz tsc tnc tdy tzz ksc knc kdy kzz ln so be en va)) s.heap s.heap [] := va_S.rf
  have hP : va_P D vwCl (wX4 cI cS a0 a1 a2 a3 a4 a5 a6 a7 a8 a9 a10 a11 a12 a13 a14 a15 a16 a17 a18 a19 a20 a21 a22 ppl psp psy psh tpl tsp tsy tsh kpl ksp ksy ksh bs bt sz nm fd ik psc pnc pdy pzz tsc tnc tdy tzz ksc knc kdy kzz ln so be en va) s.heap := hP
  rw [fX4_odds] at h
  refine lv_aload_n hx hb dX4_odds_0 rfl (lv_at hl 0 rfl) ?_
  refine va_get (D := D) (ci := 3) (v := .ref a1) (C := RX4) (T := TX4) (N := 7) hx hb hts hinX4 hown hE.1 hP 0 rfl rfl 0 (by decide) (hts _ (List.mem_of_getElem? (i := 1) rfl)) (fun _ h9 => h9) rfl dX4_odds_1 ?_
  refine lv_iload_n hx hb dX4_odds_4 rfl (lv_at hl 1 rfl) ?_
  have hPc := hP.sub (ws' := (wX0 cI cS a1 a2 a3 a4 a5 ppl psp psy psh psc pnc pdy pzz)) [1, 2, 3, 4, 5] rfl
  refine kRi (rV C0 (tX0_hasShip l D cI cS a1 a2 a3 a4 a5 ppl psp psy psh psc pnc pdy pzz v1 (fX0_hasShip pnc v1) rfl) RX0 gX4_odds_X0_hasShip rfl ⟨rfl, rfl⟩ pdX0_hasShip rfl ⟨Nat.le_of_ble_eq_true rfl, Nat.le_of_ble_eq_true rfl⟩ (fun _ _ _ _ q => q) (va_recv hE.1 hPc (ci := 0) (q0 := 0) rfl rfl) (fun U hU _ _ => by rw [hU]; exact hPc) hl.1 rfl (Nat.le_of_ble_eq_true rfl) dX4_odds_5 ⟨Nat.zero_le _, Nat.zero_le _⟩) ?_
  refine lv_if_eq (tgt := 30) hx hb dX4_odds_8 (by decide) (fun c_1 => ?_) (fun c_1 => ?_)
  · have h := ifp c_1 h
    refine lv_aload_n hx hb dX4_odds_30 rfl (lv_at hl 0 rfl) ?_
    refine lv_ldc (v := (-1000001)) hx hb hown (hts _ (List.mem_of_getElem? (i := 2) rfl)) dX4_odds_31 ?_
    have hPc := hP.sub (ws' := (wX4 cI cS a0 a1 a2 a3 a4 a5 a6 a7 a8 a9 a10 a11 a12 a13 a14 a15 a16 a17 a18 a19 a20 a21 a22 ppl psp psy psh tpl tsp tsy tsh kpl ksp ksy ksh bs bt sz nm fd ik psc pnc pdy pzz tsc tnc tdy tzz ksc knc kdy kzz ln so be en va)) [0, 1, 2, 3, 4, 5, 6, 7, 8, 9, 10, 11, 12, 13, 14, 15, 16, 17, 18, 19, 20, 21, 22] rfl
    refine kMi (wf' := (wX4 cI cS a0 a1 a2 a3 a4 a5 a6 a7 a8 a9 a10 a11 a12 a13 a14 a15 a16 a17 a18 a19 a20 a21 a22 ppl psp psy psh tpl tsp tsy tsh kpl ksp ksy ksh bs bt sz nm (fX4_finding_o1 fd (-1000001)) ik psc pnc pdy pzz tsc tnc tdy tzz ksc knc kdy kzz ln so be en va)) [0, 1, 2, 3, 4, 5, 6, 7, 8, 9, 10, 11, 12, 13, 14, 15, 16, 17, 18, 19, 20, 21, 22] [some 0, some 1, some 2, some 3, some 4, some 5, some 6, some 7, some 8, some 9, some 10, some 11, some 12, some 13, some 14, some 15, some 16, some 17, some 18, some 19, some 20, some 21, some 22] (rV C0 (tX4_finding l D cI cS a0 a1 a2 a3 a4 a5 a6 a7 a8 a9 a10 a11 a12 a13 a14 a15 a16 a17 a18 a19 a20 a21 a22 ppl psp psy psh tpl tsp tsy tsh kpl ksp ksy ksh bs bt sz nm fd ik psc pnc pdy pzz tsc tnc tdy tzz ksc knc kdy kzz ln so be en va (-1000001) (-1000001) (fX4_finding_o1 fd (-1000001)) (eeX4_finding ..) (((hD (wX4 cI cS a0 a1 a2 a3 a4 a5 a6 a7 a8 a9 a10 a11 a12 a13 a14 a15 a16 a17 a18 a19 a20 a21 a22 ppl psp psy psh tpl tsp tsy tsh kpl ksp ksy ksh bs bt sz nm fd ik psc pnc pdy pzz tsc tnc tdy tzz ksc knc kdy kzz ln so be en va) rfl).sub [0, 1, 2, 3, 4, 5, 6, 7, 8, 9, 10, 11, 12, 13, 14, 15, 16, 17, 18, 19, 20, 21, 22] (by decide) rfl).weaken (fun _ _ _ _ => trivial))) RX4 gX4_odds_X4_finding rfl ⟨rfl, rfl⟩ pdX4_finding rfl ⟨Nat.le_of_ble_eq_true rfl, Nat.le_of_ble_eq_true rfl⟩ (fun _ _ _ _ q => q) (va_recv hE.1 hPc (ci := 3) (q0 := 0) rfl rfl) (fun U hU _ _ => by rw [hU]; exact hPc) hl.1 rfl (Nat.le_of_ble_eq_true rfl) dX4_odds_33 ⟨Nat.zero_le _, Nat.zero_le _⟩) hP (hD _ rfl) hS rfl rfl rfl (fun H locs hP hS => ?_)
    refine lv_i2l (v := (-1000001).toInt64) hx hb dX4_odds_36 rfl ?_
    obtain ⟨q0, q1⟩ := Prod.mk.inj (Option.some.inj h)
    subst q0 q1
    exact eMl C0 hP hS rfl rfl dX4_odds_37
  · have h := ifn c_1 h
    refine lv_iload_n hx hb dX4_odds_11 rfl (lv_at hl 2 rfl) ?_
    refine lv_iconst (v := 0) hx hb dX4_odds_12 (by decide) ?_
    refine lv_bipush (v := 15) hx hb dX4_odds_13 (by decide) ?_
    refine kRi (rS C0 (tX4_within l D cI cS v2 0 15 (fX4_within v2 0 15) rfl) gX4_odds_X4_within rfl ⟨rfl, rfl⟩ pdX4_within rfl ⟨Nat.le_of_ble_eq_true rfl, Nat.le_of_ble_eq_true rfl⟩ (fun _ _ _ _ q => q) (fun _ _ _ _ => vp0) hl.1 rfl (Nat.le_of_ble_eq_true rfl) dX4_odds_15 ⟨Nat.zero_le _, Nat.zero_le _⟩) ?_
    refine lv_if_eq (tgt := 30) hx hb dX4_odds_18 (by decide) (fun c_2 => ?_) (fun c_2 => ?_)
    · have h := ifp c_2 h
      refine lv_aload_n hx hb dX4_odds_30 rfl (lv_at hl 0 rfl) ?_
      refine lv_ldc (v := (-1000001)) hx hb hown (hts _ (List.mem_of_getElem? (i := 2) rfl)) dX4_odds_31 ?_
      have hPc := hP.sub (ws' := (wX4 cI cS a0 a1 a2 a3 a4 a5 a6 a7 a8 a9 a10 a11 a12 a13 a14 a15 a16 a17 a18 a19 a20 a21 a22 ppl psp psy psh tpl tsp tsy tsh kpl ksp ksy ksh bs bt sz nm fd ik psc pnc pdy pzz tsc tnc tdy tzz ksc knc kdy kzz ln so be en va)) [0, 1, 2, 3, 4, 5, 6, 7, 8, 9, 10, 11, 12, 13, 14, 15, 16, 17, 18, 19, 20, 21, 22] rfl
      refine kMi (wf' := (wX4 cI cS a0 a1 a2 a3 a4 a5 a6 a7 a8 a9 a10 a11 a12 a13 a14 a15 a16 a17 a18 a19 a20 a21 a22 ppl psp psy psh tpl tsp tsy tsh kpl ksp ksy ksh bs bt sz nm (fX4_finding_o1 fd (-1000001)) ik psc pnc pdy pzz tsc tnc tdy tzz ksc knc kdy kzz ln so be en va)) [0, 1, 2, 3, 4, 5, 6, 7, 8, 9, 10, 11, 12, 13, 14, 15, 16, 17, 18, 19, 20, 21, 22] [some 0, some 1, some 2, some 3, some 4, some 5, some 6, some 7, some 8, some 9, some 10, some 11, some 12, some 13, some 14, some 15, some 16, some 17, some 18, some 19, some 20, some 21, some 22] (rV C0 (tX4_finding l D cI cS a0 a1 a2 a3 a4 a5 a6 a7 a8 a9 a10 a11 a12 a13 a14 a15 a16 a17 a18 a19 a20 a21 a22 ppl psp psy psh tpl tsp tsy tsh kpl ksp ksy ksh bs bt sz nm fd ik psc pnc pdy pzz tsc tnc tdy tzz ksc knc kdy kzz ln so be en va (-1000001) (-1000001) (fX4_finding_o1 fd (-1000001)) (eeX4_finding ..) (((hD (wX4 cI cS a0 a1 a2 a3 a4 a5 a6 a7 a8 a9 a10 a11 a12 a13 a14 a15 a16 a17 a18 a19 a20 a21 a22 ppl psp psy psh tpl tsp tsy tsh kpl ksp ksy ksh bs bt sz nm fd ik psc pnc pdy pzz tsc tnc tdy tzz ksc knc kdy kzz ln so be en va) rfl).sub [0, 1, 2, 3, 4, 5, 6, 7, 8, 9, 10, 11, 12, 13, 14, 15, 16, 17, 18, 19, 20, 21, 22] (by decide) rfl).weaken (fun _ _ _ _ => trivial))) RX4 gX4_odds_X4_finding rfl ⟨rfl, rfl⟩ pdX4_finding rfl ⟨Nat.le_of_ble_eq_true rfl, Nat.le_of_ble_eq_true rfl⟩ (fun _ _ _ _ q => q) (va_recv hE.1 hPc (ci := 3) (q0 := 0) rfl rfl) (fun U hU _ _ => by rw [hU]; exact hPc) hl.1 rfl (Nat.le_of_ble_eq_true rfl) dX4_odds_33 ⟨Nat.zero_le _, Nat.zero_le _⟩) hP (hD _ rfl) hS rfl rfl rfl (fun H locs hP hS => ?_)
      refine lv_i2l (v := (-1000001).toInt64) hx hb dX4_odds_36 rfl ?_
      obtain ⟨q0, q1⟩ := Prod.mk.inj (Option.some.inj h)
      subst q0 q1
      exact eMl C0 hP hS rfl rfl dX4_odds_37
    · have h := ifn c_2 h
      refine lv_iload_n hx hb dX4_odds_21 rfl (lv_at hl 3 rfl) ?_
      refine lv_iconst (v := 0) hx hb dX4_odds_22 (by decide) ?_
      refine lv_iconst (v := 1) hx hb dX4_odds_23 (by decide) ?_
      refine kRi (rS C0 (tX4_within l D cI cS v3 0 1 (fX4_within v3 0 1) rfl) gX4_odds_X4_within rfl ⟨rfl, rfl⟩ pdX4_within rfl ⟨Nat.le_of_ble_eq_true rfl, Nat.le_of_ble_eq_true rfl⟩ (fun _ _ _ _ q => q) (fun _ _ _ _ => vp0) hl.1 rfl (Nat.le_of_ble_eq_true rfl) dX4_odds_24 ⟨Nat.zero_le _, Nat.zero_le _⟩) ?_
      refine lv_if_ne (tgt := 38) hx hb dX4_odds_27 (by decide) (fun c_3 => ?_) (fun c_3 => ?_)
      · have h := ifn c_3 h
        refine lv_lconst (v := 1) hx hb dX4_odds_38 (by decide) ?_
        refine lv_lstore (lv' := [(4, .long 1), (0, .ref a0), (1, .int v1), (2, .int v2), (3, .int v3)]) hx hb dX4_odds_39 hl (by decide) rfl (fun ls hl => ?_)
        refine lv_lconst (v := 1) hx hb dX4_odds_41 (by decide) ?_
        refine lv_lstore (lv' := [(6, .long 1), (4, .long 1), (0, .ref a0), (1, .int v1), (2, .int v2), (3, .int v3)]) hx hb dX4_odds_42 hl (by decide) rfl (fun ls hl => ?_)
        refine lv_aload_n hx hb dX4_odds_44 rfl (lv_at hl 2 rfl) ?_
        refine va_get (D := D) (ci := 3) (v := .ref a1) (C := RX4) (T := TX4) (N := 7) hx hb hts hinX4 hown hE.1 hP 0 rfl rfl 0 (by decide) (hts _ (List.mem_of_getElem? (i := 1) rfl)) (fun _ h9 => h9) rfl dX4_odds_45 ?_
        refine lv_iload_n hx hb dX4_odds_48 rfl (lv_at hl 3 rfl) ?_
        obtain ⟨z_4, e_5, h⟩ := bds h
        have hPc := hP.sub (ws' := (wX0 cI cS a1 a2 a3 a4 a5 ppl psp psy psh psc pnc pdy pzz)) [1, 2, 3, 4, 5] rfl
        refine kRi (rV C0 (tX0_cellsWhereGoesOn l D cI cS F a1 a2 a3 a4 a5 ppl psp psy psh psc pnc pdy pzz v1 z_4 e_5) RX0 gX4_odds_X0_cellsWhereGoesOn rfl ⟨rfl, rfl⟩ pdX0_cellsWhereGoesOn rfl ⟨Nat.le_of_ble_eq_true rfl, Nat.le_of_ble_eq_true rfl⟩ (fun _ _ _ _ q => q) (va_recv hE.1 hPc (ci := 0) (q0 := 0) rfl rfl) (fun U hU _ _ => by rw [hU]; exact hPc) hl.1 rfl (Nat.le_of_ble_eq_true rfl) dX4_odds_49 ⟨Nat.zero_le _, Nat.zero_le _⟩) ?_
        refine lv_istore (lv' := [(8, .int z_4), (6, .long 1), (4, .long 1), (0, .ref a0), (1, .int v1), (2, .int v2), (3, .int v3)]) hx hb dX4_odds_52 hl (by decide) rfl (fun ls hl => ?_)
        refine lv_iconst (v := 0) hx hb dX4_odds_54 (by decide) ?_
        refine lv_istore (lv' := [(9, .int 0), (8, .int z_4), (6, .long 1), (4, .long 1), (0, .ref a0), (1, .int v1), (2, .int v2), (3, .int v3)]) hx hb dX4_odds_55 hl (by decide) rfl (fun ls hl => ?_)
        refine lX4_odds_57 (l := l) (e := e) (below := below) C0 F _ ppl psp psy psh tpl tsp tsy tsh kpl ksp ksy ksh bs bt sz nm fd ik psc pnc pdy pzz tsc tnc tdy tzz ksc knc kdy kzz ln so be en va v2 v3 z_4 z0 z1 hD (fun w_7 w_8 H locs hP hS ls hl h => ?_) F 1 1 0 _ _ hP hS _ (lv_sub hl [6, 7, 3, 2, 1, 0] rfl) h
        refine lv_iconst (v := 0) hx hb dX4_odds_85 (by decide) ?_
        refine lv_istore (lv' := [(9, .int 0), (3, .int v3), (4, .long w_7), (6, .long w_8)]) hx hb dX4_odds_86 hl (by decide) rfl (fun ls hl => ?_)
        exact lX4_odds_88 (l := l) (e := e) (below := below) C0 F ppl psp psy psh tpl tsp tsy tsh kpl ksp ksy ksh bs bt sz nm fd ik psc pnc pdy pzz tsc tnc tdy tzz ksc knc kdy kzz ln so be en va v3 z0 z1 hD F w_7 w_8 0 _ _ hP hS _ (lv_sub hl [1, 2, 3, 0] rfl) h
      · have h := ifp c_3 h
        refine lv_aload_n hx hb dX4_odds_30 rfl (lv_at hl 0 rfl) ?_
        refine lv_ldc (v := (-1000001)) hx hb hown (hts _ (List.mem_of_getElem? (i := 2) rfl)) dX4_odds_31 ?_
        have hPc := hP.sub (ws' := (wX4 cI cS a0 a1 a2 a3 a4 a5 a6 a7 a8 a9 a10 a11 a12 a13 a14 a15 a16 a17 a18 a19 a20 a21 a22 ppl psp psy psh tpl tsp tsy tsh kpl ksp ksy ksh bs bt sz nm fd ik psc pnc pdy pzz tsc tnc tdy tzz ksc knc kdy kzz ln so be en va)) [0, 1, 2, 3, 4, 5, 6, 7, 8, 9, 10, 11, 12, 13, 14, 15, 16, 17, 18, 19, 20, 21, 22] rfl
        refine kMi (wf' := (wX4 cI cS a0 a1 a2 a3 a4 a5 a6 a7 a8 a9 a10 a11 a12 a13 a14 a15 a16 a17 a18 a19 a20 a21 a22 ppl psp psy psh tpl tsp tsy tsh kpl ksp ksy ksh bs bt sz nm (fX4_finding_o1 fd (-1000001)) ik psc pnc pdy pzz tsc tnc tdy tzz ksc knc kdy kzz ln so be en va)) [0, 1, 2, 3, 4, 5, 6, 7, 8, 9, 10, 11, 12, 13, 14, 15, 16, 17, 18, 19, 20, 21, 22] [some 0, some 1, some 2, some 3, some 4, some 5, some 6, some 7, some 8, some 9, some 10, some 11, some 12, some 13, some 14, some 15, some 16, some 17, some 18, some 19, some 20, some 21, some 22] (rV C0 (tX4_finding l D cI cS a0 a1 a2 a3 a4 a5 a6 a7 a8 a9 a10 a11 a12 a13 a14 a15 a16 a17 a18 a19 a20 a21 a22 ppl psp psy psh tpl tsp tsy tsh kpl ksp ksy ksh bs bt sz nm fd ik psc pnc pdy pzz tsc tnc tdy tzz ksc knc kdy kzz ln so be en va (-1000001) (-1000001) (fX4_finding_o1 fd (-1000001)) (eeX4_finding ..) (((hD (wX4 cI cS a0 a1 a2 a3 a4 a5 a6 a7 a8 a9 a10 a11 a12 a13 a14 a15 a16 a17 a18 a19 a20 a21 a22 ppl psp psy psh tpl tsp tsy tsh kpl ksp ksy ksh bs bt sz nm fd ik psc pnc pdy pzz tsc tnc tdy tzz ksc knc kdy kzz ln so be en va) rfl).sub [0, 1, 2, 3, 4, 5, 6, 7, 8, 9, 10, 11, 12, 13, 14, 15, 16, 17, 18, 19, 20, 21, 22] (by decide) rfl).weaken (fun _ _ _ _ => trivial))) RX4 gX4_odds_X4_finding rfl ⟨rfl, rfl⟩ pdX4_finding rfl ⟨Nat.le_of_ble_eq_true rfl, Nat.le_of_ble_eq_true rfl⟩ (fun _ _ _ _ q => q) (va_recv hE.1 hPc (ci := 3) (q0 := 0) rfl rfl) (fun U hU _ _ => by rw [hU]; exact hPc) hl.1 rfl (Nat.le_of_ble_eq_true rfl) dX4_odds_33 ⟨Nat.zero_le _, Nat.zero_le _⟩) hP (hD _ rfl) hS rfl rfl rfl (fun H locs hP hS => ?_)
        refine lv_i2l (v := (-1000001).toInt64) hx hb dX4_odds_36 rfl ?_
        obtain ⟨q0, q1⟩ := Prod.mk.inj (Option.some.inj h)
        subst q0 q1
        exact eMl C0 hP hS rfl rfl dX4_odds_37
def fX4_seed (pzz : Int32) (v1 : Int32) : Int32 × Int32 := (pzz, v1)
def fX4_seed_o0 (pzz : Int32) (v1 : Int32) : Int32 := (fX4_seed pzz v1).1
def fX4_seed_o1 (pzz : Int32) (v1 : Int32) : Int32 := (fX4_seed pzz v1).2
theorem eeX4_seed (pzz : Int32) (v1 : Int32) : fX4_seed pzz v1 = (fX4_seed_o0 pzz v1, fX4_seed_o1 pzz v1) := rfl
abbrev rmX4_seed : Room := { frames := 0, cells := 0, slots := 0, locals := 0 }
theorem pdX4_seed : (yX4_seed.cls = RX4 ∧ yX4_seed.cls ≠ "java/lang/invoke/MethodHandle" ∧ yX4_seed.cls ≠ "java/lang/invoke/VarHandle" ∧ (parseMethodDescriptor yX4_seed.desc).map (fun d => d.parameters.length) = some 1) := by decide +kernel
set_option maxHeartbeats 4000000 in
set_option maxRecDepth 100000 in
theorem tX4_seed (l : Launch) (D : va_G) (cI cS : ClassId) (a0 a1 a2 a3 a4 a5 a6 a7 a8 a9 a10 a11 a12 a13 a14 a15 a16 a17 a18 a19 a20 a21 a22 : Nat) (ppl : Nat → Int32) (psp : Nat → Int32) (psy : Nat → Int32) (psh : Nat → Int32) (tpl : Nat → Int32) (tsp : Nat → Int32) (tsy : Nat → Int32) (tsh : Nat → Int32) (kpl : Nat → Int32) (ksp : Nat → Int32) (ksy : Nat → Int32) (ksh : Nat → Int32) (bs : Nat → Int32) (bt : Nat → Int32) (sz : Nat → Int32) (nm : Nat → Int32) (fd : Nat → Int32) (ik : Int32) (psc : Int32) (pnc : Int32) (pdy : Int32) (pzz : Int32) (tsc : Int32) (tnc : Int32) (tdy : Int32) (tzz : Int32) (ksc : Int32) (knc : Int32) (kdy : Int32) (kzz : Int32) (ln : Int32) (so : Int32) (be : Int32) (en : Int32) (va : Int32) (v1 : Int32) (z0 : Int32) (z1 : Int32) (h : fX4_seed pzz v1 = (z0, z1)) (hD0 : va_D (fun _ => True) (wX4 cI cS a0 a1 a2 a3 a4 a5 a6 a7 a8 a9 a10 a11 a12 a13 a14 a15 a16 a17 a18 a19 a20 a21 a22 ppl psp psy psh tpl tsp tsy tsh kpl ksp ksy ksh bs bt sz nm fd ik psc pnc pdy pzz tsc tnc tdy tzz ksc knc kdy kzz ln so be en va)) : Met l yX4_seed wsX4_seed rmX4_seed (PZ D cI cS [.ref a0, .int v1] (fun U => va_P D vwCl (wX4 cI cS a0 a1 a2 a3 a4 a5 a6 a7 a8 a9 a10 a11 a12 a13 a14 a15 a16 a17 a18 a19 a20 a21 a22 ppl psp psy psh tpl tsp tsy tsh kpl ksp ksy ksh bs bt sz nm fd ik psc pnc pdy pzz tsc tnc tdy tzz ksc knc kdy kzz ln so be en va) U.heap)) (qI D (wX4 cI cS a0 a1 a2 a3 a4 a5 a6 a7 a8 a9 a10 a11 a12 a13 a14 a15 a16 a17 a18 a19 a20 a21 a22 ppl psp psy psh tpl tsp tsy tsh kpl ksp ksy ksh bs bt sz nm fd ik psc pnc pdy pzz tsc tnc tdy tzz ksc knc kdy kzz ln so be en va) (wX4 cI cS a0 a1 a2 a3 a4 a5 a6 a7 a8 a9 a10 a11 a12 a13 a14 a15 a16 a17 a18 a19 a20 a21 a22 ppl psp psy psh tpl tsp tsy tsh kpl ksp ksy ksh bs bt sz nm fd ik psc pnc pdy z1 tsc tnc tdy tzz ksc knc kdy kzz ln so be en va) z0) 0 0 (wA (wX4 cI cS a0 a1 a2 a3 a4 a5 a6 a7 a8 a9 a10 a11 a12 a13 a14 a15 a16 a17 a18 a19 a20 a21 a22 ppl psp psy psh tpl tsp tsy tsh kpl ksp ksy ksh bs bt sz nm fd ik psc pnc pdy pzz tsc tnc tdy tzz ksc knc kdy kzz ln so be en va)) := by
  refine Met.mk RX4 (by decide) rfl rfl (Nat.le_of_ble_eq_true rfl) ?_
  intro p e s m below meth c ls C0 hP hl
  have hl : lv_has ls 3 [(0, .ref a0), (1, .int v1)] := hl
  obtain ⟨hx, hb, hr, hml, hown, hts, hlk, hE⟩ := id C0
  have hinX0 : ∀ w ∈ u_ws RX0 TX0 8, w ∈ wsX4_seed := by decide +kernel
  have hinX4 : ∀ w ∈ u_ws RX4 TX4 7, w ∈ wsX4_seed := by decide +kernel
  have hD : ∀ W : va_W, W.map Prod.fst = [a0, a1, a2, a3, a4, a5, a6, a7, a8, a9, a10, a11, a12, a13, a14, a15, a16, a17, a18, a19, a20, a21, a22] → va_D (wA (wX4 cI cS a0 a1 a2 a3 a4 a5 a6 a7 a8 a9 a10 a11 a12 a13 a14 a15 a16 a17 a18 a19 a20 a21 a22 ppl psp psy psh tpl tsp tsy tsh kpl ksp ksy ksh bs bt sz nm fd ik psc pnc pdy pzz tsc tnc tdy tzz ksc knc kdy kzz ln so be en va)) W := fun W hW => hD0.own.re hW
  have hS : va_S (wA (wX4 cI cS a0 a1 a2 a3 a4 a5 a6 a7 a8 a9 a10 a11 a12 a13 a14 a15 a16 a17 a18 a19 a20 a21 a22 ppl psp psy psh tpl tsp tsy tsh kpl ksp ksy ksh bs bt sz nm fd ik psc pnc pdy pzz tsc tnc tdy tzz ksc knc kdy kzz ln so be en va)) s.heap s.heap [] := va_S.rf
  have hP : va_P D vwCl (wX4 cI cS a0 a1 a2 a3 a4 a5 a6 a7 a8 a9 a10 a11 a12 a13 a14 a15 a16 a17 a18 a19 a20 a21 a22 ppl psp psy psh tpl tsp tsy tsh kpl ksp ksy ksh bs bt sz nm fd ik psc pnc pdy pzz tsc tnc tdy tzz ksc knc kdy kzz ln so be en va) s.heap := hP
  rw [fX4_seed] at h
  refine lv_aload_n hx hb dX4_seed_0 rfl (lv_at hl 0 rfl) ?_
  refine va_get (D := D) (ci := 3) (v := .ref a1) (C := RX4) (T := TX4) (N := 7) hx hb hts hinX4 hown hE.1 hP 0 rfl rfl 0 (by decide) (hts _ (List.mem_of_getElem? (i := 1) rfl)) (fun _ h9 => h9) rfl dX4_seed_1 ?_
  refine va_getN (D := D) (ci := 0) (v := .int pzz) (C := RX0) (T := TX0) (N := 8) hx hb hts hinX0 hown hE.1 hP 1 rfl rfl 7 (by decide) (va_Nw.use rfl (hE.2 _ (List.mem_of_getElem? (i := 5) rfl))) (fun _ h9 => h9) rfl dX4_seed_4 ?_
  refine lv_istore_n (lv' := [(2, .int pzz), (0, .ref a0), (1, .int v1)]) hx hb dX4_seed_7 rfl hl (by decide) rfl (fun ls hl => ?_)
  refine lv_aload_n hx hb dX4_seed_8 rfl (lv_at hl 1 rfl) ?_
  refine va_get (D := D) (ci := 3) (v := .ref a1) (C := RX4) (T := TX4) (N := 7) hx hb hts hinX4 hown hE.1 hP 0 rfl rfl 0 (by decide) (hts _ (List.mem_of_getElem? (i := 1) rfl)) (fun _ h9 => h9) rfl dX4_seed_9 ?_
  refine lv_iload_n hx hb dX4_seed_12 rfl (lv_at hl 2 rfl) ?_
  refine va_putN (D := D) (ci := 0) (v := .int v1) (ty := .int) (C := RX0) (T := TX0) (N := 8) hx hb hts hinX0 tyX0 tyX0_ok nmX0 hown hE.1 hP (hD _ rfl) hS 1 rfl rfl 7 (by decide) (va_Nw.use rfl (hE.2 _ (List.mem_of_getElem? (i := 5) rfl))) (fun _ h9 => h9) rfl (by decide +kernel) rfl rfl (Nat.le_of_ble_eq_true rfl) dX4_seed_13 (fun H locs hP _ hS => ?_)
  have hP : va_P D vwCl (wX4 cI cS a0 a1 a2 a3 a4 a5 a6 a7 a8 a9 a10 a11 a12 a13 a14 a15 a16 a17 a18 a19 a20 a21 a22 ppl psp psy psh tpl tsp tsy tsh kpl ksp ksy ksh bs bt sz nm fd ik psc pnc pdy v1 tsc tnc tdy tzz ksc knc kdy kzz ln so be en va) H := hP
  refine lv_iload_n hx hb dX4_seed_16 rfl (lv_at hl 0 rfl) ?_
  obtain ⟨q0, q1⟩ := Prod.mk.inj (h)
  subst q0 q1
  exact eMi C0 hP hS rfl rfl dX4_seed_17
def fX4_feed_41 (fd : Nat → Int32) (v1 : Int32) : Nat → Int32 → (Nat → Int32) → Int32 → Option (Int32 × (Nat → Int32) × (Nat → Int32) × Int32)
  | 0, _, _, _ => none
  | n + 1, v3, bs, ln => (if v3 < 0 then some (ln, bs, fd, ln) else fX4_feed_41 fd v1 n (v3 + (-1)) (fX3_add_o0 bs ln ((v1 >>> ((8 * v3) &&& 31)) &&& 255)) (fX3_add_o1 bs ln ((v1 >>> ((8 * v3) &&& 31)) &&& 255)))
def fX4_feed (F : Nat) (bs : Nat → Int32) (fd : Nat → Int32) (ln : Int32) (v1 : Int32) (v2 : Int32) : Option (Int32 × (Nat → Int32) × (Nat → Int32) × Int32) := (if (fX4_within v2 1 4) = 0 then some ((-1000001), bs, fX4_finding_o1 fd (-1000001), ln) else (if (ln + v2) ≤ 120 then fX4_feed_41 fd v1 F (v2 - 1) bs ln else some ((-1000002), bs, fX4_finding_o1 fd (-1000002), ln)))
abbrev rmX4_feed : Room := { frames := 2, cells := 0, slots := 0, locals := 44 }
theorem pdX4_feed : (yX4_feed.cls = RX4 ∧ yX4_feed.cls ≠ "java/lang/invoke/MethodHandle" ∧ yX4_feed.cls ≠ "java/lang/invoke/VarHandle" ∧ (parseMethodDescriptor yX4_feed.desc).map (fun d => d.parameters.length) = some 2) := by decide +kernel
set_option maxHeartbeats 4000000 in
set_option maxRecDepth 100000 in
theorem lX4_feed_41 {p : Program} {l : Launch} {e : Env} {s : State} {m : MethodId} {av : Array Value} {below : List Frame} {meth : Method} {c : Code} {D : va_G} {cI cS : ClassId} {a0 a1 a2 a3 a4 a5 a6 a7 a8 a9 a10 a11 a12 a13 a14 a15 a16 a17 a18 a19 a20 a21 a22 : Nat} {W0 : va_W} (C0 : CX p s m av meth c RX4 cX4_feed 4 (some .int) wsX4_feed D cI cS) (F : Nat) (ppl : Nat → Int32) (psp : Nat → Int32) (psy : Nat → Int32) (psh : Nat → Int32) (tpl : Nat → Int32) (tsp : Nat → Int32) (tsy : Nat → Int32) (tsh : Nat → Int32) (kpl : Nat → Int32) (ksp : Nat → Int32) (ksy : Nat → Int32) (ksh : Nat → Int32) (bt : Nat → Int32) (sz : Nat → Int32) (nm : Nat → Int32) (fd : Nat → Int32) (ik : Int32) (psc : Int32) (pnc : Int32) (pdy : Int32) (pzz : Int32) (tsc : Int32) (tnc : Int32) (tdy : Int32) (tzz : Int32) (ksc : Int32) (knc : Int32) (kdy : Int32) (kzz : Int32) (so : Int32) (be : Int32) (en : Int32) (va : Int32) (v1 : Int32) (z0 : Int32) (z1 : Nat → Int32) (z2 : Nat → Int32) (z3 : Int32) (hD : ∀ W : va_W, W.map Prod.fst = [a0, a1, a2, a3, a4, a5, a6, a7, a8, a9, a10, a11, a12, a13, a14, a15, a16, a17, a18, a19, a20, a21, a22] → va_D (wA W0) W) : ∀ (n : Nat) (v3 : Int32) (bs : Nat → Int32) (ln : Int32) (H : Heap) (locs : List Loc), va_P D vwCl (wX4 cI cS a0 a1 a2 a3 a4 a5 a6 a7 a8 a9 a10 a11 a12 a13 a14 a15 a16 a17 a18 a19 a20 a21 a22 ppl psp psy psh tpl tsp tsy tsh kpl ksp ksy ksh bs bt sz nm fd ik psc pnc pdy pzz tsc tnc tdy tzz ksc knc kdy kzz ln so be en va) H → va_S (wA W0) s.heap H locs → ∀ (ls : Array Slot), lv_has ls 4 [(0, .ref a0), (1, .int v1), (3, .int v3)] → fX4_feed_41 fd v1 n v3 bs ln = some (z0, z1, z2, z3) → W p l e rmX4_feed s m av below meth c H locs 0 0 (MQ below (qI D W0 (wX4 cI cS a0 a1 a2 a3 a4 a5 a6 a7 a8 a9 a10 a11 a12 a13 a14 a15 a16 a17 a18 a19 a20 a21 a22 ppl psp psy psh tpl tsp tsy tsh kpl ksp ksy ksh z1 bt sz nm z2 ik psc pnc pdy pzz tsc tnc tdy tzz ksc knc kdy kzz z3 so be en va) z0) av s 0 0 (wA W0)) (F0 m 41 ls []) := by
  obtain ⟨hx, hb, hr, hml, hown, hts, hlk, hE⟩ := id C0
  have hinX3 : ∀ w ∈ u_ws RX3 TX3 6, w ∈ wsX4_feed := by decide +kernel
  have hinX4 : ∀ w ∈ u_ws RX4 TX4 7, w ∈ wsX4_feed := by decide +kernel
  intro n
  induction n with
  | zero =>
    intro v3 bs ln H locs hP hS ls hl h
    cases (show none = some (z0, z1, z2, z3) from h)
  | succ n ih =>
    intro v3 bs ln H locs hP hS ls hl h
    rw [fX4_feed_41] at h
    refine lv_iload_n hx hb dX4_feed_41 rfl (lv_at hl 2 rfl) ?_
    refine lv_if_lt (tgt := 68) hx hb dX4_feed_42 (by decide) (fun c_3 => ?_) (fun c_3 => ?_)
    · have h := ifp c_3 h
      refine lv_aload_n hx hb dX4_feed_68 rfl (lv_at hl 0 rfl) ?_
      refine va_get (D := D) (ci := 3) (v := .ref a16) (C := RX4) (T := TX4) (N := 7) hx hb hts hinX4 hown hE.1 hP 0 rfl rfl 4 (by decide) (hts _ (List.mem_of_getElem? (i := 2) rfl)) (fun _ h9 => h9) rfl dX4_feed_69 ?_
      refine va_getN (D := D) (ci := 2) (v := .int ln) (C := RX3) (T := TX3) (N := 6) hx hb hts hinX3 hown hE.1 hP 16 rfl rfl 1 (by decide) (va_Nw.use rfl (hE.2 _ (List.mem_of_getElem? (i := 7) rfl))) (fun _ h9 => h9) rfl dX4_feed_72 ?_
      obtain ⟨q0, g0⟩ := Prod.mk.inj (Option.some.inj h)
      obtain ⟨q1, g1⟩ := Prod.mk.inj g0
      obtain ⟨q2, q3⟩ := Prod.mk.inj g1
      subst q0 q1 q2 q3
      exact eMi C0 hP hS rfl rfl dX4_feed_75
    · have h := ifn c_3 h
      refine lv_aload_n hx hb dX4_feed_45 rfl (lv_at hl 0 rfl) ?_
      refine va_get (D := D) (ci := 3) (v := .ref a16) (C := RX4) (T := TX4) (N := 7) hx hb hts hinX4 hown hE.1 hP 0 rfl rfl 4 (by decide) (hts _ (List.mem_of_getElem? (i := 2) rfl)) (fun _ h9 => h9) rfl dX4_feed_46 ?_
      refine lv_iload_n hx hb dX4_feed_49 rfl (lv_at hl 1 rfl) ?_
      refine lv_bipush (v := 8) hx hb dX4_feed_50 (by decide) ?_
      refine lv_iload_n hx hb dX4_feed_52 rfl (lv_at hl 2 rfl) ?_
      refine lv_imul hx hb dX4_feed_53 ?_
      refine lv_ishr hx hb dX4_feed_54 ?_
      refine lv_sipush (v := 255) hx hb dX4_feed_55 (by decide) ?_
      refine lv_iand hx hb dX4_feed_58 ?_
      have hPc := hP.sub (ws' := (wX3 cI cS a16 a17 bs ln so be en va)) [16, 17] rfl
      refine kMv (wf' := (wX4 cI cS a0 a1 a2 a3 a4 a5 a6 a7 a8 a9 a10 a11 a12 a13 a14 a15 a16 a17 a18 a19 a20 a21 a22 ppl psp psy psh tpl tsp tsy tsh kpl ksp ksy ksh (fX3_add_o0 bs ln ((v1 >>> ((8 * v3) &&& 31)) &&& 255)) bt sz nm fd ik psc pnc pdy pzz tsc tnc tdy tzz ksc knc kdy kzz (fX3_add_o1 bs ln ((v1 >>> ((8 * v3) &&& 31)) &&& 255)) so be en va)) [16, 17] [none, none, none, none, none, none, none, none, none, none, none, none, none, none, none, none, some 0, some 1, none, none, none, none, none] (rV C0 (tX3_add l D cI cS a16 a17 bs ln so be en va ((v1 >>> ((8 * v3) &&& 31)) &&& 255) (fX3_add_o0 bs ln ((v1 >>> ((8 * v3) &&& 31)) &&& 255)) (fX3_add_o1 bs ln ((v1 >>> ((8 * v3) &&& 31)) &&& 255)) (eeX3_add ..) (((hD (wX4 cI cS a0 a1 a2 a3 a4 a5 a6 a7 a8 a9 a10 a11 a12 a13 a14 a15 a16 a17 a18 a19 a20 a21 a22 ppl psp psy psh tpl tsp tsy tsh kpl ksp ksy ksh bs bt sz nm fd ik psc pnc pdy pzz tsc tnc tdy tzz ksc knc kdy kzz ln so be en va) rfl).sub [16, 17] (by decide) rfl).weaken (fun _ _ _ _ => trivial))) RX3 gX4_feed_X3_add rfl ⟨rfl, rfl⟩ pdX3_add rfl ⟨Nat.le_of_ble_eq_true rfl, Nat.le_of_ble_eq_true rfl⟩ (fun _ _ _ _ q => q) (va_recv hE.1 hPc (ci := 2) (q0 := 0) rfl rfl) (fun U hU _ _ => by rw [hU]; exact hPc) hl.1 rfl (Nat.le_of_ble_eq_true rfl) dX4_feed_59 ⟨Nat.zero_le _, Nat.zero_le _⟩) hP (hD _ rfl) hS rfl rfl rfl (fun H locs hP hS => ?_)
      refine lv_iinc (v := v3 + (-1)) (lv' := [(3, .int (v3 + (-1))), (0, .ref a0), (1, .int v1)]) hx hb dX4_feed_62 hl (k := 2) rfl rfl (by decide) rfl (fun ls hl => ?_)
      refine lv_goto (tgt := 41) hx hb dX4_feed_65 (by decide) ?_
      exact ih (v3 + (-1)) (fX3_add_o0 bs ln ((v1 >>> ((8 * v3) &&& 31)) &&& 255)) (fX3_add_o1 bs ln ((v1 >>> ((8 * v3) &&& 31)) &&& 255)) _ _ hP hS _ (lv_sub hl [1, 2, 0] rfl) h
set_option maxHeartbeats 4000000 in
set_option maxRecDepth 100000 in
theorem tX4_feed (l : Launch) (D : va_G) (cI cS : ClassId) (F : Nat) (a0 a1 a2 a3 a4 a5 a6 a7 a8 a9 a10 a11 a12 a13 a14 a15 a16 a17 a18 a19 a20 a21 a22 : Nat) (ppl : Nat → Int32) (psp : Nat → Int32) (psy : Nat → Int32) (psh : Nat → Int32) (tpl : Nat → Int32) (tsp : Nat → Int32) (tsy : Nat → Int32) (tsh : Nat → Int32) (kpl : Nat → Int32) (ksp : Nat → Int32) (ksy : Nat → Int32) (ksh : Nat → Int32) (bs : Nat → Int32) (bt : Nat → Int32) (sz : Nat → Int32) (nm : Nat → Int32) (fd : Nat → Int32) (ik : Int32) (psc : Int32) (pnc : Int32) (pdy : Int32) (pzz : Int32) (tsc : Int32) (tnc : Int32) (tdy : Int32) (tzz : Int32) (ksc : Int32) (knc : Int32) (kdy : Int32) (kzz : Int32) (ln : Int32) (so : Int32) (be : Int32) (en : Int32) (va : Int32) (v1 : Int32) (v2 : Int32) (z0 : Int32) (z1 : Nat → Int32) (z2 : Nat → Int32) (z3 : Int32) (h : fX4_feed F bs fd ln v1 v2 = some (z0, z1, z2, z3)) (hD0 : va_D (fun _ => True) (wX4 cI cS a0 a1 a2 a3 a4 a5 a6 a7 a8 a9 a10 a11 a12 a13 a14 a15 a16 a17 a18 a19 a20 a21 a22 ppl psp psy psh tpl tsp tsy tsh kpl ksp ksy ksh bs bt sz nm fd ik psc pnc pdy pzz tsc tnc tdy tzz ksc knc kdy kzz ln so be en va)) : Met l yX4_feed wsX4_feed rmX4_feed (PZ D cI cS [.ref a0, .int v1, .int v2] (fun U => va_P D vwCl (wX4 cI cS a0 a1 a2 a3 a4 a5 a6 a7 a8 a9 a10 a11 a12 a13 a14 a15 a16 a17 a18 a19 a20 a21 a22 ppl psp psy psh tpl tsp tsy tsh kpl ksp ksy ksh bs bt sz nm fd ik psc pnc pdy pzz tsc tnc tdy tzz ksc knc kdy kzz ln so be en va) U.heap)) (qI D (wX4 cI cS a0 a1 a2 a3 a4 a5 a6 a7 a8 a9 a10 a11 a12 a13 a14 a15 a16 a17 a18 a19 a20 a21 a22 ppl psp psy psh tpl tsp tsy tsh kpl ksp ksy ksh bs bt sz nm fd ik psc pnc pdy pzz tsc tnc tdy tzz ksc knc kdy kzz ln so be en va) (wX4 cI cS a0 a1 a2 a3 a4 a5 a6 a7 a8 a9 a10 a11 a12 a13 a14 a15 a16 a17 a18 a19 a20 a21 a22 ppl psp psy psh tpl tsp tsy tsh kpl ksp ksy ksh z1 bt sz nm z2 ik psc pnc pdy pzz tsc tnc tdy tzz ksc knc kdy kzz z3 so be en va) z0) 0 0 (wA (wX4 cI cS a0 a1 a2 a3 a4 a5 a6 a7 a8 a9 a10 a11 a12 a13 a14 a15 a16 a17 a18 a19 a20 a21 a22 ppl psp psy psh tpl tsp tsy tsh kpl ksp ksy ksh bs bt sz nm fd ik psc pnc pdy pzz tsc tnc tdy tzz ksc knc kdy kzz ln so be en va)) := by
  refine Met.mk RX4 (by decide) rfl rfl (Nat.le_of_ble_eq_true rfl) ?_
  intro p e s m below meth c ls C0 hP hl
  have hl : lv_has ls 4 [(0, .ref a0), (1, .int v1), (2, .int v2)] := hl
  obtain ⟨hx, hb, hr, hml, hown, hts, hlk, hE⟩ := id C0
  have hinX3 : ∀ w ∈ u_ws RX3 TX3 6, w ∈ wsX4_feed := by decide +kernel
  have hinX4 : ∀ w ∈ u_ws RX4 TX4 7, w ∈ wsX4_feed := by decide +kernel
  have hD : ∀ W : va_W, W.map Prod.fst = [a0, a1, a2, a3, a4, a5, a6, a7, a8, a9, a10, a11, a12, a13, a14, a15, a16, a17, a18, a19, a20, a21, a22] → va_D (wA (wX4 cI cS a0 a1 a2 a3 a4 a5 a6 a7 a8 a9 a10 a11 a12 a13 a14 a15 a16 a17 a18 a19 a20 a21 a22 ppl psp psy psh tpl tsp tsy tsh kpl ksp ksy ksh bs bt sz nm fd ik psc pnc pdy pzz tsc tnc tdy tzz ksc knc kdy kzz ln so be en va)) W := fun W hW => hD0.own.re hW
  have hS : va_S (wA (wX4 cI cS a0 a1 a2 a3 a4 a5 a6 a7 a8 a9 a10 a11 a12 a13 a14 a15 a16 a17 a18 a19 a20 a21 a22 ppl psp psy psh tpl tsp tsy tsh kpl ksp ksy ksh bs bt sz nm fd ik psc pnc pdy pzz tsc tnc tdy tzz ksc knc kdy kzz ln so be en va)) s.heap s.heap [] := va_S.rf
  have hP : va_P D vwCl (wX4 cI cS a0 a1 a2 a3 a4 a5 a6 a7 a8 a9 a10 a11 a12 a13 a14 a15 a16 a17 a18 a19 a20 a21 a22 ppl psp psy psh tpl tsp tsy tsh kpl ksp ksy ksh bs bt sz nm fd ik psc pnc pdy pzz tsc tnc tdy tzz ksc knc kdy kzz ln so be en va) s.heap := hP
  rw [fX4_feed] at h
  refine lv_iload_n hx hb dX4_feed_0 rfl (lv_at hl 2 rfl) ?_
  refine lv_iconst (v := 1) hx hb dX4_feed_1 (by decide) ?_
  refine lv_iconst (v := 4) hx hb dX4_feed_2 (by decide) ?_
  refine kRi (rS C0 (tX4_within l D cI cS v2 1 4 (fX4_within v2 1 4) rfl) gX4_feed_X4_within rfl ⟨rfl, rfl⟩ pdX4_within rfl ⟨Nat.le_of_ble_eq_true rfl, Nat.le_of_ble_eq_true rfl⟩ (fun _ _ _ _ q => q) (fun _ _ _ _ => vp0) hl.1 rfl (Nat.le_of_ble_eq_true rfl) dX4_feed_3 ⟨Nat.zero_le _, Nat.zero_le _⟩) ?_
  refine lv_if_ne (tgt := 16) hx hb dX4_feed_6 (by decide) (fun c_1 => ?_) (fun c_1 => ?_)
  · have h := ifn c_1 h
    refine lv_aload_n hx hb dX4_feed_16 rfl (lv_at hl 0 rfl) ?_
    refine va_get (D := D) (ci := 3) (v := .ref a16) (C := RX4) (T := TX4) (N := 7) hx hb hts hinX4 hown hE.1 hP 0 rfl rfl 4 (by decide) (hts _ (List.mem_of_getElem? (i := 2) rfl)) (fun _ h9 => h9) rfl dX4_feed_17 ?_
    refine va_getN (D := D) (ci := 2) (v := .int ln) (C := RX3) (T := TX3) (N := 6) hx hb hts hinX3 hown hE.1 hP 16 rfl rfl 1 (by decide) (va_Nw.use rfl (hE.2 _ (List.mem_of_getElem? (i := 7) rfl))) (fun _ h9 => h9) rfl dX4_feed_20 ?_
    refine lv_iload_n hx hb dX4_feed_23 rfl (lv_at hl 2 rfl) ?_
    refine lv_iadd hx hb dX4_feed_24 ?_
    refine lv_bipush (v := 120) hx hb dX4_feed_25 (by decide) ?_
    refine lv_icmp_le (tgt := 37) hx hb dX4_feed_27 (by decide) (fun c_2 => ?_) (fun c_2 => ?_)
    · have h := ifp c_2 h
      refine lv_iload_n hx hb dX4_feed_37 rfl (lv_at hl 2 rfl) ?_
      refine lv_iconst (v := 1) hx hb dX4_feed_38 (by decide) ?_
      refine lv_isub hx hb dX4_feed_39 ?_
      refine lv_istore_n (lv' := [(3, .int (v2 - 1)), (0, .ref a0), (1, .int v1), (2, .int v2)]) hx hb dX4_feed_40 rfl hl (by decide) rfl (fun ls hl => ?_)
      exact lX4_feed_41 (l := l) (e := e) (below := below) C0 F ppl psp psy psh tpl tsp tsy tsh kpl ksp ksy ksh bt sz nm fd ik psc pnc pdy pzz tsc tnc tdy tzz ksc knc kdy kzz so be en va v1 z0 z1 z2 z3 hD F (v2 - 1) bs ln _ _ hP hS _ (lv_sub hl [1, 2, 0] rfl) h
    · have h := ifn c_2 h
      refine lv_aload_n hx hb dX4_feed_30 rfl (lv_at hl 0 rfl) ?_
      refine lv_ldc (v := (-1000002)) hx hb hown (hts _ (List.mem_of_getElem? (i := 3) rfl)) dX4_feed_31 ?_
      have hPc := hP.sub (ws' := (wX4 cI cS a0 a1 a2 a3 a4 a5 a6 a7 a8 a9 a10 a11 a12 a13 a14 a15 a16 a17 a18 a19 a20 a21 a22 ppl psp psy psh tpl tsp tsy tsh kpl ksp ksy ksh bs bt sz nm fd ik psc pnc pdy pzz tsc tnc tdy tzz ksc knc kdy kzz ln so be en va)) [0, 1, 2, 3, 4, 5, 6, 7, 8, 9, 10, 11, 12, 13, 14, 15, 16, 17, 18, 19, 20, 21, 22] rfl
      refine kMi (wf' := (wX4 cI cS a0 a1 a2 a3 a4 a5 a6 a7 a8 a9 a10 a11 a12 a13 a14 a15 a16 a17 a18 a19 a20 a21 a22 ppl psp psy psh tpl tsp tsy tsh kpl ksp ksy ksh bs bt sz nm (fX4_finding_o1 fd (-1000002)) ik psc pnc pdy pzz tsc tnc tdy tzz ksc knc kdy kzz ln so be en va)) [0, 1, 2, 3, 4, 5, 6, 7, 8, 9, 10, 11, 12, 13, 14, 15, 16, 17, 18, 19, 20, 21, 22] [some 0, some 1, some 2, some 3, some 4, some 5, some 6, some 7, some 8, some 9, some 10, some 11, some 12, some 13, some 14, some 15, some 16, some 17, some 18, some 19, some 20, some 21, some 22] (rV C0 (tX4_finding l D cI cS a0 a1 a2 a3 a4 a5 a6 a7 a8 a9 a10 a11 a12 a13 a14 a15 a16 a17 a18 a19 a20 a21 a22 ppl psp psy psh tpl tsp tsy tsh kpl ksp ksy ksh bs bt sz nm fd ik psc pnc pdy pzz tsc tnc tdy tzz ksc knc kdy kzz ln so be en va (-1000002) (-1000002) (fX4_finding_o1 fd (-1000002)) (eeX4_finding ..) (((hD (wX4 cI cS a0 a1 a2 a3 a4 a5 a6 a7 a8 a9 a10 a11 a12 a13 a14 a15 a16 a17 a18 a19 a20 a21 a22 ppl psp psy psh tpl tsp tsy tsh kpl ksp ksy ksh bs bt sz nm fd ik psc pnc pdy pzz tsc tnc tdy tzz ksc knc kdy kzz ln so be en va) rfl).sub [0, 1, 2, 3, 4, 5, 6, 7, 8, 9, 10, 11, 12, 13, 14, 15, 16, 17, 18, 19, 20, 21, 22] (by decide) rfl).weaken (fun _ _ _ _ => trivial))) RX4 gX4_feed_X4_finding rfl ⟨rfl, rfl⟩ pdX4_finding rfl ⟨Nat.le_of_ble_eq_true rfl, Nat.le_of_ble_eq_true rfl⟩ (fun _ _ _ _ q => q) (va_recv hE.1 hPc (ci := 3) (q0 := 0) rfl rfl) (fun U hU _ _ => by rw [hU]; exact hPc) hl.1 rfl (Nat.le_of_ble_eq_true rfl) dX4_feed_33 ⟨Nat.zero_le _, Nat.zero_le _⟩) hP (hD _ rfl) hS rfl rfl rfl (fun H locs hP hS => ?_)
      obtain ⟨q0, g0⟩ := Prod.mk.inj (Option.some.inj h)
      obtain ⟨q1, g1⟩ := Prod.mk.inj g0
      obtain ⟨q2, q3⟩ := Prod.mk.inj g1
      subst q0 q1 q2 q3
      exact eMi C0 hP hS rfl rfl dX4_feed_36
  · have h := ifp c_1 h
    refine lv_aload_n hx hb dX4_feed_9 rfl (lv_at hl 0 rfl) ?_
    refine lv_ldc (v := (-1000001)) hx hb hown (hts _ (List.mem_of_getElem? (i := 1) rfl)) dX4_feed_10 ?_
    have hPc := hP.sub (ws' := (wX4 cI cS a0 a1 a2 a3 a4 a5 a6 a7 a8 a9 a10 a11 a12 a13 a14 a15 a16 a17 a18 a19 a20 a21 a22 ppl psp psy psh tpl tsp tsy tsh kpl ksp ksy ksh bs bt sz nm fd ik psc pnc pdy pzz tsc tnc tdy tzz ksc knc kdy kzz ln so be en va)) [0, 1, 2, 3, 4, 5, 6, 7, 8, 9, 10, 11, 12, 13, 14, 15, 16, 17, 18, 19, 20, 21, 22] rfl
    refine kMi (wf' := (wX4 cI cS a0 a1 a2 a3 a4 a5 a6 a7 a8 a9 a10 a11 a12 a13 a14 a15 a16 a17 a18 a19 a20 a21 a22 ppl psp psy psh tpl tsp tsy tsh kpl ksp ksy ksh bs bt sz nm (fX4_finding_o1 fd (-1000001)) ik psc pnc pdy pzz tsc tnc tdy tzz ksc knc kdy kzz ln so be en va)) [0, 1, 2, 3, 4, 5, 6, 7, 8, 9, 10, 11, 12, 13, 14, 15, 16, 17, 18, 19, 20, 21, 22] [some 0, some 1, some 2, some 3, some 4, some 5, some 6, some 7, some 8, some 9, some 10, some 11, some 12, some 13, some 14, some 15, some 16, some 17, some 18, some 19, some 20, some 21, some 22] (rV C0 (tX4_finding l D cI cS a0 a1 a2 a3 a4 a5 a6 a7 a8 a9 a10 a11 a12 a13 a14 a15 a16 a17 a18 a19 a20 a21 a22 ppl psp psy psh tpl tsp tsy tsh kpl ksp ksy ksh bs bt sz nm fd ik psc pnc pdy pzz tsc tnc tdy tzz ksc knc kdy kzz ln so be en va (-1000001) (-1000001) (fX4_finding_o1 fd (-1000001)) (eeX4_finding ..) (((hD (wX4 cI cS a0 a1 a2 a3 a4 a5 a6 a7 a8 a9 a10 a11 a12 a13 a14 a15 a16 a17 a18 a19 a20 a21 a22 ppl psp psy psh tpl tsp tsy tsh kpl ksp ksy ksh bs bt sz nm fd ik psc pnc pdy pzz tsc tnc tdy tzz ksc knc kdy kzz ln so be en va) rfl).sub [0, 1, 2, 3, 4, 5, 6, 7, 8, 9, 10, 11, 12, 13, 14, 15, 16, 17, 18, 19, 20, 21, 22] (by decide) rfl).weaken (fun _ _ _ _ => trivial))) RX4 gX4_feed_X4_finding rfl ⟨rfl, rfl⟩ pdX4_finding rfl ⟨Nat.le_of_ble_eq_true rfl, Nat.le_of_ble_eq_true rfl⟩ (fun _ _ _ _ q => q) (va_recv hE.1 hPc (ci := 3) (q0 := 0) rfl rfl) (fun U hU _ _ => by rw [hU]; exact hPc) hl.1 rfl (Nat.le_of_ble_eq_true rfl) dX4_feed_12 ⟨Nat.zero_le _, Nat.zero_le _⟩) hP (hD _ rfl) hS rfl rfl rfl (fun H locs hP hS => ?_)
    obtain ⟨q0, g0⟩ := Prod.mk.inj (Option.some.inj h)
    obtain ⟨q1, g1⟩ := Prod.mk.inj g0
    obtain ⟨q2, q3⟩ := Prod.mk.inj g1
    subst q0 q1 q2 q3
    exact eMi C0 hP hS rfl rfl dX4_feed_15
def fX4_wipe (ln : Int32) : Int32 × Int32 := (ln, 0)
def fX4_wipe_o0 (ln : Int32) : Int32 := (fX4_wipe ln).1
def fX4_wipe_o1 (ln : Int32) : Int32 := (fX4_wipe ln).2
theorem eeX4_wipe (ln : Int32) : fX4_wipe ln = (fX4_wipe_o0 ln, fX4_wipe_o1 ln) := rfl
abbrev rmX4_wipe : Room := { frames := 0, cells := 0, slots := 0, locals := 0 }
theorem pdX4_wipe : (yX4_wipe.cls = RX4 ∧ yX4_wipe.cls ≠ "java/lang/invoke/MethodHandle" ∧ yX4_wipe.cls ≠ "java/lang/invoke/VarHandle" ∧ (parseMethodDescriptor yX4_wipe.desc).map (fun d => d.parameters.length) = some 0) := by decide +kernel
set_option maxHeartbeats 4000000 in
set_option maxRecDepth 100000 in
theorem tX4_wipe (l : Launch) (D : va_G) (cI cS : ClassId) (a0 a1 a2 a3 a4 a5 a6 a7 a8 a9 a10 a11 a12 a13 a14 a15 a16 a17 a18 a19 a20 a21 a22 : Nat) (ppl : Nat → Int32) (psp : Nat → Int32) (psy : Nat → Int32) (psh : Nat → Int32) (tpl : Nat → Int32) (tsp : Nat → Int32) (tsy : Nat → Int32) (tsh : Nat → Int32) (kpl : Nat → Int32) (ksp : Nat → Int32) (ksy : Nat → Int32) (ksh : Nat → Int32) (bs : Nat → Int32) (bt : Nat → Int32) (sz : Nat → Int32) (nm : Nat → Int32) (fd : Nat → Int32) (ik : Int32) (psc : Int32) (pnc : Int32) (pdy : Int32) (pzz : Int32) (tsc : Int32) (tnc : Int32) (tdy : Int32) (tzz : Int32) (ksc : Int32) (knc : Int32) (kdy : Int32) (kzz : Int32) (ln : Int32) (so : Int32) (be : Int32) (en : Int32) (va : Int32) (z0 : Int32) (z1 : Int32) (h : fX4_wipe ln = (z0, z1)) (hD0 : va_D (fun _ => True) (wX4 cI cS a0 a1 a2 a3 a4 a5 a6 a7 a8 a9 a10 a11 a12 a13 a14 a15 a16 a17 a18 a19 a20 a21 a22 ppl psp psy psh tpl tsp tsy tsh kpl ksp ksy ksh bs bt sz nm fd ik psc pnc pdy pzz tsc tnc tdy tzz ksc knc kdy kzz ln so be en va)) : Met l yX4_wipe wsX4_wipe rmX4_wipe (PZ D cI cS [.ref a0] (fun U => va_P D vwCl (wX4 cI cS a0 a1 a2 a3 a4 a5 a6 a7 a8 a9 a10 a11 a12 a13 a14 a15 a16 a17 a18 a19 a20 a21 a22 ppl psp psy psh tpl tsp tsy tsh kpl ksp ksy ksh bs bt sz nm fd ik psc pnc pdy pzz tsc tnc tdy tzz ksc knc kdy kzz ln so be en va) U.heap)) (qI D (wX4 cI cS a0 a1 a2 a3 a4 a5 a6 a7 a8 a9 a10 a11 a12 a13 a14 a15 a16 a17 a18 a19 a20 a21 a22 ppl psp psy psh tpl tsp tsy tsh kpl ksp ksy ksh bs bt sz nm fd ik psc pnc pdy pzz tsc tnc tdy tzz ksc knc kdy kzz ln so be en va) (wX4 cI cS a0 a1 a2 a3 a4 a5 a6 a7 a8 a9 a10 a11 a12 a13 a14 a15 a16 a17 a18 a19 a20 a21 a22 ppl psp psy psh tpl tsp tsy tsh kpl ksp ksy ksh bs bt sz nm fd ik psc pnc pdy pzz tsc tnc tdy tzz ksc knc kdy kzz z1 so be en va) z0) 0 0 (wA (wX4 cI cS a0 a1 a2 a3 a4 a5 a6 a7 a8 a9 a10 a11 a12 a13 a14 a15 a16 a17 a18 a19 a20 a21 a22 ppl psp psy psh tpl tsp tsy tsh kpl ksp ksy ksh bs bt sz nm fd ik psc pnc pdy pzz tsc tnc tdy tzz ksc knc kdy kzz ln so be en va)) := by
  refine Met.mk RX4 (by decide) rfl rfl (Nat.le_of_ble_eq_true rfl) ?_
  intro p e s m below meth c ls C0 hP hl
  have hl : lv_has ls 2 [(0, .ref a0)] := hl
  obtain ⟨hx, hb, hr, hml, hown, hts, hlk, hE⟩ := id C0
  have hinX3 : ∀ w ∈ u_ws RX3 TX3 6, w ∈ wsX4_wipe := by decide +kernel
  have hinX4 : ∀ w ∈ u_ws RX4 TX4 7, w ∈ wsX4_wipe := by decide +kernel
  have hD : ∀ W : va_W, W.map Prod.fst = [a0, a1, a2, a3, a4, a5, a6, a7, a8, a9, a10, a11, a12, a13, a14, a15, a16, a17, a18, a19, a20, a21, a22] → va_D (wA (wX4 cI cS a0 a1 a2 a3 a4 a5 a6 a7 a8 a9 a10 a11 a12 a13 a14 a15 a16 a17 a18 a19 a20 a21 a22 ppl psp psy psh tpl tsp tsy tsh kpl ksp ksy ksh bs bt sz nm fd ik psc pnc pdy pzz tsc tnc tdy tzz ksc knc kdy kzz ln so be en va)) W := fun W hW => hD0.own.re hW
  have hS : va_S (wA (wX4 cI cS a0 a1 a2 a3 a4 a5 a6 a7 a8 a9 a10 a11 a12 a13 a14 a15 a16 a17 a18 a19 a20 a21 a22 ppl psp psy psh tpl tsp tsy tsh kpl ksp ksy ksh bs bt sz nm fd ik psc pnc pdy pzz tsc tnc tdy tzz ksc knc kdy kzz ln so be en va)) s.heap s.heap [] := va_S.rf
  have hP : va_P D vwCl (wX4 cI cS a0 a1 a2 a3 a4 a5 a6 a7 a8 a9 a10 a11 a12 a13 a14 a15 a16 a17 a18 a19 a20 a21 a22 ppl psp psy psh tpl tsp tsy tsh kpl ksp ksy ksh bs bt sz nm fd ik psc pnc pdy pzz tsc tnc tdy tzz ksc knc kdy kzz ln so be en va) s.heap := hP
  rw [fX4_wipe] at h
  refine lv_aload_n hx hb dX4_wipe_0 rfl (lv_at hl 0 rfl) ?_
  refine va_get (D := D) (ci := 3) (v := .ref a16) (C := RX4) (T := TX4) (N := 7) hx hb hts hinX4 hown hE.1 hP 0 rfl rfl 4 (by decide) (hts _ (List.mem_of_getElem? (i := 1) rfl)) (fun _ h9 => h9) rfl dX4_wipe_1 ?_
  refine va_getN (D := D) (ci := 2) (v := .int ln) (C := RX3) (T := TX3) (N := 6) hx hb hts hinX3 hown hE.1 hP 16 rfl rfl 1 (by decide) (va_Nw.use rfl (hE.2 _ (List.mem_of_getElem? (i := 7) rfl))) (fun _ h9 => h9) rfl dX4_wipe_4 ?_
  refine lv_istore_n (lv' := [(1, .int ln), (0, .ref a0)]) hx hb dX4_wipe_7 rfl hl (by decide) rfl (fun ls hl => ?_)
  refine lv_aload_n hx hb dX4_wipe_8 rfl (lv_at hl 1 rfl) ?_
  refine va_get (D := D) (ci := 3) (v := .ref a16) (C := RX4) (T := TX4) (N := 7) hx hb hts hinX4 hown hE.1 hP 0 rfl rfl 4 (by decide) (hts _ (List.mem_of_getElem? (i := 1) rfl)) (fun _ h9 => h9) rfl dX4_wipe_9 ?_
  refine lv_iconst (v := 0) hx hb dX4_wipe_12 (by decide) ?_
  refine va_putN (D := D) (ci := 2) (v := .int 0) (ty := .int) (C := RX3) (T := TX3) (N := 6) hx hb hts hinX3 tyX3 tyX3_ok nmX3 hown hE.1 hP (hD _ rfl) hS 16 rfl rfl 1 (by decide) (va_Nw.use rfl (hE.2 _ (List.mem_of_getElem? (i := 7) rfl))) (fun _ h9 => h9) rfl (by decide +kernel) rfl rfl (Nat.le_of_ble_eq_true rfl) dX4_wipe_13 (fun H locs hP _ hS => ?_)
  have hP : va_P D vwCl (wX4 cI cS a0 a1 a2 a3 a4 a5 a6 a7 a8 a9 a10 a11 a12 a13 a14 a15 a16 a17 a18 a19 a20 a21 a22 ppl psp psy psh tpl tsp tsy tsh kpl ksp ksy ksh bs bt sz nm fd ik psc pnc pdy pzz tsc tnc tdy tzz ksc knc kdy kzz 0 so be en va) H := hP
  refine lv_iload_n hx hb dX4_wipe_16 rfl (lv_at hl 0 rfl) ?_
  obtain ⟨q0, q1⟩ := Prod.mk.inj (h)
  subst q0 q1
  exact eMi C0 hP hS rfl rfl dX4_wipe_17
def fX4_hold (psp : Nat → Int32) (fd : Nat → Int32) (psc : Int32) (v1 : Int32) (v2 : Int32) : Int32 × (Nat → Int32) × (Nat → Int32) := (if (fX4_within v1 0 9) = 0 then ((-1000001), psp, fX4_finding_o1 fd (-1000001)) else (if v2 = (-1) then (1, (fX0_setHeld psp v1 v2), fd) else (if (fX0_hasSaying psc v2) = 0 then ((-1000001), psp, fX4_finding_o1 fd (-1000001)) else (1, (fX0_setHeld psp v1 v2), fd))))
def fX4_hold_o0 (psp : Nat → Int32) (fd : Nat → Int32) (psc : Int32) (v1 : Int32) (v2 : Int32) : Int32 := (fX4_hold psp fd psc v1 v2).1
def fX4_hold_o1 (psp : Nat → Int32) (fd : Nat → Int32) (psc : Int32) (v1 : Int32) (v2 : Int32) : Nat → Int32 := (fX4_hold psp fd psc v1 v2).2.1
def fX4_hold_o2 (psp : Nat → Int32) (fd : Nat → Int32) (psc : Int32) (v1 : Int32) (v2 : Int32) : Nat → Int32 := (fX4_hold psp fd psc v1 v2).2.2
theorem eeX4_hold (psp : Nat → Int32) (fd : Nat → Int32) (psc : Int32) (v1 : Int32) (v2 : Int32) : fX4_hold psp fd psc v1 v2 = (fX4_hold_o0 psp fd psc v1 v2, fX4_hold_o1 psp fd psc v1 v2, fX4_hold_o2 psp fd psc v1 v2) := rfl
abbrev rmX4_hold : Room := { frames := 2, cells := 0, slots := 0, locals := 44 }
theorem pdX4_hold : (yX4_hold.cls = RX4 ∧ yX4_hold.cls ≠ "java/lang/invoke/MethodHandle" ∧ yX4_hold.cls ≠ "java/lang/invoke/VarHandle" ∧ (parseMethodDescriptor yX4_hold.desc).map (fun d => d.parameters.length) = some 2) := by decide +kernel
set_option maxHeartbeats 4000000 in
set_option maxRecDepth 100000 in
theorem tX4_hold (l : Launch) (D : va_G) (cI cS : ClassId) (a0 a1 a2 a3 a4 a5 a6 a7 a8 a9 a10 a11 a12 a13 a14 a15 a16 a17 a18 a19 a20 a21 a22 : Nat) (ppl : Nat → Int32) (psp : Nat → Int32) (psy : Nat → Int32) (psh : Nat → Int32) (tpl : Nat → Int32) (tsp : Nat → Int32) (tsy : Nat → Int32) (tsh : Nat → Int32) (kpl : Nat → Int32) (ksp : Nat → Int32) (ksy : Nat → Int32) (ksh : Nat → Int32) (bs : Nat → Int32) (bt : Nat → Int32) (sz : Nat → Int32) (nm : Nat → Int32) (fd : Nat → Int32) (ik : Int32) (psc : Int32) (pnc : Int32) (pdy : Int32) (pzz : Int32) (tsc : Int32) (tnc : Int32) (tdy : Int32) (tzz : Int32) (ksc : Int32) (knc : Int32) (kdy : Int32) (kzz : Int32) (ln : Int32) (so : Int32) (be : Int32) (en : Int32) (va : Int32) (v1 : Int32) (v2 : Int32) (z0 : Int32) (z1 : Nat → Int32) (z2 : Nat → Int32) (h : fX4_hold psp fd psc v1 v2 = (z0, z1, z2)) (hD0 : va_D (fun _ => True) (wX4 cI cS a0 a1 a2 a3 a4 a5 a6 a7 a8 a9 a10 a11 a12 a13 a14 a15 a16 a17 a18 a19 a20 a21 a22 ppl psp psy psh tpl tsp tsy tsh kpl ksp ksy ksh bs bt sz nm fd ik psc pnc pdy pzz tsc tnc tdy tzz ksc knc kdy kzz ln so be en va)) : Met l yX4_hold wsX4_hold rmX4_hold (PZ D cI cS [.ref a0, .int v1, .int v2] (fun U => va_P D vwCl (wX4 cI cS a0 a1 a2 a3 a4 a5 a6 a7 a8 a9 a10 a11 a12 a13 a14 a15 a16 a17 a18 a19 a20 a21 a22 ppl psp psy psh tpl tsp tsy tsh kpl ksp ksy ksh bs bt sz nm fd ik psc pnc pdy pzz tsc tnc tdy tzz ksc knc kdy kzz ln so be en va) U.heap)) (qI D (wX4 cI cS a0 a1 a2 a3 a4 a5 a6 a7 a8 a9 a10 a11 a12 a13 a14 a15 a16 a17 a18 a19 a20 a21 a22 ppl psp psy psh tpl tsp tsy tsh kpl ksp ksy ksh bs bt sz nm fd ik psc pnc pdy pzz tsc tnc tdy tzz ksc knc kdy kzz ln so be en va) (wX4 cI cS a0 a1 a2 a3 a4 a5 a6 a7 a8 a9 a10 a11 a12 a13 a14 a15 a16 a17 a18 a19 a20 a21 a22 ppl z1 psy psh tpl tsp tsy tsh kpl ksp ksy ksh bs bt sz nm z2 ik psc pnc pdy pzz tsc tnc tdy tzz ksc knc kdy kzz ln so be en va) z0) 0 0 (wA (wX4 cI cS a0 a1 a2 a3 a4 a5 a6 a7 a8 a9 a10 a11 a12 a13 a14 a15 a16 a17 a18 a19 a20 a21 a22 ppl psp psy psh tpl tsp tsy tsh kpl ksp ksy ksh bs bt sz nm fd ik psc pnc pdy pzz tsc tnc tdy tzz ksc knc kdy kzz ln so be en va)) := by
  refine Met.mk RX4 (by decide) rfl rfl (Nat.le_of_ble_eq_true rfl) ?_
  intro p e s m below meth c ls C0 hP hl
  have hl : lv_has ls 3 [(0, .ref a0), (1, .int v1), (2, .int v2)] := hl
  obtain ⟨hx, hb, hr, hml, hown, hts, hlk, hE⟩ := id C0
  have hinX4 : ∀ w ∈ u_ws RX4 TX4 7, w ∈ wsX4_hold := by decide +kernel
  have hD : ∀ W : va_W, W.map Prod.fst = [a0, a1, a2, a3, a4, a5, a6, a7, a8, a9, a10, a11, a12, a13, a14, a15, a16, a17, a18, a19, a20, a21, a22] → va_D (wA (wX4 cI cS a0 a1 a2 a3 a4 a5 a6 a7 a8 a9 a10 a11 a12 a13 a14 a15 a16 a17 a18 a19 a20 a21 a22 ppl psp psy psh tpl tsp tsy tsh kpl ksp ksy ksh bs bt sz nm fd ik psc pnc pdy pzz tsc tnc tdy tzz ksc knc kdy kzz ln so be en va)) W := fun W hW => hD0.own.re hW
  have hS : va_S (wA (wX4 cI cS a0 a1 a2 a3 a4 a5 a6 a7 a8 a9 a10 a11 a12 a13 a14 a15 a16 a17 a18 a19 a20 a21 a22 ppl psp psy psh tpl tsp tsy tsh kpl ksp ksy ksh bs bt sz nm fd ik psc pnc pdy pzz tsc tnc tdy tzz ksc knc kdy kzz ln so be en va)) s.heap s.heap [] := va_S.rf
  have hP : va_P D vwCl (wX4 cI cS a0 a1 a2 a3 a4 a5 a6 a7 a8 a9 a10 a11 a12 a13 a14 a15 a16 a17 a18 a19 a20 a21 a22 ppl psp psy psh tpl tsp tsy tsh kpl ksp ksy ksh bs bt sz nm fd ik psc pnc pdy pzz tsc tnc tdy tzz ksc knc kdy kzz ln so be en va) s.heap := hP
  rw [fX4_hold] at h
  refine lv_iload_n hx hb dX4_hold_0 rfl (lv_at hl 1 rfl) ?_
  refine lv_iconst (v := 0) hx hb dX4_hold_1 (by decide) ?_
  refine lv_bipush (v := 9) hx hb dX4_hold_2 (by decide) ?_
  refine kRi (rS C0 (tX4_within l D cI cS v1 0 9 (fX4_within v1 0 9) rfl) gX4_hold_X4_within rfl ⟨rfl, rfl⟩ pdX4_within rfl ⟨Nat.le_of_ble_eq_true rfl, Nat.le_of_ble_eq_true rfl⟩ (fun _ _ _ _ q => q) (fun _ _ _ _ => vp0) hl.1 rfl (Nat.le_of_ble_eq_true rfl) dX4_hold_4 ⟨Nat.zero_le _, Nat.zero_le _⟩) ?_
  refine lv_if_eq (tgt := 26) hx hb dX4_hold_7 (by decide) (fun c_1 => ?_) (fun c_1 => ?_)
  · have h := ifp c_1 h
    refine lv_aload_n hx hb dX4_hold_26 rfl (lv_at hl 0 rfl) ?_
    refine lv_ldc (v := (-1000001)) hx hb hown (hts _ (List.mem_of_getElem? (i := 2) rfl)) dX4_hold_27 ?_
    have hPc := hP.sub (ws' := (wX4 cI cS a0 a1 a2 a3 a4 a5 a6 a7 a8 a9 a10 a11 a12 a13 a14 a15 a16 a17 a18 a19 a20 a21 a22 ppl psp psy psh tpl tsp tsy tsh kpl ksp ksy ksh bs bt sz nm fd ik psc pnc pdy pzz tsc tnc tdy tzz ksc knc kdy kzz ln so be en va)) [0, 1, 2, 3, 4, 5, 6, 7, 8, 9, 10, 11, 12, 13, 14, 15, 16, 17, 18, 19, 20, 21, 22] rfl
    refine kMi (wf' := (wX4 cI cS a0 a1 a2 a3 a4 a5 a6 a7 a8 a9 a10 a11 a12 a13 a14 a15 a16 a17 a18 a19 a20 a21 a22 ppl psp psy psh tpl tsp tsy tsh kpl ksp ksy ksh bs bt sz nm (fX4_finding_o1 fd (-1000001)) ik psc pnc pdy pzz tsc tnc tdy tzz ksc knc kdy kzz ln so be en va)) [0, 1, 2, 3, 4, 5, 6, 7, 8, 9, 10, 11, 12, 13, 14, 15, 16, 17, 18, 19, 20, 21, 22] [some 0, some 1, some 2, some 3, some 4, some 5, some 6, some 7, some 8, some 9, some 10, some 11, some 12, some 13, some 14, some 15, some 16, some 17, some 18, some 19, some 20, some 21, some 22] (rV C0 (tX4_finding l D cI cS a0 a1 a2 a3 a4 a5 a6 a7 a8 a9 a10 a11 a12 a13 a14 a15 a16 a17 a18 a19 a20 a21 a22 ppl psp psy psh tpl tsp tsy tsh kpl ksp ksy ksh bs bt sz nm fd ik psc pnc pdy pzz tsc tnc tdy tzz ksc knc kdy kzz ln so be en va (-1000001) (-1000001) (fX4_finding_o1 fd (-1000001)) (eeX4_finding ..) (((hD (wX4 cI cS a0 a1 a2 a3 a4 a5 a6 a7 a8 a9 a10 a11 a12 a13 a14 a15 a16 a17 a18 a19 a20 a21 a22 ppl psp psy psh tpl tsp tsy tsh kpl ksp ksy ksh bs bt sz nm fd ik psc pnc pdy pzz tsc tnc tdy tzz ksc knc kdy kzz ln so be en va) rfl).sub [0, 1, 2, 3, 4, 5, 6, 7, 8, 9, 10, 11, 12, 13, 14, 15, 16, 17, 18, 19, 20, 21, 22] (by decide) rfl).weaken (fun _ _ _ _ => trivial))) RX4 gX4_hold_X4_finding rfl ⟨rfl, rfl⟩ pdX4_finding rfl ⟨Nat.le_of_ble_eq_true rfl, Nat.le_of_ble_eq_true rfl⟩ (fun _ _ _ _ q => q) (va_recv hE.1 hPc (ci := 3) (q0 := 0) rfl rfl) (fun U hU _ _ => by rw [hU]; exact hPc) hl.1 rfl (Nat.le_of_ble_eq_true rfl) dX4_hold_29 ⟨Nat.zero_le _, Nat.zero_le _⟩) hP (hD _ rfl) hS rfl rfl rfl (fun H locs hP hS => ?_)
    obtain ⟨q0, g0⟩ := Prod.mk.inj (h)
    obtain ⟨q1, q2⟩ := Prod.mk.inj g0
    subst q0 q1 q2
    exact eMi C0 hP hS rfl rfl dX4_hold_32
  · have h := ifn c_1 h
    refine lv_iload_n hx hb dX4_hold_10 rfl (lv_at hl 2 rfl) ?_
    refine lv_iconst (v := (-1)) hx hb dX4_hold_11 (by decide) ?_
    refine lv_icmp_eq (tgt := 33) hx hb dX4_hold_12 (by decide) (fun c_2 => ?_) (fun c_2 => ?_)
    · have h := ifp c_2 h
      refine lv_aload_n hx hb dX4_hold_33 rfl (lv_at hl 0 rfl) ?_
      refine va_get (D := D) (ci := 3) (v := .ref a1) (C := RX4) (T := TX4) (N := 7) hx hb hts hinX4 hown hE.1 hP 0 rfl rfl 0 (by decide) (hts _ (List.mem_of_getElem? (i := 1) rfl)) (fun _ h9 => h9) rfl dX4_hold_34 ?_
      refine lv_iload_n hx hb dX4_hold_37 rfl (lv_at hl 1 rfl) ?_
      refine lv_iload_n hx hb dX4_hold_38 rfl (lv_at hl 2 rfl) ?_
      have hPc := hP.sub (ws' := (wX0 cI cS a1 a2 a3 a4 a5 ppl psp psy psh psc pnc pdy pzz)) [1, 2, 3, 4, 5] rfl
      refine kMv (wf' := (wX4 cI cS a0 a1 a2 a3 a4 a5 a6 a7 a8 a9 a10 a11 a12 a13 a14 a15 a16 a17 a18 a19 a20 a21 a22 ppl (fX0_setHeld psp v1 v2) psy psh tpl tsp tsy tsh kpl ksp ksy ksh bs bt sz nm fd ik psc pnc pdy pzz tsc tnc tdy tzz ksc knc kdy kzz ln so be en va)) [1, 2, 3, 4, 5] [none, some 0, some 1, some 2, some 3, some 4, none, none, none, none, none, none, none, none, none, none, none, none, none, none, none, none, none] (rV C0 (tX0_setHeld l D cI cS a1 a2 a3 a4 a5 ppl psp psy psh psc pnc pdy pzz v1 v2 (fX0_setHeld psp v1 v2) rfl (((hD (wX4 cI cS a0 a1 a2 a3 a4 a5 a6 a7 a8 a9 a10 a11 a12 a13 a14 a15 a16 a17 a18 a19 a20 a21 a22 ppl psp psy psh tpl tsp tsy tsh kpl ksp ksy ksh bs bt sz nm fd ik psc pnc pdy pzz tsc tnc tdy tzz ksc knc kdy kzz ln so be en va) rfl).sub [1, 2, 3, 4, 5] (by decide) rfl).weaken (fun _ _ _ _ => trivial))) RX0 gX4_hold_X0_setHeld rfl ⟨rfl, rfl⟩ pdX0_setHeld rfl ⟨Nat.le_of_ble_eq_true rfl, Nat.le_of_ble_eq_true rfl⟩ (fun _ _ _ _ q => q) (va_recv hE.1 hPc (ci := 0) (q0 := 0) rfl rfl) (fun U hU _ _ => by rw [hU]; exact hPc) hl.1 rfl (Nat.le_of_ble_eq_true rfl) dX4_hold_39 ⟨Nat.zero_le _, Nat.zero_le _⟩) hP (hD _ rfl) hS rfl rfl rfl (fun H locs hP hS => ?_)
      refine lv_iconst (v := 1) hx hb dX4_hold_42 (by decide) ?_
      obtain ⟨q0, g0⟩ := Prod.mk.inj (h)
      obtain ⟨q1, q2⟩ := Prod.mk.inj g0
      subst q0 q1 q2
      exact eMi C0 hP hS rfl rfl dX4_hold_43
    · have h := ifn c_2 h
      refine lv_aload_n hx hb dX4_hold_15 rfl (lv_at hl 0 rfl) ?_
      refine va_get (D := D) (ci := 3) (v := .ref a1) (C := RX4) (T := TX4) (N := 7) hx hb hts hinX4 hown hE.1 hP 0 rfl rfl 0 (by decide) (hts _ (List.mem_of_getElem? (i := 1) rfl)) (fun _ h9 => h9) rfl dX4_hold_16 ?_
      refine lv_iload_n hx hb dX4_hold_19 rfl (lv_at hl 2 rfl) ?_
      have hPc := hP.sub (ws' := (wX0 cI cS a1 a2 a3 a4 a5 ppl psp psy psh psc pnc pdy pzz)) [1, 2, 3, 4, 5] rfl
      refine kRi (rV C0 (tX0_hasSaying l D cI cS a1 a2 a3 a4 a5 ppl psp psy psh psc pnc pdy pzz v2 (fX0_hasSaying psc v2) rfl) RX0 gX4_hold_X0_hasSaying rfl ⟨rfl, rfl⟩ pdX0_hasSaying rfl ⟨Nat.le_of_ble_eq_true rfl, Nat.le_of_ble_eq_true rfl⟩ (fun _ _ _ _ q => q) (va_recv hE.1 hPc (ci := 0) (q0 := 0) rfl rfl) (fun U hU _ _ => by rw [hU]; exact hPc) hl.1 rfl (Nat.le_of_ble_eq_true rfl) dX4_hold_20 ⟨Nat.zero_le _, Nat.zero_le _⟩) ?_
      refine lv_if_ne (tgt := 33) hx hb dX4_hold_23 (by decide) (fun c_3 => ?_) (fun c_3 => ?_)
      · have h := ifn c_3 h
        refine lv_aload_n hx hb dX4_hold_33 rfl (lv_at hl 0 rfl) ?_
        refine va_get (D := D) (ci := 3) (v := .ref a1) (C := RX4) (T := TX4) (N := 7) hx hb hts hinX4 hown hE.1 hP 0 rfl rfl 0 (by decide) (hts _ (List.mem_of_getElem? (i := 1) rfl)) (fun _ h9 => h9) rfl dX4_hold_34 ?_
        refine lv_iload_n hx hb dX4_hold_37 rfl (lv_at hl 1 rfl) ?_
        refine lv_iload_n hx hb dX4_hold_38 rfl (lv_at hl 2 rfl) ?_
        have hPc := hP.sub (ws' := (wX0 cI cS a1 a2 a3 a4 a5 ppl psp psy psh psc pnc pdy pzz)) [1, 2, 3, 4, 5] rfl
        refine kMv (wf' := (wX4 cI cS a0 a1 a2 a3 a4 a5 a6 a7 a8 a9 a10 a11 a12 a13 a14 a15 a16 a17 a18 a19 a20 a21 a22 ppl (fX0_setHeld psp v1 v2) psy psh tpl tsp tsy tsh kpl ksp ksy ksh bs bt sz nm fd ik psc pnc pdy pzz tsc tnc tdy tzz ksc knc kdy kzz ln so be en va)) [1, 2, 3, 4, 5] [none, some 0, some 1, some 2, some 3, some 4, none, none, none, none, none, none, none, none, none, none, none, none, none, none, none, none, none] (rV C0 (tX0_setHeld l D cI cS a1 a2 a3 a4 a5 ppl psp psy psh psc pnc pdy pzz v1 v2 (fX0_setHeld psp v1 v2) rfl (((hD (wX4 cI cS a0 a1 a2 a3 a4 a5 a6 a7 a8 a9 a10 a11 a12 a13 a14 a15 a16 a17 a18 a19 a20 a21 a22 ppl psp psy psh tpl tsp tsy tsh kpl ksp ksy ksh bs bt sz nm fd ik psc pnc pdy pzz tsc tnc tdy tzz ksc knc kdy kzz ln so be en va) rfl).sub [1, 2, 3, 4, 5] (by decide) rfl).weaken (fun _ _ _ _ => trivial))) RX0 gX4_hold_X0_setHeld rfl ⟨rfl, rfl⟩ pdX0_setHeld rfl ⟨Nat.le_of_ble_eq_true rfl, Nat.le_of_ble_eq_true rfl⟩ (fun _ _ _ _ q => q) (va_recv hE.1 hPc (ci := 0) (q0 := 0) rfl rfl) (fun U hU _ _ => by rw [hU]; exact hPc) hl.1 rfl (Nat.le_of_ble_eq_true rfl) dX4_hold_39 ⟨Nat.zero_le _, Nat.zero_le _⟩) hP (hD _ rfl) hS rfl rfl rfl (fun H locs hP hS => ?_)
        refine lv_iconst (v := 1) hx hb dX4_hold_42 (by decide) ?_
        obtain ⟨q0, g0⟩ := Prod.mk.inj (h)
        obtain ⟨q1, q2⟩ := Prod.mk.inj g0
        subst q0 q1 q2
        exact eMi C0 hP hS rfl rfl dX4_hold_43
      · have h := ifp c_3 h
        refine lv_aload_n hx hb dX4_hold_26 rfl (lv_at hl 0 rfl) ?_
        refine lv_ldc (v := (-1000001)) hx hb hown (hts _ (List.mem_of_getElem? (i := 2) rfl)) dX4_hold_27 ?_
        have hPc := hP.sub (ws' := (wX4 cI cS a0 a1 a2 a3 a4 a5 a6 a7 a8 a9 a10 a11 a12 a13 a14 a15 a16 a17 a18 a19 a20 a21 a22 ppl psp psy psh tpl tsp tsy tsh kpl ksp ksy ksh bs bt sz nm fd ik psc pnc pdy pzz tsc tnc tdy tzz ksc knc kdy kzz ln so be en va)) [0, 1, 2, 3, 4, 5, 6, 7, 8, 9, 10, 11, 12, 13, 14, 15, 16, 17, 18, 19, 20, 21, 22] rfl
        refine kMi (wf' := (wX4 cI cS a0 a1 a2 a3 a4 a5 a6 a7 a8 a9 a10 a11 a12 a13 a14 a15 a16 a17 a18 a19 a20 a21 a22 ppl psp psy psh tpl tsp tsy tsh kpl ksp ksy ksh bs bt sz nm (fX4_finding_o1 fd (-1000001)) ik psc pnc pdy pzz tsc tnc tdy tzz ksc knc kdy kzz ln so be en va)) [0, 1, 2, 3, 4, 5, 6, 7, 8, 9, 10, 11, 12, 13, 14, 15, 16, 17, 18, 19, 20, 21, 22] [some 0, some 1, some 2, some 3, some 4, some 5, some 6, some 7, some 8, some 9, some 10, some 11, some 12, some 13, some 14, some 15, some 16, some 17, some 18, some 19, some 20, some 21, some 22] (rV C0 (tX4_finding l D cI cS a0 a1 a2 a3 a4 a5 a6 a7 a8 a9 a10 a11 a12 a13 a14 a15 a16 a17 a18 a19 a20 a21 a22 ppl psp psy psh tpl tsp tsy tsh kpl ksp ksy ksh bs bt sz nm fd ik psc pnc pdy pzz tsc tnc tdy tzz ksc knc kdy kzz ln so be en va (-1000001) (-1000001) (fX4_finding_o1 fd (-1000001)) (eeX4_finding ..) (((hD (wX4 cI cS a0 a1 a2 a3 a4 a5 a6 a7 a8 a9 a10 a11 a12 a13 a14 a15 a16 a17 a18 a19 a20 a21 a22 ppl psp psy psh tpl tsp tsy tsh kpl ksp ksy ksh bs bt sz nm fd ik psc pnc pdy pzz tsc tnc tdy tzz ksc knc kdy kzz ln so be en va) rfl).sub [0, 1, 2, 3, 4, 5, 6, 7, 8, 9, 10, 11, 12, 13, 14, 15, 16, 17, 18, 19, 20, 21, 22] (by decide) rfl).weaken (fun _ _ _ _ => trivial))) RX4 gX4_hold_X4_finding rfl ⟨rfl, rfl⟩ pdX4_finding rfl ⟨Nat.le_of_ble_eq_true rfl, Nat.le_of_ble_eq_true rfl⟩ (fun _ _ _ _ q => q) (va_recv hE.1 hPc (ci := 3) (q0 := 0) rfl rfl) (fun U hU _ _ => by rw [hU]; exact hPc) hl.1 rfl (Nat.le_of_ble_eq_true rfl) dX4_hold_29 ⟨Nat.zero_le _, Nat.zero_le _⟩) hP (hD _ rfl) hS rfl rfl rfl (fun H locs hP hS => ?_)
        obtain ⟨q0, g0⟩ := Prod.mk.inj (h)
        obtain ⟨q1, q2⟩ := Prod.mk.inj g0
        subst q0 q1 q2
        exact eMi C0 hP hS rfl rfl dX4_hold_32
def fX4_as (F : Nat) (psp : Nat → Int32) (psy : Nat → Int32) (fd : Nat → Int32) (v1 : Int32) (v2 : Int32) : Option (Int32 × (Nat → Int32)) := (if (fX4_within v1 0 9) = 0 then some ((-1000001), fX4_finding_o1 fd (-1000001)) else (if (fX4_isKind v2) = 0 then some ((-1000001), fX4_finding_o1 fd (-1000001)) else (if (fX0_heldIn psp v1) = (-1) then some ((-1000006), fX4_finding_o1 fd (-1000006)) else Option.bind (fX1_isOrIsUnder F (fX0_sayingHas psy (fX0_heldIn psp v1) 0) v2) (fun z_4 => (if z_4 = 0 then some ((-1000003), fX4_finding_o1 fd (-1000003)) else some ((fX0_heldIn psp v1), fd))))))
abbrev rmX4_as : Room := { frames := 2, cells := 0, slots := 0, locals := 44 }
theorem pdX4_as : (yX4_as.cls = RX4 ∧ yX4_as.cls ≠ "java/lang/invoke/MethodHandle" ∧ yX4_as.cls ≠ "java/lang/invoke/VarHandle" ∧ (parseMethodDescriptor yX4_as.desc).map (fun d => d.parameters.length) = some 2) := by decide +kernel
set_option maxHeartbeats 4000000 in
set_option maxRecDepth 100000 in
theorem tX4_as (l : Launch) (D : va_G) (cI cS : ClassId) (F : Nat) (a0 a1 a2 a3 a4 a5 a6 a7 a8 a9 a10 a11 a12 a13 a14 a15 a16 a17 a18 a19 a20 a21 a22 : Nat) (ppl : Nat → Int32) (psp : Nat → Int32) (psy : Nat → Int32) (psh : Nat → Int32) (tpl : Nat → Int32) (tsp : Nat → Int32) (tsy : Nat → Int32) (tsh : Nat → Int32) (kpl : Nat → Int32) (ksp : Nat → Int32) (ksy : Nat → Int32) (ksh : Nat → Int32) (bs : Nat → Int32) (bt : Nat → Int32) (sz : Nat → Int32) (nm : Nat → Int32) (fd : Nat → Int32) (ik : Int32) (psc : Int32) (pnc : Int32) (pdy : Int32) (pzz : Int32) (tsc : Int32) (tnc : Int32) (tdy : Int32) (tzz : Int32) (ksc : Int32) (knc : Int32) (kdy : Int32) (kzz : Int32) (ln : Int32) (so : Int32) (be : Int32) (en : Int32) (va : Int32) (v1 : Int32) (v2 : Int32) (z0 : Int32) (z1 : Nat → Int32) (h : fX4_as F psp psy fd v1 v2 = some (z0, z1)) (hD0 : va_D (fun _ => True) (wX4 cI cS a0 a1 a2 a3 a4 a5 a6 a7 a8 a9 a10 a11 a12 a13 a14 a15 a16 a17 a18 a19 a20 a21 a22 ppl psp psy psh tpl tsp tsy tsh kpl ksp ksy ksh bs bt sz nm fd ik psc pnc pdy pzz tsc tnc tdy tzz ksc knc kdy kzz ln so be en va)) : Met l yX4_as wsX4_as rmX4_as (PZ D cI cS [.ref a0, .int v1, .int v2] (fun U => va_P D vwCl (wX4 cI cS a0 a1 a2 a3 a4 a5 a6 a7 a8 a9 a10 a11 a12 a13 a14 a15 a16 a17 a18 a19 a20 a21 a22 ppl psp psy psh tpl tsp tsy tsh kpl ksp ksy ksh bs bt sz nm fd ik psc pnc pdy pzz tsc tnc tdy tzz ksc knc kdy kzz ln so be en va) U.heap)) (qI D (wX4 cI cS a0 a1 a2 a3 a4 a5 a6 a7 a8 a9 a10 a11 a12 a13 a14 a15 a16 a17 a18 a19 a20 a21 a22 ppl psp psy psh tpl tsp tsy tsh kpl ksp ksy ksh bs bt sz nm fd ik psc pnc pdy pzz tsc tnc tdy tzz ksc knc kdy kzz ln so be en va) (wX4 cI cS a0 a1 a2 a3 a4 a5 a6 a7 a8 a9 a10 a11 a12 a13 a14 a15 a16 a17 a18 a19 a20 a21 a22 ppl psp psy psh tpl tsp tsy tsh kpl ksp ksy ksh bs bt sz nm z1 ik psc pnc pdy pzz tsc tnc tdy tzz ksc knc kdy kzz ln so be en va) z0) 0 0 (wA (wX4 cI cS a0 a1 a2 a3 a4 a5 a6 a7 a8 a9 a10 a11 a12 a13 a14 a15 a16 a17 a18 a19 a20 a21 a22 ppl psp psy psh tpl tsp tsy tsh kpl ksp ksy ksh bs bt sz nm fd ik psc pnc pdy pzz tsc tnc tdy tzz ksc knc kdy kzz ln so be en va)) := by
  refine Met.mk RX4 (by decide) rfl rfl (Nat.le_of_ble_eq_true rfl) ?_
  intro p e s m below meth c ls C0 hP hl
  have hl : lv_has ls 5 [(0, .ref a0), (1, .int v1), (2, .int v2)] := hl
  obtain ⟨hx, hb, hr, hml, hown, hts, hlk, hE⟩ := id C0
  have hinX4 : ∀ w ∈ u_ws RX4 TX4 7, w ∈ wsX4_as := by decide +kernel
  have hD : ∀ W : va_W, W.map Prod.fst = [a0, a1, a2, a3, a4, a5, a6, a7, a8, a9, a10, a11, a12, a13, a14, a15, a16, a17, a18, a19, a20, a21, a22] → va_D (wA (wX4 cI cS a0 a1 a2 a3 a4 a5 a6 a7 a8 a9 a10 a11 a12 a13 a14 a15 a16 a17 a18 a19 a20 a21 a22 ppl psp psy psh tpl tsp tsy tsh kpl ksp ksy ksh bs bt sz nm fd ik psc pnc pdy pzz tsc tnc tdy tzz ksc knc kdy kzz ln so be en va)) W := fun W hW => hD0.own.re hW
  have hS : va_S (wA (wX4 cI cS a0 a1 a2 a3 a4 a5 a6 a7 a8 a9 a10 a11 a12 a13 a14 a15 a16 a17 a18 a19 a20 a21 a22 ppl psp psy psh tpl tsp tsy tsh kpl ksp ksy ksh bs bt sz nm fd ik psc pnc pdy pzz tsc tnc tdy tzz ksc knc kdy kzz ln so be en va)) s.heap s.heap [] := va_S.rf
  have hP : va_P D vwCl (wX4 cI cS a0 a1 a2 a3 a4 a5 a6 a7 a8 a9 a10 a11 a12 a13 a14 a15 a16 a17 a18 a19 a20 a21 a22 ppl psp psy psh tpl tsp tsy tsh kpl ksp ksy ksh bs bt sz nm fd ik psc pnc pdy pzz tsc tnc tdy tzz ksc knc kdy kzz ln so be en va) s.heap := hP
  rw [fX4_as] at h
  refine lv_iload_n hx hb dX4_as_0 rfl (lv_at hl 1 rfl) ?_
  refine lv_iconst (v := 0) hx hb dX4_as_1 (by decide) ?_
  refine lv_bipush (v := 9) hx hb dX4_as_2 (by decide) ?_
  refine kRi (rS C0 (tX4_within l D cI cS v1 0 9 (fX4_within v1 0 9) rfl) gX4_as_X4_within rfl ⟨rfl, rfl⟩ pdX4_within rfl ⟨Nat.le_of_ble_eq_true rfl, Nat.le_of_ble_eq_true rfl⟩ (fun _ _ _ _ q => q) (fun _ _ _ _ => vp0) hl.1 rfl (Nat.le_of_ble_eq_true rfl) dX4_as_4 ⟨Nat.zero_le _, Nat.zero_le _⟩) ?_
  refine lv_if_eq (tgt := 17) hx hb dX4_as_7 (by decide) (fun c_1 => ?_) (fun c_1 => ?_)
  · have h := ifp c_1 h
    refine lv_aload_n hx hb dX4_as_17 rfl (lv_at hl 0 rfl) ?_
    refine lv_ldc (v := (-1000001)) hx hb hown (hts _ (List.mem_of_getElem? (i := 1) rfl)) dX4_as_18 ?_
    have hPc := hP.sub (ws' := (wX4 cI cS a0 a1 a2 a3 a4 a5 a6 a7 a8 a9 a10 a11 a12 a13 a14 a15 a16 a17 a18 a19 a20 a21 a22 ppl psp psy psh tpl tsp tsy tsh kpl ksp ksy ksh bs bt sz nm fd ik psc pnc pdy pzz tsc tnc tdy tzz ksc knc kdy kzz ln so be en va)) [0, 1, 2, 3, 4, 5, 6, 7, 8, 9, 10, 11, 12, 13, 14, 15, 16, 17, 18, 19, 20, 21, 22] rfl
    refine kMi (wf' := (wX4 cI cS a0 a1 a2 a3 a4 a5 a6 a7 a8 a9 a10 a11 a12 a13 a14 a15 a16 a17 a18 a19 a20 a21 a22 ppl psp psy psh tpl tsp tsy tsh kpl ksp ksy ksh bs bt sz nm (fX4_finding_o1 fd (-1000001)) ik psc pnc pdy pzz tsc tnc tdy tzz ksc knc kdy kzz ln so be en va)) [0, 1, 2, 3, 4, 5, 6, 7, 8, 9, 10, 11, 12, 13, 14, 15, 16, 17, 18, 19, 20, 21, 22] [some 0, some 1, some 2, some 3, some 4, some 5, some 6, some 7, some 8, some 9, some 10, some 11, some 12, some 13, some 14, some 15, some 16, some 17, some 18, some 19, some 20, some 21, some 22] (rV C0 (tX4_finding l D cI cS a0 a1 a2 a3 a4 a5 a6 a7 a8 a9 a10 a11 a12 a13 a14 a15 a16 a17 a18 a19 a20 a21 a22 ppl psp psy psh tpl tsp tsy tsh kpl ksp ksy ksh bs bt sz nm fd ik psc pnc pdy pzz tsc tnc tdy tzz ksc knc kdy kzz ln so be en va (-1000001) (-1000001) (fX4_finding_o1 fd (-1000001)) (eeX4_finding ..) (((hD (wX4 cI cS a0 a1 a2 a3 a4 a5 a6 a7 a8 a9 a10 a11 a12 a13 a14 a15 a16 a17 a18 a19 a20 a21 a22 ppl psp psy psh tpl tsp tsy tsh kpl ksp ksy ksh bs bt sz nm fd ik psc pnc pdy pzz tsc tnc tdy tzz ksc knc kdy kzz ln so be en va) rfl).sub [0, 1, 2, 3, 4, 5, 6, 7, 8, 9, 10, 11, 12, 13, 14, 15, 16, 17, 18, 19, 20, 21, 22] (by decide) rfl).weaken (fun _ _ _ _ => trivial))) RX4 gX4_as_X4_finding rfl ⟨rfl, rfl⟩ pdX4_finding rfl ⟨Nat.le_of_ble_eq_true rfl, Nat.le_of_ble_eq_true rfl⟩ (fun _ _ _ _ q => q) (va_recv hE.1 hPc (ci := 3) (q0 := 0) rfl rfl) (fun U hU _ _ => by rw [hU]; exact hPc) hl.1 rfl (Nat.le_of_ble_eq_true rfl) dX4_as_20 ⟨Nat.zero_le _, Nat.zero_le _⟩) hP (hD _ rfl) hS rfl rfl rfl (fun H locs hP hS => ?_)
    obtain ⟨q0, q1⟩ := Prod.mk.inj (Option.some.inj h)
    subst q0 q1
    exact eMi C0 hP hS rfl rfl dX4_as_23
  · have h := ifn c_1 h
    refine lv_iload_n hx hb dX4_as_10 rfl (lv_at hl 2 rfl) ?_
    refine kRi (rS C0 (tX4_isKind l D cI cS v2 (fX4_isKind v2) rfl) gX4_as_X4_isKind rfl ⟨rfl, rfl⟩ pdX4_isKind rfl ⟨Nat.le_of_ble_eq_true rfl, Nat.le_of_ble_eq_true rfl⟩ (fun _ _ _ _ q => q) (fun _ _ _ _ => vp0) hl.1 rfl (Nat.le_of_ble_eq_true rfl) dX4_as_11 ⟨Nat.zero_le _, Nat.zero_le _⟩) ?_
    refine lv_if_ne (tgt := 24) hx hb dX4_as_14 (by decide) (fun c_2 => ?_) (fun c_2 => ?_)
    · have h := ifn c_2 h
      refine lv_aload_n hx hb dX4_as_24 rfl (lv_at hl 0 rfl) ?_
      refine va_get (D := D) (ci := 3) (v := .ref a1) (C := RX4) (T := TX4) (N := 7) hx hb hts hinX4 hown hE.1 hP 0 rfl rfl 0 (by decide) (hts _ (List.mem_of_getElem? (i := 2) rfl)) (fun _ h9 => h9) rfl dX4_as_25 ?_
      refine lv_iload_n hx hb dX4_as_28 rfl (lv_at hl 1 rfl) ?_
      have hPc := hP.sub (ws' := (wX0 cI cS a1 a2 a3 a4 a5 ppl psp psy psh psc pnc pdy pzz)) [1, 2, 3, 4, 5] rfl
      refine kRi (rV C0 (tX0_heldIn l D cI cS a1 a2 a3 a4 a5 ppl psp psy psh psc pnc pdy pzz v1 (fX0_heldIn psp v1) rfl) RX0 gX4_as_X0_heldIn rfl ⟨rfl, rfl⟩ pdX0_heldIn rfl ⟨Nat.le_of_ble_eq_true rfl, Nat.le_of_ble_eq_true rfl⟩ (fun _ _ _ _ q => q) (va_recv hE.1 hPc (ci := 0) (q0 := 0) rfl rfl) (fun U hU _ _ => by rw [hU]; exact hPc) hl.1 rfl (Nat.le_of_ble_eq_true rfl) dX4_as_29 ⟨Nat.zero_le _, Nat.zero_le _⟩) ?_
      refine lv_istore_n (lv' := [(3, .int (fX0_heldIn psp v1)), (0, .ref a0), (1, .int v1), (2, .int v2)]) hx hb dX4_as_32 rfl hl (by decide) rfl (fun ls hl => ?_)
      refine lv_iload_n hx hb dX4_as_33 rfl (lv_at hl 0 rfl) ?_
      refine lv_iconst (v := (-1)) hx hb dX4_as_34 (by decide) ?_
      refine lv_icmp_ne (tgt := 45) hx hb dX4_as_35 (by decide) (fun c_3 => ?_) (fun c_3 => ?_)
      · have h := ifn c_3 h
        refine lv_aload_n hx hb dX4_as_45 rfl (lv_at hl 1 rfl) ?_
        refine va_get (D := D) (ci := 3) (v := .ref a1) (C := RX4) (T := TX4) (N := 7) hx hb hts hinX4 hown hE.1 hP 0 rfl rfl 0 (by decide) (hts _ (List.mem_of_getElem? (i := 2) rfl)) (fun _ h9 => h9) rfl dX4_as_46 ?_
        refine lv_iload_n hx hb dX4_as_49 rfl (lv_at hl 0 rfl) ?_
        refine lv_iconst (v := 0) hx hb dX4_as_50 (by decide) ?_
        have hPc := hP.sub (ws' := (wX0 cI cS a1 a2 a3 a4 a5 ppl psp psy psh psc pnc pdy pzz)) [1, 2, 3, 4, 5] rfl
        refine kRi (rV C0 (tX0_sayingHas l D cI cS a1 a2 a3 a4 a5 ppl psp psy psh psc pnc pdy pzz (fX0_heldIn psp v1) 0 (fX0_sayingHas psy (fX0_heldIn psp v1) 0) rfl) RX0 gX4_as_X0_sayingHas rfl ⟨rfl, rfl⟩ pdX0_sayingHas rfl ⟨Nat.le_of_ble_eq_true rfl, Nat.le_of_ble_eq_true rfl⟩ (fun _ _ _ _ q => q) (va_recv hE.1 hPc (ci := 0) (q0 := 0) rfl rfl) (fun U hU _ _ => by rw [hU]; exact hPc) hl.1 rfl (Nat.le_of_ble_eq_true rfl) dX4_as_51 ⟨Nat.zero_le _, Nat.zero_le _⟩) ?_
        refine lv_iload_n hx hb dX4_as_54 rfl (lv_at hl 3 rfl) ?_
        obtain ⟨z_4, e_5, h⟩ := bds h
        refine kRi (rS C0 (tX1_isOrIsUnder l D cI cS F (fX0_sayingHas psy (fX0_heldIn psp v1) 0) v2 z_4 e_5) gX4_as_X1_isOrIsUnder rfl ⟨rfl, rfl⟩ pdX1_isOrIsUnder rfl ⟨Nat.le_of_ble_eq_true rfl, Nat.le_of_ble_eq_true rfl⟩ (fun _ _ _ _ q => q) (fun _ _ _ _ => vp0) hl.1 rfl (Nat.le_of_ble_eq_true rfl) dX4_as_55 ⟨Nat.zero_le _, Nat.zero_le _⟩) ?_
        refine lv_istore (lv' := [(4, .int z_4), (3, .int (fX0_heldIn psp v1)), (0, .ref a0), (1, .int v1), (2, .int v2)]) hx hb dX4_as_58 hl (by decide) rfl (fun ls hl => ?_)
        refine lv_iload hx hb dX4_as_60 (lv_at hl 0 rfl) ?_
        refine lv_if_eq (tgt := 69) hx hb dX4_as_62 (by decide) (fun c_6 => ?_) (fun c_6 => ?_)
        · have h := ifp c_6 h
          refine lv_aload_n hx hb dX4_as_69 rfl (lv_at hl 2 rfl) ?_
          refine lv_ldc (v := (-1000003)) hx hb hown (hts _ (List.mem_of_getElem? (i := 4) rfl)) dX4_as_70 ?_
          have hPc := hP.sub (ws' := (wX4 cI cS a0 a1 a2 a3 a4 a5 a6 a7 a8 a9 a10 a11 a12 a13 a14 a15 a16 a17 a18 a19 a20 a21 a22 ppl psp psy psh tpl tsp tsy tsh kpl ksp ksy ksh bs bt sz nm fd ik psc pnc pdy pzz tsc tnc tdy tzz ksc knc kdy kzz ln so be en va)) [0, 1, 2, 3, 4, 5, 6, 7, 8, 9, 10, 11, 12, 13, 14, 15, 16, 17, 18, 19, 20, 21, 22] rfl
          refine kMi (wf' := (wX4 cI cS a0 a1 a2 a3 a4 a5 a6 a7 a8 a9 a10 a11 a12 a13 a14 a15 a16 a17 a18 a19 a20 a21 a22 ppl psp psy psh tpl tsp tsy tsh kpl ksp ksy ksh bs bt sz nm (fX4_finding_o1 fd (-1000003)) ik psc pnc pdy pzz tsc tnc tdy tzz ksc knc kdy kzz ln so be en va)) [0, 1, 2, 3, 4, 5, 6, 7, 8, 9, 10, 11, 12, 13, 14, 15, 16, 17, 18, 19, 20, 21, 22] [some 0, some 1, some 2, some 3, some 4, some 5, some 6, some 7, some 8, some 9, some 10, some 11, some 12, some 13, some 14, some 15, some 16, some 17, some 18, some 19, some 20, some 21, some 22] (rV C0 (tX4_finding l D cI cS a0 a1 a2 a3 a4 a5 a6 a7 a8 a9 a10 a11 a12 a13 a14 a15 a16 a17 a18 a19 a20 a21 a22 ppl psp psy psh tpl tsp tsy tsh kpl ksp ksy ksh bs bt sz nm fd ik psc pnc pdy pzz tsc tnc tdy tzz ksc knc kdy kzz ln so be en va (-1000003) (-1000003) (fX4_finding_o1 fd (-1000003)) (eeX4_finding ..) (((hD (wX4 cI cS a0 a1 a2 a3 a4 a5 a6 a7 a8 a9 a10 a11 a12 a13 a14 a15 a16 a17 a18 a19 a20 a21 a22 ppl psp psy psh tpl tsp tsy tsh kpl ksp ksy ksh bs bt sz nm fd ik psc pnc pdy pzz tsc tnc tdy tzz ksc knc kdy kzz ln so be en va) rfl).sub [0, 1, 2, 3, 4, 5, 6, 7, 8, 9, 10, 11, 12, 13, 14, 15, 16, 17, 18, 19, 20, 21, 22] (by decide) rfl).weaken (fun _ _ _ _ => trivial))) RX4 gX4_as_X4_finding rfl ⟨rfl, rfl⟩ pdX4_finding rfl ⟨Nat.le_of_ble_eq_true rfl, Nat.le_of_ble_eq_true rfl⟩ (fun _ _ _ _ q => q) (va_recv hE.1 hPc (ci := 3) (q0 := 0) rfl rfl) (fun U hU _ _ => by rw [hU]; exact hPc) hl.1 rfl (Nat.le_of_ble_eq_true rfl) dX4_as_72 ⟨Nat.zero_le _, Nat.zero_le _⟩) hP (hD _ rfl) hS rfl rfl rfl (fun H locs hP hS => ?_)
          obtain ⟨q0, q1⟩ := Prod.mk.inj (Option.some.inj h)
          subst q0 q1
          exact eMi C0 hP hS rfl rfl dX4_as_75
        · have h := ifn c_6 h
          refine lv_iload_n hx hb dX4_as_65 rfl (lv_at hl 1 rfl) ?_
          refine lv_goto (tgt := 75) hx hb dX4_as_66 (by decide) ?_
          obtain ⟨q0, q1⟩ := Prod.mk.inj (Option.some.inj h)
          subst q0 q1
          exact eMi C0 hP hS rfl rfl dX4_as_75
      · have h := ifp c_3 h
        refine lv_aload_n hx hb dX4_as_38 rfl (lv_at hl 1 rfl) ?_
        refine lv_ldc (v := (-1000006)) hx hb hown (hts _ (List.mem_of_getElem? (i := 3) rfl)) dX4_as_39 ?_
        have hPc := hP.sub (ws' := (wX4 cI cS a0 a1 a2 a3 a4 a5 a6 a7 a8 a9 a10 a11 a12 a13 a14 a15 a16 a17 a18 a19 a20 a21 a22 ppl psp psy psh tpl tsp tsy tsh kpl ksp ksy ksh bs bt sz nm fd ik psc pnc pdy pzz tsc tnc tdy tzz ksc knc kdy kzz ln so be en va)) [0, 1, 2, 3, 4, 5, 6, 7, 8, 9, 10, 11, 12, 13, 14, 15, 16, 17, 18, 19, 20, 21, 22] rfl
        refine kMi (wf' := (wX4 cI cS a0 a1 a2 a3 a4 a5 a6 a7 a8 a9 a10 a11 a12 a13 a14 a15 a16 a17 a18 a19 a20 a21 a22 ppl psp psy psh tpl tsp tsy tsh kpl ksp ksy ksh bs bt sz nm (fX4_finding_o1 fd (-1000006)) ik psc pnc pdy pzz tsc tnc tdy tzz ksc knc kdy kzz ln so be en va)) [0, 1, 2, 3, 4, 5, 6, 7, 8, 9, 10, 11, 12, 13, 14, 15, 16, 17, 18, 19, 20, 21, 22] [some 0, some 1, some 2, some 3, some 4, some 5, some 6, some 7, some 8, some 9, some 10, some 11, some 12, some 13, some 14, some 15, some 16, some 17, some 18, some 19, some 20, some 21, some 22] (rV C0 (tX4_finding l D cI cS a0 a1 a2 a3 a4 a5 a6 a7 a8 a9 a10 a11 a12 a13 a14 a15 a16 a17 a18 a19 a20 a21 a22 ppl psp psy psh tpl tsp tsy tsh kpl ksp ksy ksh bs bt sz nm fd ik psc pnc pdy pzz tsc tnc tdy tzz ksc knc kdy kzz ln so be en va (-1000006) (-1000006) (fX4_finding_o1 fd (-1000006)) (eeX4_finding ..) (((hD (wX4 cI cS a0 a1 a2 a3 a4 a5 a6 a7 a8 a9 a10 a11 a12 a13 a14 a15 a16 a17 a18 a19 a20 a21 a22 ppl psp psy psh tpl tsp tsy tsh kpl ksp ksy ksh bs bt sz nm fd ik psc pnc pdy pzz tsc tnc tdy tzz ksc knc kdy kzz ln so be en va) rfl).sub [0, 1, 2, 3, 4, 5, 6, 7, 8, 9, 10, 11, 12, 13, 14, 15, 16, 17, 18, 19, 20, 21, 22] (by decide) rfl).weaken (fun _ _ _ _ => trivial))) RX4 gX4_as_X4_finding rfl ⟨rfl, rfl⟩ pdX4_finding rfl ⟨Nat.le_of_ble_eq_true rfl, Nat.le_of_ble_eq_true rfl⟩ (fun _ _ _ _ q => q) (va_recv hE.1 hPc (ci := 3) (q0 := 0) rfl rfl) (fun U hU _ _ => by rw [hU]; exact hPc) hl.1 rfl (Nat.le_of_ble_eq_true rfl) dX4_as_41 ⟨Nat.zero_le _, Nat.zero_le _⟩) hP (hD _ rfl) hS rfl rfl rfl (fun H locs hP hS => ?_)
        obtain ⟨q0, q1⟩ := Prod.mk.inj (Option.some.inj h)
        subst q0 q1
        exact eMi C0 hP hS rfl rfl dX4_as_44
    · have h := ifp c_2 h
      refine lv_aload_n hx hb dX4_as_17 rfl (lv_at hl 0 rfl) ?_
      refine lv_ldc (v := (-1000001)) hx hb hown (hts _ (List.mem_of_getElem? (i := 1) rfl)) dX4_as_18 ?_
      have hPc := hP.sub (ws' := (wX4 cI cS a0 a1 a2 a3 a4 a5 a6 a7 a8 a9 a10 a11 a12 a13 a14 a15 a16 a17 a18 a19 a20 a21 a22 ppl psp psy psh tpl tsp tsy tsh kpl ksp ksy ksh bs bt sz nm fd ik psc pnc pdy pzz tsc tnc tdy tzz ksc knc kdy kzz ln so be en va)) [0, 1, 2, 3, 4, 5, 6, 7, 8, 9, 10, 11, 12, 13, 14, 15, 16, 17, 18, 19, 20, 21, 22] rfl
      refine kMi (wf' := (wX4 cI cS a0 a1 a2 a3 a4 a5 a6 a7 a8 a9 a10 a11 a12 a13 a14 a15 a16 a17 a18 a19 a20 a21 a22 ppl psp psy psh tpl tsp tsy tsh kpl ksp ksy ksh bs bt sz nm (fX4_finding_o1 fd (-1000001)) ik psc pnc pdy pzz tsc tnc tdy tzz ksc knc kdy kzz ln so be en va)) [0, 1, 2, 3, 4, 5, 6, 7, 8, 9, 10, 11, 12, 13, 14, 15, 16, 17, 18, 19, 20, 21, 22] [some 0, some 1, some 2, some 3, some 4, some 5, some 6, some 7, some 8, some 9, some 10, some 11, some 12, some 13, some 14, some 15, some 16, some 17, some 18, some 19, some 20, some 21, some 22] (rV C0 (tX4_finding l D cI cS a0 a1 a2 a3 a4 a5 a6 a7 a8 a9 a10 a11 a12 a13 a14 a15 a16 a17 a18 a19 a20 a21 a22 ppl psp psy psh tpl tsp tsy tsh kpl ksp ksy ksh bs bt sz nm fd ik psc pnc pdy pzz tsc tnc tdy tzz ksc knc kdy kzz ln so be en va (-1000001) (-1000001) (fX4_finding_o1 fd (-1000001)) (eeX4_finding ..) (((hD (wX4 cI cS a0 a1 a2 a3 a4 a5 a6 a7 a8 a9 a10 a11 a12 a13 a14 a15 a16 a17 a18 a19 a20 a21 a22 ppl psp psy psh tpl tsp tsy tsh kpl ksp ksy ksh bs bt sz nm fd ik psc pnc pdy pzz tsc tnc tdy tzz ksc knc kdy kzz ln so be en va) rfl).sub [0, 1, 2, 3, 4, 5, 6, 7, 8, 9, 10, 11, 12, 13, 14, 15, 16, 17, 18, 19, 20, 21, 22] (by decide) rfl).weaken (fun _ _ _ _ => trivial))) RX4 gX4_as_X4_finding rfl ⟨rfl, rfl⟩ pdX4_finding rfl ⟨Nat.le_of_ble_eq_true rfl, Nat.le_of_ble_eq_true rfl⟩ (fun _ _ _ _ q => q) (va_recv hE.1 hPc (ci := 3) (q0 := 0) rfl rfl) (fun U hU _ _ => by rw [hU]; exact hPc) hl.1 rfl (Nat.le_of_ble_eq_true rfl) dX4_as_20 ⟨Nat.zero_le _, Nat.zero_le _⟩) hP (hD _ rfl) hS rfl rfl rfl (fun H locs hP hS => ?_)
      obtain ⟨q0, q1⟩ := Prod.mk.inj (Option.some.inj h)
      subst q0 q1
      exact eMi C0 hP hS rfl rfl dX4_as_23
