def fX0_become (pl : Nat → Int32) (sp : Nat → Int32) (sy : Nat → Int32) (sh : Nat → Int32) (opl : Nat → Int32) (osp : Nat → Int32) (osy : Nat → Int32) (osh : Nat → Int32) (sc : Int32) (nc : Int32) (dy : Int32) (zz : Int32) (osc : Int32) (onc : Int32) (ody : Int32) (ozz : Int32) : (Nat → Int32) × (Nat → Int32) × (Nat → Int32) × (Nat → Int32) × Int32 × Int32 × Int32 × Int32 := (va_cpy opl pl 0 0 6, va_cpy osp sp 0 0 10, va_cpy osy sy 0 0 40, va_cpy osh sh 0 0 24, osc, onc, ody, ozz)
def fX0_become_o0 (pl : Nat → Int32) (sp : Nat → Int32) (sy : Nat → Int32) (sh : Nat → Int32) (opl : Nat → Int32) (osp : Nat → Int32) (osy : Nat → Int32) (osh : Nat → Int32) (sc : Int32) (nc : Int32) (dy : Int32) (zz : Int32) (osc : Int32) (onc : Int32) (ody : Int32) (ozz : Int32) : Nat → Int32 := (fX0_become pl sp sy sh opl osp osy osh sc nc dy zz osc onc ody ozz).1
def fX0_become_o1 (pl : Nat → Int32) (sp : Nat → Int32) (sy : Nat → Int32) (sh : Nat → Int32) (opl : Nat → Int32) (osp : Nat → Int32) (osy : Nat → Int32) (osh : Nat → Int32) (sc : Int32) (nc : Int32) (dy : Int32) (zz : Int32) (osc : Int32) (onc : Int32) (ody : Int32) (ozz : Int32) : Nat → Int32 := (fX0_become pl sp sy sh opl osp osy osh sc nc dy zz osc onc ody ozz).2.1
def fX0_become_o2 (pl : Nat → Int32) (sp : Nat → Int32) (sy : Nat → Int32) (sh : Nat → Int32) (opl : Nat → Int32) (osp : Nat → Int32) (osy : Nat → Int32) (osh : Nat → Int32) (sc : Int32) (nc : Int32) (dy : Int32) (zz : Int32) (osc : Int32) (onc : Int32) (ody : Int32) (ozz : Int32) : Nat → Int32 := (fX0_become pl sp sy sh opl osp osy osh sc nc dy zz osc onc ody ozz).2.2.1
def fX0_become_o3 (pl : Nat → Int32) (sp : Nat → Int32) (sy : Nat → Int32) (sh : Nat → Int32) (opl : Nat → Int32) (osp : Nat → Int32) (osy : Nat → Int32) (osh : Nat → Int32) (sc : Int32) (nc : Int32) (dy : Int32) (zz : Int32) (osc : Int32) (onc : Int32) (ody : Int32) (ozz : Int32) : Nat → Int32 := (fX0_become pl sp sy sh opl osp osy osh sc nc dy zz osc onc ody ozz).2.2.2.1
def fX0_become_o4 (pl : Nat → Int32) (sp : Nat → Int32) (sy : Nat → Int32) (sh : Nat → Int32) (opl : Nat → Int32) (osp : Nat → Int32) (osy : Nat → Int32) (osh : Nat → Int32) (sc : Int32) (nc : Int32) (dy : Int32) (zz : Int32) (osc : Int32) (onc : Int32) (ody : Int32) (ozz : Int32) : Int32 := (fX0_become pl sp sy sh opl osp osy osh sc nc dy zz osc onc ody ozz).2.2.2.2.1
def fX0_become_o5 (pl : Nat → Int32) (sp : Nat → Int32) (sy : Nat → Int32) (sh : Nat → Int32) (opl : Nat → Int32) (osp : Nat → Int32) (osy : Nat → Int32) (osh : Nat → Int32) (sc : Int32) (nc : Int32) (dy : Int32) (zz : Int32) (osc : Int32) (onc : Int32) (ody : Int32) (ozz : Int32) : Int32 := (fX0_become pl sp sy sh opl osp osy osh sc nc dy zz osc onc ody ozz).2.2.2.2.2.1
def fX0_become_o6 (pl : Nat → Int32) (sp : Nat → Int32) (sy : Nat → Int32) (sh : Nat → Int32) (opl : Nat → Int32) (osp : Nat → Int32) (osy : Nat → Int32) (osh : Nat → Int32) (sc : Int32) (nc : Int32) (dy : Int32) (zz : Int32) (osc : Int32) (onc : Int32) (ody : Int32) (ozz : Int32) : Int32 := (fX0_become pl sp sy sh opl osp osy osh sc nc dy zz osc onc ody ozz).2.2.2.2.2.2.1
def fX0_become_o7 (pl : Nat → Int32) (sp : Nat → Int32) (sy : Nat → Int32) (sh : Nat → Int32) (opl : Nat → Int32) (osp : Nat → Int32) (osy : Nat → Int32) (osh : Nat → Int32) (sc : Int32) (nc : Int32) (dy : Int32) (zz : Int32) (osc : Int32) (onc : Int32) (ody : Int32) (ozz : Int32) : Int32 := (fX0_become pl sp sy sh opl osp osy osh sc nc dy zz osc onc ody ozz).2.2.2.2.2.2.2
theorem eeX0_become (pl : Nat → Int32) (sp : Nat → Int32) (sy : Nat → Int32) (sh : Nat → Int32) (opl : Nat → Int32) (osp : Nat → Int32) (osy : Nat → Int32) (osh : Nat → Int32) (sc : Int32) (nc : Int32) (dy : Int32) (zz : Int32) (osc : Int32) (onc : Int32) (ody : Int32) (ozz : Int32) : fX0_become pl sp sy sh opl osp osy osh sc nc dy zz osc onc ody ozz = (fX0_become_o0 pl sp sy sh opl osp osy osh sc nc dy zz osc onc ody ozz, fX0_become_o1 pl sp sy sh opl osp osy osh sc nc dy zz osc onc ody ozz, fX0_become_o2 pl sp sy sh opl osp osy osh sc nc dy zz osc onc ody ozz, fX0_become_o3 pl sp sy sh opl osp osy osh sc nc dy zz osc onc ody ozz, fX0_become_o4 pl sp sy sh opl osp osy osh sc nc dy zz osc onc ody ozz, fX0_become_o5 pl sp sy sh opl osp osy osh sc nc dy zz osc onc ody ozz, fX0_become_o6 pl sp sy sh opl osp osy osh sc nc dy zz osc onc ody ozz, fX0_become_o7 pl sp sy sh opl osp osy osh sc nc dy zz osc onc ody ozz) := rfl
abbrev rmX0_become : Room := { frames := 1, cells := 0, slots := 0, locals := 40 }
theorem pdX0_become : (yX0_become.cls = RX0 ∧ yX0_become.cls ≠ "java/lang/invoke/MethodHandle" ∧ yX0_become.cls ≠ "java/lang/invoke/VarHandle" ∧ (parseMethodDescriptor yX0_become.desc).map (fun d => d.parameters.length) = some 1) := by decide +kernel
set_option maxHeartbeats 4000000 in
set_option maxRecDepth 100000 in
theorem tX0_become (l : Launch) (D : va_G) (cI cS : ClassId) (a0 a1 a2 a3 a4 a5 a6 a7 a8 a9 : Nat) (pl : Nat → Int32) (sp : Nat → Int32) (sy : Nat → Int32) (sh : Nat → Int32) (opl : Nat → Int32) (osp : Nat → Int32) (osy : Nat → Int32) (osh : Nat → Int32) (sc : Int32) (nc : Int32) (dy : Int32) (zz : Int32) (osc : Int32) (onc : Int32) (ody : Int32) (ozz : Int32) (z0 : Nat → Int32) (z1 : Nat → Int32) (z2 : Nat → Int32) (z3 : Nat → Int32) (z4 : Int32) (z5 : Int32) (z6 : Int32) (z7 : Int32) (h : fX0_become pl sp sy sh opl osp osy osh sc nc dy zz osc onc ody ozz = (z0, z1, z2, z3, z4, z5, z6, z7)) (hD0 : va_D (fun _ => True) (wE2 cI cS a0 a1 a2 a3 a4 a5 a6 a7 a8 a9 pl sp sy sh opl osp osy osh sc nc dy zz osc onc ody ozz)) : Met l yX0_become wsX0_become rmX0_become (PZ D cI cS [.ref a0, .ref a5] (fun U => va_P D vwCl (wE2 cI cS a0 a1 a2 a3 a4 a5 a6 a7 a8 a9 pl sp sy sh opl osp osy osh sc nc dy zz osc onc ody ozz) U.heap)) (qV D (wE2 cI cS a0 a1 a2 a3 a4 a5 a6 a7 a8 a9 pl sp sy sh opl osp osy osh sc nc dy zz osc onc ody ozz) (wE2 cI cS a0 a1 a2 a3 a4 a5 a6 a7 a8 a9 z0 z1 z2 z3 opl osp osy osh z4 z5 z6 z7 osc onc ody ozz)) 0 0 (wA (wE2 cI cS a0 a1 a2 a3 a4 a5 a6 a7 a8 a9 pl sp sy sh opl osp osy osh sc nc dy zz osc onc ody ozz)) := by
  refine Met.mk RX0 (by decide) rfl rfl (Nat.le_of_ble_eq_true rfl) ?_
  intro p e s m below meth c ls C0 hP hl
  have hl : lv_has ls 2 [(0, .ref a0), (1, .ref a5)] := hl
  obtain ⟨hx, hb, hr, hml, hown, hts, hlk, hE⟩ := id C0
  have hinX0 : ∀ w ∈ u_ws RX0 TX0 8, w ∈ wsX0_become := by decide +kernel
  have hD : ∀ W : va_W, W.map Prod.fst = [a0, a1, a2, a3, a4, a5, a6, a7, a8, a9] → va_D (wA (wE2 cI cS a0 a1 a2 a3 a4 a5 a6 a7 a8 a9 pl sp sy sh opl osp osy osh sc nc dy zz osc onc ody ozz)) W := fun W hW => hD0.own.re hW
  have hS : va_S (wA (wE2 cI cS a0 a1 a2 a3 a4 a5 a6 a7 a8 a9 pl sp sy sh opl osp osy osh sc nc dy zz osc onc ody ozz)) s.heap s.heap [] := va_S.rf
  have hP : va_P D vwCl (wE2 cI cS a0 a1 a2 a3 a4 a5 a6 a7 a8 a9 pl sp sy sh opl osp osy osh sc nc dy zz osc onc ody ozz) s.heap := hP
  rw [fX0_become] at h
  refine lv_aload_n hx hb dX0_become_0 rfl (lv_at hl 1 rfl) ?_
  refine va_get (D := D) (ci := 0) (v := .ref a6) (C := RX0) (T := TX0) (N := 8) hx hb hts hinX0 hown hE.1 hP 5 rfl rfl 0 (by decide) (hts _ (List.mem_of_getElem? (i := 1) rfl)) (fun _ h9 => h9) rfl dX0_become_1 ?_
  refine lv_iconst (v := 0) hx hb dX0_become_4 (by decide) ?_
  refine lv_aload_n hx hb dX0_become_5 rfl (lv_at hl 0 rfl) ?_
  refine va_get (D := D) (ci := 0) (v := .ref a1) (C := RX0) (T := TX0) (N := 8) hx hb hts hinX0 hown hE.1 hP 0 rfl rfl 0 (by decide) (hts _ (List.mem_of_getElem? (i := 1) rfl)) (fun _ h9 => h9) rfl dX0_become_6 ?_
  refine lv_iconst (v := 0) hx hb dX0_become_9 (by decide) ?_
  refine lv_bipush (v := 6) hx hb dX0_become_10 (by decide) ?_
  refine va_copyi hx hb (hml.trans hl.1.symm) hown (hts _ (List.mem_of_getElem? (i := 2) rfl)) (hts _ (List.mem_of_getElem? (i := 3) rfl)) (hts _ (List.mem_of_getElem? (i := 4) rfl)) (hts _ (List.mem_of_getElem? (i := 5) rfl)) hE.1 hP (hD _ rfl) hS 6 1 0 0 rfl rfl rfl rfl rfl (by decide) (by decide) (by decide) (by decide) (by decide) (fun _ _ => rfl) (Nat.le_of_ble_eq_true rfl) (Nat.le_of_ble_eq_true rfl) dX0_become_12 (fun H locs hP _ hS => ?_)
  have hP : va_P D vwCl (wE2 cI cS a0 a1 a2 a3 a4 a5 a6 a7 a8 a9 (va_cpy opl pl 0 0 6) sp sy sh opl osp osy osh sc nc dy zz osc onc ody ozz) H := hP
  refine lv_aload_n hx hb dX0_become_15 rfl (lv_at hl 1 rfl) ?_
  refine va_get (D := D) (ci := 0) (v := .ref a7) (C := RX0) (T := TX0) (N := 8) hx hb hts hinX0 hown hE.1 hP 5 rfl rfl 1 (by decide) (hts _ (List.mem_of_getElem? (i := 6) rfl)) (fun _ h9 => h9) rfl dX0_become_16 ?_
  refine lv_iconst (v := 0) hx hb dX0_become_19 (by decide) ?_
  refine lv_aload_n hx hb dX0_become_20 rfl (lv_at hl 0 rfl) ?_
  refine va_get (D := D) (ci := 0) (v := .ref a2) (C := RX0) (T := TX0) (N := 8) hx hb hts hinX0 hown hE.1 hP 0 rfl rfl 1 (by decide) (hts _ (List.mem_of_getElem? (i := 6) rfl)) (fun _ h9 => h9) rfl dX0_become_21 ?_
  refine lv_iconst (v := 0) hx hb dX0_become_24 (by decide) ?_
  refine lv_bipush (v := 10) hx hb dX0_become_25 (by decide) ?_
  refine va_copyi hx hb (hml.trans hl.1.symm) hown (hts _ (List.mem_of_getElem? (i := 2) rfl)) (hts _ (List.mem_of_getElem? (i := 3) rfl)) (hts _ (List.mem_of_getElem? (i := 4) rfl)) (hts _ (List.mem_of_getElem? (i := 5) rfl)) hE.1 hP (hD _ rfl) hS 7 2 0 0 rfl rfl rfl rfl rfl (by decide) (by decide) (by decide) (by decide) (by decide) (fun _ _ => rfl) (Nat.le_of_ble_eq_true rfl) (Nat.le_of_ble_eq_true rfl) dX0_become_27 (fun H locs hP _ hS => ?_)
  have hP : va_P D vwCl (wE2 cI cS a0 a1 a2 a3 a4 a5 a6 a7 a8 a9 (va_cpy opl pl 0 0 6) (va_cpy osp sp 0 0 10) sy sh opl osp osy osh sc nc dy zz osc onc ody ozz) H := hP
  refine lv_aload_n hx hb dX0_become_30 rfl (lv_at hl 1 rfl) ?_
  refine va_get (D := D) (ci := 0) (v := .ref a8) (C := RX0) (T := TX0) (N := 8) hx hb hts hinX0 hown hE.1 hP 5 rfl rfl 2 (by decide) (hts _ (List.mem_of_getElem? (i := 7) rfl)) (fun _ h9 => h9) rfl dX0_become_31 ?_
  refine lv_iconst (v := 0) hx hb dX0_become_34 (by decide) ?_
  refine lv_aload_n hx hb dX0_become_35 rfl (lv_at hl 0 rfl) ?_
  refine va_get (D := D) (ci := 0) (v := .ref a3) (C := RX0) (T := TX0) (N := 8) hx hb hts hinX0 hown hE.1 hP 0 rfl rfl 2 (by decide) (hts _ (List.mem_of_getElem? (i := 7) rfl)) (fun _ h9 => h9) rfl dX0_become_36 ?_
  refine lv_iconst (v := 0) hx hb dX0_become_39 (by decide) ?_
  refine lv_bipush (v := 40) hx hb dX0_become_40 (by decide) ?_
  refine va_copyi hx hb (hml.trans hl.1.symm) hown (hts _ (List.mem_of_getElem? (i := 2) rfl)) (hts _ (List.mem_of_getElem? (i := 3) rfl)) (hts _ (List.mem_of_getElem? (i := 4) rfl)) (hts _ (List.mem_of_getElem? (i := 5) rfl)) hE.1 hP (hD _ rfl) hS 8 3 0 0 rfl rfl rfl rfl rfl (by decide) (by decide) (by decide) (by decide) (by decide) (fun _ _ => rfl) (Nat.le_of_ble_eq_true rfl) (Nat.le_of_ble_eq_true rfl) dX0_become_42 (fun H locs hP _ hS => ?_)
  have hP : va_P D vwCl (wE2 cI cS a0 a1 a2 a3 a4 a5 a6 a7 a8 a9 (va_cpy opl pl 0 0 6) (va_cpy osp sp 0 0 10) (va_cpy osy sy 0 0 40) sh opl osp osy osh sc nc dy zz osc onc ody ozz) H := hP
  refine lv_aload_n hx hb dX0_become_45 rfl (lv_at hl 1 rfl) ?_
  refine va_get (D := D) (ci := 0) (v := .ref a9) (C := RX0) (T := TX0) (N := 8) hx hb hts hinX0 hown hE.1 hP 5 rfl rfl 3 (by decide) (hts _ (List.mem_of_getElem? (i := 8) rfl)) (fun _ h9 => h9) rfl dX0_become_46 ?_
  refine lv_iconst (v := 0) hx hb dX0_become_49 (by decide) ?_
  refine lv_aload_n hx hb dX0_become_50 rfl (lv_at hl 0 rfl) ?_
  refine va_get (D := D) (ci := 0) (v := .ref a4) (C := RX0) (T := TX0) (N := 8) hx hb hts hinX0 hown hE.1 hP 0 rfl rfl 3 (by decide) (hts _ (List.mem_of_getElem? (i := 8) rfl)) (fun _ h9 => h9) rfl dX0_become_51 ?_
  refine lv_iconst (v := 0) hx hb dX0_become_54 (by decide) ?_
  refine lv_bipush (v := 24) hx hb dX0_become_55 (by decide) ?_
  refine va_copyi hx hb (hml.trans hl.1.symm) hown (hts _ (List.mem_of_getElem? (i := 2) rfl)) (hts _ (List.mem_of_getElem? (i := 3) rfl)) (hts _ (List.mem_of_getElem? (i := 4) rfl)) (hts _ (List.mem_of_getElem? (i := 5) rfl)) hE.1 hP (hD _ rfl) hS 9 4 0 0 rfl rfl rfl rfl rfl (by decide) (by decide) (by decide) (by decide) (by decide) (fun _ _ => rfl) (Nat.le_of_ble_eq_true rfl) (Nat.le_of_ble_eq_true rfl) dX0_become_57 (fun H locs hP _ hS => ?_)
  have hP : va_P D vwCl (wE2 cI cS a0 a1 a2 a3 a4 a5 a6 a7 a8 a9 (va_cpy opl pl 0 0 6) (va_cpy osp sp 0 0 10) (va_cpy osy sy 0 0 40) (va_cpy osh sh 0 0 24) opl osp osy osh sc nc dy zz osc onc ody ozz) H := hP
  refine lv_aload_n hx hb dX0_become_60 rfl (lv_at hl 0 rfl) ?_
  refine lv_aload_n hx hb dX0_become_61 rfl (lv_at hl 1 rfl) ?_
  refine va_get (D := D) (ci := 0) (v := .int osc) (C := RX0) (T := TX0) (N := 8) hx hb hts hinX0 hown hE.1 hP 5 rfl rfl 4 (by decide) (hts _ (List.mem_of_getElem? (i := 9) rfl)) (fun _ h9 => h9) rfl dX0_become_62 ?_
  refine va_put (D := D) (ci := 0) (v := .int osc) (ty := .int) (C := RX0) (T := TX0) (N := 8) hx hb hts hinX0 tyX0 tyX0_ok nmX0 hown hE.1 hP (hD _ rfl) hS 0 rfl rfl 4 (by decide) (hts _ (List.mem_of_getElem? (i := 9) rfl)) (fun _ h9 => h9) rfl (by decide +kernel) rfl rfl (Nat.le_of_ble_eq_true rfl) dX0_become_65 (fun H locs hP _ hS => ?_)
  have hP : va_P D vwCl (wE2 cI cS a0 a1 a2 a3 a4 a5 a6 a7 a8 a9 (va_cpy opl pl 0 0 6) (va_cpy osp sp 0 0 10) (va_cpy osy sy 0 0 40) (va_cpy osh sh 0 0 24) opl osp osy osh osc nc dy zz osc onc ody ozz) H := hP
  refine lv_aload_n hx hb dX0_become_68 rfl (lv_at hl 0 rfl) ?_
  refine lv_aload_n hx hb dX0_become_69 rfl (lv_at hl 1 rfl) ?_
  refine va_get (D := D) (ci := 0) (v := .int onc) (C := RX0) (T := TX0) (N := 8) hx hb hts hinX0 hown hE.1 hP 5 rfl rfl 5 (by decide) (hts _ (List.mem_of_getElem? (i := 10) rfl)) (fun _ h9 => h9) rfl dX0_become_70 ?_
  refine va_put (D := D) (ci := 0) (v := .int onc) (ty := .int) (C := RX0) (T := TX0) (N := 8) hx hb hts hinX0 tyX0 tyX0_ok nmX0 hown hE.1 hP (hD _ rfl) hS 0 rfl rfl 5 (by decide) (hts _ (List.mem_of_getElem? (i := 10) rfl)) (fun _ h9 => h9) rfl (by decide +kernel) rfl rfl (Nat.le_of_ble_eq_true rfl) dX0_become_73 (fun H locs hP _ hS => ?_)
  have hP : va_P D vwCl (wE2 cI cS a0 a1 a2 a3 a4 a5 a6 a7 a8 a9 (va_cpy opl pl 0 0 6) (va_cpy osp sp 0 0 10) (va_cpy osy sy 0 0 40) (va_cpy osh sh 0 0 24) opl osp osy osh osc onc dy zz osc onc ody ozz) H := hP
  refine lv_aload_n hx hb dX0_become_76 rfl (lv_at hl 0 rfl) ?_
  refine lv_aload_n hx hb dX0_become_77 rfl (lv_at hl 1 rfl) ?_
  refine va_get (D := D) (ci := 0) (v := .int ody) (C := RX0) (T := TX0) (N := 8) hx hb hts hinX0 hown hE.1 hP 5 rfl rfl 6 (by decide) (hts _ (List.mem_of_getElem? (i := 11) rfl)) (fun _ h9 => h9) rfl dX0_become_78 ?_
  refine va_put (D := D) (ci := 0) (v := .int ody) (ty := .int) (C := RX0) (T := TX0) (N := 8) hx hb hts hinX0 tyX0 tyX0_ok nmX0 hown hE.1 hP (hD _ rfl) hS 0 rfl rfl 6 (by decide) (hts _ (List.mem_of_getElem? (i := 11) rfl)) (fun _ h9 => h9) rfl (by decide +kernel) rfl rfl (Nat.le_of_ble_eq_true rfl) dX0_become_81 (fun H locs hP _ hS => ?_)
  have hP : va_P D vwCl (wE2 cI cS a0 a1 a2 a3 a4 a5 a6 a7 a8 a9 (va_cpy opl pl 0 0 6) (va_cpy osp sp 0 0 10) (va_cpy osy sy 0 0 40) (va_cpy osh sh 0 0 24) opl osp osy osh osc onc ody zz osc onc ody ozz) H := hP
  refine lv_aload_n hx hb dX0_become_84 rfl (lv_at hl 0 rfl) ?_
  refine lv_aload_n hx hb dX0_become_85 rfl (lv_at hl 1 rfl) ?_
  refine va_get (D := D) (ci := 0) (v := .int ozz) (C := RX0) (T := TX0) (N := 8) hx hb hts hinX0 hown hE.1 hP 5 rfl rfl 7 (by decide) (hts _ (List.mem_of_getElem? (i := 12) rfl)) (fun _ h9 => h9) rfl dX0_become_86 ?_
  refine va_put (D := D) (ci := 0) (v := .int ozz) (ty := .int) (C := RX0) (T := TX0) (N := 8) hx hb hts hinX0 tyX0 tyX0_ok nmX0 hown hE.1 hP (hD _ rfl) hS 0 rfl rfl 7 (by decide) (hts _ (List.mem_of_getElem? (i := 12) rfl)) (fun _ h9 => h9) rfl (by decide +kernel) rfl rfl (Nat.le_of_ble_eq_true rfl) dX0_become_89 (fun H locs hP _ hS => ?_)
  have hP : va_P D vwCl (wE2 cI cS a0 a1 a2 a3 a4 a5 a6 a7 a8 a9 (va_cpy opl pl 0 0 6) (va_cpy osp sp 0 0 10) (va_cpy osy sy 0 0 40) (va_cpy osh sh 0 0 24) opl osp osy osh osc onc ody ozz osc onc ody ozz) H := hP
  obtain ⟨q0, g0⟩ := Prod.mk.inj (h)
  obtain ⟨q1, g1⟩ := Prod.mk.inj g0
  obtain ⟨q2, g2⟩ := Prod.mk.inj g1
  obtain ⟨q3, g3⟩ := Prod.mk.inj g2
  obtain ⟨q4, g4⟩ := Prod.mk.inj g3
  obtain ⟨q5, g5⟩ := Prod.mk.inj g4
  obtain ⟨q6, q7⟩ := Prod.mk.inj g5
  subst q0 q1 q2 q3 q4 q5 q6 q7
  exact eMv C0 hP hS rfl dX0_become_92
def fX2_bitsOf (bt : Nat → Int32) (v1 : Int32) : Int32 := (fX4_numberAt 4 bt v1)
abbrev rmX2_bitsOf : Room := { frames := 1, cells := 0, slots := 0, locals := 21 }
theorem pdX2_bitsOf : (yX2_bitsOf.cls = RX2 ∧ yX2_bitsOf.cls ≠ "java/lang/invoke/MethodHandle" ∧ yX2_bitsOf.cls ≠ "java/lang/invoke/VarHandle" ∧ (parseMethodDescriptor yX2_bitsOf.desc).map (fun d => d.parameters.length) = some 1) := by decide +kernel
set_option maxHeartbeats 4000000 in
set_option maxRecDepth 100000 in
theorem tX2_bitsOf (l : Launch) (D : va_G) (cI cS : ClassId) (a0 a1 a2 a3 : Nat) (bt : Nat → Int32) (sz : Nat → Int32) (nm : Nat → Int32) (v1 : Int32) (z0 : Int32) (h : fX2_bitsOf bt v1 = z0) : Met l yX2_bitsOf wsX2_bitsOf rmX2_bitsOf (PZ D cI cS [.ref a0, .int v1] (fun U => va_P D vwCl (wX2 cI cS a0 a1 a2 a3 bt sz nm) U.heap)) (vp_Si (fun x => x = z0)) 0 0 (fun _ => False) := by
  refine Met.mk RX2 (by decide) rfl rfl (Nat.le_of_ble_eq_true rfl) ?_
  intro p e s m below meth c ls C0 hP hl
  have hl : lv_has ls 2 [(0, .ref a0), (1, .int v1)] := hl
  obtain ⟨hx, hb, hr, hml, hown, hts, hlk, hE⟩ := id C0
  have hinX2 : ∀ w ∈ u_ws RX2 TX2 3, w ∈ wsX2_bitsOf := by decide +kernel
  rw [fX2_bitsOf] at h
  refine lv_aload_n hx hb dX2_bitsOf_0 rfl (lv_at hl 0 rfl) ?_
  refine va_get (D := D) (ci := 1) (v := .ref a1) (C := RX2) (T := TX2) (N := 3) hx hb hts hinX2 hown hE.1 hP 0 rfl rfl 0 (by decide) (hts _ (List.mem_of_getElem? (i := 1) rfl)) (fun _ h9 => h9) rfl dX2_bitsOf_1 ?_
  refine lv_iload_n hx hb dX2_bitsOf_4 rfl (lv_at hl 1 rfl) ?_
  refine kRi (rSN C0 (tX4_numberAt l D cI cS a1 4 bt v1 (by decide)) "VaguePort" ggX2_bitsOf_X4_numberAt rfl ⟨rfl, rfl⟩ (List.mem_of_getElem? (i := 12) rfl) (List.mem_of_getElem? (i := 3) rfl) (List.mem_of_getElem? (i := 2) rfl) pdX4_numberAt rfl ⟨Nat.le_of_ble_eq_true rfl, Nat.le_of_ble_eq_true rfl⟩ (fun _ _ _ _ q => va_X.call q) (fun U hU hW _ => by rw [hU]; exact (hP.X hE 1 rfl).moved hW.alike) hl.1 rfl (Nat.le_of_ble_eq_true rfl) dX2_bitsOf_5 ⟨Nat.zero_le _, Nat.zero_le _⟩) ?_
  exact eRi C0 h dX2_bitsOf_8
def fX2_isMissing (bt : Nat → Int32) (v1 : Int32) : Int32 := (if (fX2_bitsOf bt v1) = 0 then 1 else 0)
abbrev rmX2_isMissing : Room := { frames := 2, cells := 0, slots := 0, locals := 42 }
theorem pdX2_isMissing : (yX2_isMissing.cls = RX2 ∧ yX2_isMissing.cls ≠ "java/lang/invoke/MethodHandle" ∧ yX2_isMissing.cls ≠ "java/lang/invoke/VarHandle" ∧ (parseMethodDescriptor yX2_isMissing.desc).map (fun d => d.parameters.length) = some 1) := by decide +kernel
set_option maxHeartbeats 4000000 in
set_option maxRecDepth 100000 in
theorem tX2_isMissing (l : Launch) (D : va_G) (cI cS : ClassId) (a0 a1 a2 a3 : Nat) (bt : Nat → Int32) (sz : Nat → Int32) (nm : Nat → Int32) (v1 : Int32) (z0 : Int32) (h : fX2_isMissing bt v1 = z0) : Met l yX2_isMissing wsX2_isMissing rmX2_isMissing (PZ D cI cS [.ref a0, .int v1] (fun U => va_P D vwCl (wX2 cI cS a0 a1 a2 a3 bt sz nm) U.heap)) (vp_Si (fun x => x = z0)) 0 0 (fun _ => False) := by
  refine Met.mk RX2 (by decide) rfl rfl (Nat.le_of_ble_eq_true rfl) ?_
  intro p e s m below meth c ls C0 hP hl
  have hl : lv_has ls 2 [(0, .ref a0), (1, .int v1)] := hl
  obtain ⟨hx, hb, hr, hml, hown, hts, hlk, hE⟩ := id C0
  rw [fX2_isMissing] at h
  refine lv_aload_n hx hb dX2_isMissing_0 rfl (lv_at hl 0 rfl) ?_
  refine lv_iload_n hx hb dX2_isMissing_1 rfl (lv_at hl 1 rfl) ?_
  have hPc := hP.sub (ws' := (wX2 cI cS a0 a1 a2 a3 bt sz nm)) [0, 1, 2, 3] rfl
  refine kRi (rV C0 (tX2_bitsOf l D cI cS a0 a1 a2 a3 bt sz nm v1 (fX2_bitsOf bt v1) rfl) RX2 gX2_isMissing_X2_bitsOf rfl ⟨rfl, rfl⟩ pdX2_bitsOf rfl ⟨Nat.le_of_ble_eq_true rfl, Nat.le_of_ble_eq_true rfl⟩ (fun _ _ _ _ q => q) (va_recv hE.1 hPc (ci := 1) (q0 := 0) rfl rfl) (fun U hU _ _ => by rw [hU]; exact hPc) hl.1 rfl (Nat.le_of_ble_eq_true rfl) dX2_isMissing_2 ⟨Nat.zero_le _, Nat.zero_le _⟩) ?_
  refine lv_if_ne (tgt := 12) hx hb dX2_isMissing_5 (by decide) (fun c_1 => ?_) (fun c_1 => ?_)
  · have h := ifn c_1 h
    refine lv_iconst (v := 0) hx hb dX2_isMissing_12 (by decide) ?_
    exact eRz C0 rfl h dX2_isMissing_13
  · have h := ifp c_1 h
    refine lv_iconst (v := 1) hx hb dX2_isMissing_8 (by decide) ?_
    refine lv_goto (tgt := 13) hx hb dX2_isMissing_9 (by decide) ?_
    exact eRz C0 rfl h dX2_isMissing_13
theorem zzX2_isMissing (bt : Nat → Int32) (v1 : Int32) : narrow .boolean (.int (fX2_isMissing bt v1)) = .int (fX2_isMissing bt v1) := by unfold fX2_isMissing; (repeat' split) <;> first | rfl
def fX2_sizeOf (sz : Nat → Int32) (v1 : Int32) : Int32 := (fX4_numberAt 4 sz v1)
abbrev rmX2_sizeOf : Room := { frames := 1, cells := 0, slots := 0, locals := 21 }
theorem pdX2_sizeOf : (yX2_sizeOf.cls = RX2 ∧ yX2_sizeOf.cls ≠ "java/lang/invoke/MethodHandle" ∧ yX2_sizeOf.cls ≠ "java/lang/invoke/VarHandle" ∧ (parseMethodDescriptor yX2_sizeOf.desc).map (fun d => d.parameters.length) = some 1) := by decide +kernel
set_option maxHeartbeats 4000000 in
set_option maxRecDepth 100000 in
theorem tX2_sizeOf (l : Launch) (D : va_G) (cI cS : ClassId) (a0 a1 a2 a3 : Nat) (bt : Nat → Int32) (sz : Nat → Int32) (nm : Nat → Int32) (v1 : Int32) (z0 : Int32) (h : fX2_sizeOf sz v1 = z0) : Met l yX2_sizeOf wsX2_sizeOf rmX2_sizeOf (PZ D cI cS [.ref a0, .int v1] (fun U => va_P D vwCl (wX2 cI cS a0 a1 a2 a3 bt sz nm) U.heap)) (vp_Si (fun x => x = z0)) 0 0 (fun _ => False) := by
  refine Met.mk RX2 (by decide) rfl rfl (Nat.le_of_ble_eq_true rfl) ?_
  intro p e s m below meth c ls C0 hP hl
  have hl : lv_has ls 2 [(0, .ref a0), (1, .int v1)] := hl
  obtain ⟨hx, hb, hr, hml, hown, hts, hlk, hE⟩ := id C0
  have hinX2 : ∀ w ∈ u_ws RX2 TX2 3, w ∈ wsX2_sizeOf := by decide +kernel
  rw [fX2_sizeOf] at h
  refine lv_aload_n hx hb dX2_sizeOf_0 rfl (lv_at hl 0 rfl) ?_
  refine va_get (D := D) (ci := 1) (v := .ref a2) (C := RX2) (T := TX2) (N := 3) hx hb hts hinX2 hown hE.1 hP 0 rfl rfl 1 (by decide) (hts _ (List.mem_of_getElem? (i := 1) rfl)) (fun _ h9 => h9) rfl dX2_sizeOf_1 ?_
  refine lv_iload_n hx hb dX2_sizeOf_4 rfl (lv_at hl 1 rfl) ?_
  refine kRi (rSN C0 (tX4_numberAt l D cI cS a2 4 sz v1 (by decide)) "VaguePort" ggX2_sizeOf_X4_numberAt rfl ⟨rfl, rfl⟩ (List.mem_of_getElem? (i := 12) rfl) (List.mem_of_getElem? (i := 3) rfl) (List.mem_of_getElem? (i := 2) rfl) pdX4_numberAt rfl ⟨Nat.le_of_ble_eq_true rfl, Nat.le_of_ble_eq_true rfl⟩ (fun _ _ _ _ q => va_X.call q) (fun U hU hW _ => by rw [hU]; exact (hP.X hE 2 rfl).moved hW.alike) hl.1 rfl (Nat.le_of_ble_eq_true rfl) dX2_sizeOf_5 ⟨Nat.zero_le _, Nat.zero_le _⟩) ?_
  exact eRi C0 h dX2_sizeOf_8
def fX2_numberOf (nm : Nat → Int32) (v1 : Int32) (v2 : Int32) : Int32 := (fX4_numberAt 160 nm ((v1 * 40) + v2))
abbrev rmX2_numberOf : Room := { frames := 1, cells := 0, slots := 0, locals := 21 }
theorem pdX2_numberOf : (yX2_numberOf.cls = RX2 ∧ yX2_numberOf.cls ≠ "java/lang/invoke/MethodHandle" ∧ yX2_numberOf.cls ≠ "java/lang/invoke/VarHandle" ∧ (parseMethodDescriptor yX2_numberOf.desc).map (fun d => d.parameters.length) = some 2) := by decide +kernel
set_option maxHeartbeats 4000000 in
set_option maxRecDepth 100000 in
theorem tX2_numberOf (l : Launch) (D : va_G) (cI cS : ClassId) (a0 a1 a2 a3 : Nat) (bt : Nat → Int32) (sz : Nat → Int32) (nm : Nat → Int32) (v1 : Int32) (v2 : Int32) (z0 : Int32) (h : fX2_numberOf nm v1 v2 = z0) : Met l yX2_numberOf wsX2_numberOf rmX2_numberOf (PZ D cI cS [.ref a0, .int v1, .int v2] (fun U => va_P D vwCl (wX2 cI cS a0 a1 a2 a3 bt sz nm) U.heap)) (vp_Si (fun x => x = z0)) 0 0 (fun _ => False) := by
  refine Met.mk RX2 (by decide) rfl rfl (Nat.le_of_ble_eq_true rfl) ?_
  intro p e s m below meth c ls C0 hP hl
  have hl : lv_has ls 3 [(0, .ref a0), (1, .int v1), (2, .int v2)] := hl
  obtain ⟨hx, hb, hr, hml, hown, hts, hlk, hE⟩ := id C0
  have hinX2 : ∀ w ∈ u_ws RX2 TX2 3, w ∈ wsX2_numberOf := by decide +kernel
  rw [fX2_numberOf] at h
  refine lv_aload_n hx hb dX2_numberOf_0 rfl (lv_at hl 0 rfl) ?_
  refine va_get (D := D) (ci := 1) (v := .ref a3) (C := RX2) (T := TX2) (N := 3) hx hb hts hinX2 hown hE.1 hP 0 rfl rfl 2 (by decide) (hts _ (List.mem_of_getElem? (i := 1) rfl)) (fun _ h9 => h9) rfl dX2_numberOf_1 ?_
  refine lv_iload_n hx hb dX2_numberOf_4 rfl (lv_at hl 1 rfl) ?_
  refine lv_bipush (v := 40) hx hb dX2_numberOf_5 (by decide) ?_
  refine lv_imul hx hb dX2_numberOf_7 ?_
  refine lv_iload_n hx hb dX2_numberOf_8 rfl (lv_at hl 2 rfl) ?_
  refine lv_iadd hx hb dX2_numberOf_9 ?_
  refine kRi (rSN C0 (tX4_numberAt l D cI cS a3 160 nm ((v1 * 40) + v2) (by decide)) "VaguePort" ggX2_numberOf_X4_numberAt rfl ⟨rfl, rfl⟩ (List.mem_of_getElem? (i := 12) rfl) (List.mem_of_getElem? (i := 3) rfl) (List.mem_of_getElem? (i := 2) rfl) pdX4_numberAt rfl ⟨Nat.le_of_ble_eq_true rfl, Nat.le_of_ble_eq_true rfl⟩ (fun _ _ _ _ q => va_X.call q) (fun U hU hW _ => by rw [hU]; exact (hP.X hE 3 rfl).moved hW.alike) hl.1 rfl (Nat.le_of_ble_eq_true rfl) dX2_numberOf_10 ⟨Nat.zero_le _, Nat.zero_le _⟩) ?_
  exact eRi C0 h dX2_numberOf_13
def fX2_lay_33 (bt : Nat → Int32) (sz : Nat → Int32) (v1 : Int32) (v4 : Int32) : Nat → Int32 → (Nat → Int32) → Option (Int32 × (Nat → Int32) × (Nat → Int32) × (Nat → Int32))
  | 0, _, _ => none
  | n + 1, v5, nm => (if 40 ≤ v5 then some (v4, bt, sz, nm) else fX2_lay_33 bt sz v1 v4 n (v5 + 1) (fX4_putAt 160 nm ((v1 * 40) + v5) 0))
def fX2_lay (F : Nat) (bt : Nat → Int32) (sz : Nat → Int32) (nm : Nat → Int32) (v1 : Int32) (v2 : Int32) (v3 : Int32) : Option (Int32 × (Nat → Int32) × (Nat → Int32) × (Nat → Int32)) := (if v2 = 0 then fX2_lay_33 (fX4_putAt 4 bt v1 v2) (fX4_putAt 4 sz v1 0) v1 0 F 0 nm else fX2_lay_33 (fX4_putAt 4 bt v1 v2) (fX4_putAt 4 sz v1 v3) v1 v3 F 0 nm)
abbrev rmX2_lay : Room := { frames := 1, cells := 0, slots := 0, locals := 22 }
theorem pdX2_lay : (yX2_lay.cls = RX2 ∧ yX2_lay.cls ≠ "java/lang/invoke/MethodHandle" ∧ yX2_lay.cls ≠ "java/lang/invoke/VarHandle" ∧ (parseMethodDescriptor yX2_lay.desc).map (fun d => d.parameters.length) = some 3) := by decide +kernel
set_option maxHeartbeats 4000000 in
set_option maxRecDepth 100000 in
theorem lX2_lay_33 {p : Program} {l : Launch} {e : Env} {s : State} {m : MethodId} {av : Array Value} {below : List Frame} {meth : Method} {c : Code} {D : va_G} {cI cS : ClassId} {a0 a1 a2 a3 : Nat} {W0 : va_W} (C0 : CX p s m av meth c RX2 cX2_lay 6 (some .int) wsX2_lay D cI cS) (F : Nat) (bt : Nat → Int32) (sz : Nat → Int32) (v1 : Int32) (v4 : Int32) (z0 : Int32) (z1 : Nat → Int32) (z2 : Nat → Int32) (z3 : Nat → Int32) (hD : ∀ W : va_W, W.map Prod.fst = [a0, a1, a2, a3] → va_D (wA W0) W) : ∀ (n : Nat) (v5 : Int32) (nm : Nat → Int32) (H : Heap) (locs : List Loc), va_P D vwCl (wX2 cI cS a0 a1 a2 a3 bt sz nm) H → va_S (wA W0) s.heap H locs → ∀ (ls : Array Slot), lv_has ls 6 [(0, .ref a0), (1, .int v1), (4, .int v4), (5, .int v5)] → fX2_lay_33 bt sz v1 v4 n v5 nm = some (z0, z1, z2, z3) → W p l e rmX2_lay s m av below meth c H locs 0 0 (MQ below (qI D W0 (wX2 cI cS a0 a1 a2 a3 z1 z2 z3) z0) av s 0 0 (wA W0)) (F0 m 33 ls []) := by
  obtain ⟨hx, hb, hr, hml, hown, hts, hlk, hE⟩ := id C0
  have hinX2 : ∀ w ∈ u_ws RX2 TX2 3, w ∈ wsX2_lay := by decide +kernel
  intro n
  induction n with
  | zero =>
    intro v5 nm H locs hP hS ls hl h
    cases (show none = some (z0, z1, z2, z3) from h)
  | succ n ih =>
    intro v5 nm H locs hP hS ls hl h
    rw [fX2_lay_33] at h
    refine lv_iload hx hb dX2_lay_33 (lv_at hl 3 rfl) ?_
    refine lv_bipush (v := 40) hx hb dX2_lay_35 (by decide) ?_
    refine lv_icmp_ge (tgt := 61) hx hb dX2_lay_37 (by decide) (fun c_2 => ?_) (fun c_2 => ?_)
    · have h := ifp c_2 h
      refine lv_iload hx hb dX2_lay_61 (lv_at hl 2 rfl) ?_
      obtain ⟨q0, g0⟩ := Prod.mk.inj (Option.some.inj h)
      obtain ⟨q1, g1⟩ := Prod.mk.inj g0
      obtain ⟨q2, q3⟩ := Prod.mk.inj g1
      subst q0 q1 q2 q3
      exact eMi C0 hP hS rfl rfl dX2_lay_63
    · have h := ifn c_2 h
      refine lv_aload_n hx hb dX2_lay_40 rfl (lv_at hl 0 rfl) ?_
      refine va_get (D := D) (ci := 1) (v := .ref a3) (C := RX2) (T := TX2) (N := 3) hx hb hts hinX2 hown hE.1 hP 0 rfl rfl 2 (by decide) (hts _ (List.mem_of_getElem? (i := 3) rfl)) (fun _ h9 => h9) rfl dX2_lay_41 ?_
      refine lv_iload_n hx hb dX2_lay_44 rfl (lv_at hl 1 rfl) ?_
      refine lv_bipush (v := 40) hx hb dX2_lay_45 (by decide) ?_
      refine lv_imul hx hb dX2_lay_47 ?_
      refine lv_iload hx hb dX2_lay_48 (lv_at hl 3 rfl) ?_
      refine lv_iadd hx hb dX2_lay_50 ?_
      refine lv_iconst (v := 0) hx hb dX2_lay_51 (by decide) ?_
      have hPc := hP.sub (ws' := [(a3, .inl (cI, 160, .inl nm))]) [3] rfl
      refine kMv (wf' := (wX2 cI cS a0 a1 a2 a3 bt sz (fX4_putAt 160 nm ((v1 * 40) + v5) 0))) [3] [none, none, none, some 0] (rSN C0 (tX4_putAt l D cI cS a3 160 nm ((v1 * 40) + v5) 0 (by decide)) "VaguePort" ggX2_lay_X4_putAt rfl ⟨rfl, rfl⟩ (List.mem_of_getElem? (i := 16) rfl) (List.mem_of_getElem? (i := 5) rfl) (List.mem_of_getElem? (i := 4) rfl) pdX4_putAt rfl ⟨Nat.le_of_ble_eq_true rfl, Nat.le_of_ble_eq_true rfl⟩ (fun _ _ _ _ q => q) (fun U hU _ _ => by rw [hU]; exact hPc) hl.1 rfl (Nat.le_of_ble_eq_true rfl) dX2_lay_52 ⟨Nat.zero_le _, Nat.zero_le _⟩) hP (hD _ rfl) hS rfl rfl rfl (fun H locs hP hS => ?_)
      refine lv_iinc (v := v5 + 1) (lv' := [(5, .int (v5 + 1)), (0, .ref a0), (1, .int v1), (4, .int v4)]) hx hb dX2_lay_55 hl (k := 3) rfl rfl (by decide) rfl (fun ls hl => ?_)
      refine lv_goto (tgt := 33) hx hb dX2_lay_58 (by decide) ?_
      exact ih (v5 + 1) (fX4_putAt 160 nm ((v1 * 40) + v5) 0) _ _ hP hS _ (lv_sub hl [1, 2, 3, 0] rfl) h
set_option maxHeartbeats 4000000 in
set_option maxRecDepth 100000 in
theorem tX2_lay (l : Launch) (D : va_G) (cI cS : ClassId) (F : Nat) (a0 a1 a2 a3 : Nat) (bt : Nat → Int32) (sz : Nat → Int32) (nm : Nat → Int32) (v1 : Int32) (v2 : Int32) (v3 : Int32) (z0 : Int32) (z1 : Nat → Int32) (z2 : Nat → Int32) (z3 : Nat → Int32) (h : fX2_lay F bt sz nm v1 v2 v3 = some (z0, z1, z2, z3)) (hD0 : va_D (fun _ => True) (wX2 cI cS a0 a1 a2 a3 bt sz nm)) : Met l yX2_lay wsX2_lay rmX2_lay (PZ D cI cS [.ref a0, .int v1, .int v2, .int v3] (fun U => va_P D vwCl (wX2 cI cS a0 a1 a2 a3 bt sz nm) U.heap)) (qI D (wX2 cI cS a0 a1 a2 a3 bt sz nm) (wX2 cI cS a0 a1 a2 a3 z1 z2 z3) z0) 0 0 (wA (wX2 cI cS a0 a1 a2 a3 bt sz nm)) := by
  refine Met.mk RX2 (by decide) rfl rfl (Nat.le_of_ble_eq_true rfl) ?_
  intro p e s m below meth c ls C0 hP hl
  have hl : lv_has ls 6 [(0, .ref a0), (1, .int v1), (2, .int v2), (3, .int v3)] := hl
  obtain ⟨hx, hb, hr, hml, hown, hts, hlk, hE⟩ := id C0
  have hinX2 : ∀ w ∈ u_ws RX2 TX2 3, w ∈ wsX2_lay := by decide +kernel
  have hD : ∀ W : va_W, W.map Prod.fst = [a0, a1, a2, a3] → va_D (wA (wX2 cI cS a0 a1 a2 a3 bt sz nm)) W := fun W hW => hD0.own.re hW
  have hS : va_S (wA (wX2 cI cS a0 a1 a2 a3 bt sz nm)) s.heap s.heap [] := va_S.rf
  have hP : va_P D vwCl (wX2 cI cS a0 a1 a2 a3 bt sz nm) s.heap := hP
  rw [fX2_lay] at h
  refine lv_iload_n hx hb dX2_lay_0 rfl (lv_at hl 2 rfl) ?_
  refine lv_if_ne (tgt := 8) hx hb dX2_lay_1 (by decide) (fun c_1 => ?_) (fun c_1 => ?_)
  · have h := ifn c_1 h
    refine lv_iload_n hx hb dX2_lay_8 rfl (lv_at hl 3 rfl) ?_
    refine lv_istore (lv' := [(4, .int v3), (0, .ref a0), (1, .int v1), (2, .int v2), (3, .int v3)]) hx hb dX2_lay_9 hl (by decide) rfl (fun ls hl => ?_)
    refine lv_aload_n hx hb dX2_lay_11 rfl (lv_at hl 1 rfl) ?_
    refine va_get (D := D) (ci := 1) (v := .ref a1) (C := RX2) (T := TX2) (N := 3) hx hb hts hinX2 hown hE.1 hP 0 rfl rfl 0 (by decide) (hts _ (List.mem_of_getElem? (i := 1) rfl)) (fun _ h9 => h9) rfl dX2_lay_12 ?_
    refine lv_iload_n hx hb dX2_lay_15 rfl (lv_at hl 2 rfl) ?_
    refine lv_iload_n hx hb dX2_lay_16 rfl (lv_at hl 3 rfl) ?_
    have hPc := hP.sub (ws' := [(a1, .inl (cI, 4, .inl bt))]) [1] rfl
    refine kMv (wf' := (wX2 cI cS a0 a1 a2 a3 (fX4_putAt 4 bt v1 v2) sz nm)) [1] [none, some 0, none, none] (rSN C0 (tX4_putAt l D cI cS a1 4 bt v1 v2 (by decide)) "VaguePort" ggX2_lay_X4_putAt rfl ⟨rfl, rfl⟩ (List.mem_of_getElem? (i := 16) rfl) (List.mem_of_getElem? (i := 5) rfl) (List.mem_of_getElem? (i := 4) rfl) pdX4_putAt rfl ⟨Nat.le_of_ble_eq_true rfl, Nat.le_of_ble_eq_true rfl⟩ (fun _ _ _ _ q => q) (fun U hU _ _ => by rw [hU]; exact hPc) hl.1 rfl (Nat.le_of_ble_eq_true rfl) dX2_lay_17 ⟨Nat.zero_le _, Nat.zero_le _⟩) hP (hD _ rfl) hS rfl rfl rfl (fun H locs hP hS => ?_)
    refine lv_aload_n hx hb dX2_lay_20 rfl (lv_at hl 1 rfl) ?_
    refine va_get (D := D) (ci := 1) (v := .ref a2) (C := RX2) (T := TX2) (N := 3) hx hb hts hinX2 hown hE.1 hP 0 rfl rfl 1 (by decide) (hts _ (List.mem_of_getElem? (i := 2) rfl)) (fun _ h9 => h9) rfl dX2_lay_21 ?_
    refine lv_iload_n hx hb dX2_lay_24 rfl (lv_at hl 2 rfl) ?_
    refine lv_iload hx hb dX2_lay_25 (lv_at hl 0 rfl) ?_
    have hPc := hP.sub (ws' := [(a2, .inl (cI, 4, .inl sz))]) [2] rfl
    refine kMv (wf' := (wX2 cI cS a0 a1 a2 a3 (fX4_putAt 4 bt v1 v2) (fX4_putAt 4 sz v1 v3) nm)) [2] [none, none, some 0, none] (rSN C0 (tX4_putAt l D cI cS a2 4 sz v1 v3 (by decide)) "VaguePort" ggX2_lay_X4_putAt rfl ⟨rfl, rfl⟩ (List.mem_of_getElem? (i := 16) rfl) (List.mem_of_getElem? (i := 5) rfl) (List.mem_of_getElem? (i := 4) rfl) pdX4_putAt rfl ⟨Nat.le_of_ble_eq_true rfl, Nat.le_of_ble_eq_true rfl⟩ (fun _ _ _ _ q => q) (fun U hU _ _ => by rw [hU]; exact hPc) hl.1 rfl (Nat.le_of_ble_eq_true rfl) dX2_lay_27 ⟨Nat.zero_le _, Nat.zero_le _⟩) hP (hD _ rfl) hS rfl rfl rfl (fun H locs hP hS => ?_)
    refine lv_iconst (v := 0) hx hb dX2_lay_30 (by decide) ?_
    refine lv_istore (lv' := [(5, .int 0), (4, .int v3), (0, .ref a0), (1, .int v1), (2, .int v2), (3, .int v3)]) hx hb dX2_lay_31 hl (by decide) rfl (fun ls hl => ?_)
    exact lX2_lay_33 (l := l) (e := e) (below := below) C0 F (fX4_putAt 4 bt v1 v2) (fX4_putAt 4 sz v1 v3) v1 v3 z0 z1 z2 z3 hD F 0 nm _ _ hP hS _ (lv_sub hl [2, 3, 1, 0] rfl) h
  · have h := ifp c_1 h
    refine lv_iconst (v := 0) hx hb dX2_lay_4 (by decide) ?_
    refine lv_goto (tgt := 9) hx hb dX2_lay_5 (by decide) ?_
    refine lv_istore (lv' := [(4, .int 0), (0, .ref a0), (1, .int v1), (2, .int v2), (3, .int v3)]) hx hb dX2_lay_9 hl (by decide) rfl (fun ls hl => ?_)
    refine lv_aload_n hx hb dX2_lay_11 rfl (lv_at hl 1 rfl) ?_
    refine va_get (D := D) (ci := 1) (v := .ref a1) (C := RX2) (T := TX2) (N := 3) hx hb hts hinX2 hown hE.1 hP 0 rfl rfl 0 (by decide) (hts _ (List.mem_of_getElem? (i := 1) rfl)) (fun _ h9 => h9) rfl dX2_lay_12 ?_
    refine lv_iload_n hx hb dX2_lay_15 rfl (lv_at hl 2 rfl) ?_
    refine lv_iload_n hx hb dX2_lay_16 rfl (lv_at hl 3 rfl) ?_
    have hPc := hP.sub (ws' := [(a1, .inl (cI, 4, .inl bt))]) [1] rfl
    refine kMv (wf' := (wX2 cI cS a0 a1 a2 a3 (fX4_putAt 4 bt v1 v2) sz nm)) [1] [none, some 0, none, none] (rSN C0 (tX4_putAt l D cI cS a1 4 bt v1 v2 (by decide)) "VaguePort" ggX2_lay_X4_putAt rfl ⟨rfl, rfl⟩ (List.mem_of_getElem? (i := 16) rfl) (List.mem_of_getElem? (i := 5) rfl) (List.mem_of_getElem? (i := 4) rfl) pdX4_putAt rfl ⟨Nat.le_of_ble_eq_true rfl, Nat.le_of_ble_eq_true rfl⟩ (fun _ _ _ _ q => q) (fun U hU _ _ => by rw [hU]; exact hPc) hl.1 rfl (Nat.le_of_ble_eq_true rfl) dX2_lay_17 ⟨Nat.zero_le _, Nat.zero_le _⟩) hP (hD _ rfl) hS rfl rfl rfl (fun H locs hP hS => ?_)
    refine lv_aload_n hx hb dX2_lay_20 rfl (lv_at hl 1 rfl) ?_
    refine va_get (D := D) (ci := 1) (v := .ref a2) (C := RX2) (T := TX2) (N := 3) hx hb hts hinX2 hown hE.1 hP 0 rfl rfl 1 (by decide) (hts _ (List.mem_of_getElem? (i := 2) rfl)) (fun _ h9 => h9) rfl dX2_lay_21 ?_
    refine lv_iload_n hx hb dX2_lay_24 rfl (lv_at hl 2 rfl) ?_
    refine lv_iload hx hb dX2_lay_25 (lv_at hl 0 rfl) ?_
    have hPc := hP.sub (ws' := [(a2, .inl (cI, 4, .inl sz))]) [2] rfl
    refine kMv (wf' := (wX2 cI cS a0 a1 a2 a3 (fX4_putAt 4 bt v1 v2) (fX4_putAt 4 sz v1 0) nm)) [2] [none, none, some 0, none] (rSN C0 (tX4_putAt l D cI cS a2 4 sz v1 0 (by decide)) "VaguePort" ggX2_lay_X4_putAt rfl ⟨rfl, rfl⟩ (List.mem_of_getElem? (i := 16) rfl) (List.mem_of_getElem? (i := 5) rfl) (List.mem_of_getElem? (i := 4) rfl) pdX4_putAt rfl ⟨Nat.le_of_ble_eq_true rfl, Nat.le_of_ble_eq_true rfl⟩ (fun _ _ _ _ q => q) (fun U hU _ _ => by rw [hU]; exact hPc) hl.1 rfl (Nat.le_of_ble_eq_true rfl) dX2_lay_27 ⟨Nat.zero_le _, Nat.zero_le _⟩) hP (hD _ rfl) hS rfl rfl rfl (fun H locs hP hS => ?_)
    refine lv_iconst (v := 0) hx hb dX2_lay_30 (by decide) ?_
    refine lv_istore (lv' := [(5, .int 0), (4, .int 0), (0, .ref a0), (1, .int v1), (2, .int v2), (3, .int v3)]) hx hb dX2_lay_31 hl (by decide) rfl (fun ls hl => ?_)
    exact lX2_lay_33 (l := l) (e := e) (below := below) C0 F (fX4_putAt 4 bt v1 v2) (fX4_putAt 4 sz v1 0) v1 0 z0 z1 z2 z3 hD F 0 nm _ _ hP hS _ (lv_sub hl [2, 3, 1, 0] rfl) h
def fX2_put (bt : Nat → Int32) (nm : Nat → Int32) (v1 : Int32) (v2 : Int32) (v3 : Int32) : (Nat → Int32) := (if (fX2_bitsOf bt v1) = 8 then (fX4_putAt 160 nm ((v1 * 40) + v2) v3.toInt8.toInt32) else (if (fX2_bitsOf bt v1) = 16 then (fX4_putAt 160 nm ((v1 * 40) + v2) v3.toInt16.toInt32) else (fX4_putAt 160 nm ((v1 * 40) + v2) v3)))
abbrev rmX2_put : Room := { frames := 2, cells := 0, slots := 0, locals := 42 }
theorem pdX2_put : (yX2_put.cls = RX2 ∧ yX2_put.cls ≠ "java/lang/invoke/MethodHandle" ∧ yX2_put.cls ≠ "java/lang/invoke/VarHandle" ∧ (parseMethodDescriptor yX2_put.desc).map (fun d => d.parameters.length) = some 3) := by decide +kernel
set_option maxHeartbeats 4000000 in
set_option maxRecDepth 100000 in
theorem tX2_put (l : Launch) (D : va_G) (cI cS : ClassId) (a0 a1 a2 a3 : Nat) (bt : Nat → Int32) (sz : Nat → Int32) (nm : Nat → Int32) (v1 : Int32) (v2 : Int32) (v3 : Int32) (z0 : Nat → Int32) (h : fX2_put bt nm v1 v2 v3 = z0) (hD0 : va_D (fun _ => True) (wX2 cI cS a0 a1 a2 a3 bt sz nm)) : Met l yX2_put wsX2_put rmX2_put (PZ D cI cS [.ref a0, .int v1, .int v2, .int v3] (fun U => va_P D vwCl (wX2 cI cS a0 a1 a2 a3 bt sz nm) U.heap)) (qV D (wX2 cI cS a0 a1 a2 a3 bt sz nm) (wX2 cI cS a0 a1 a2 a3 bt sz z0)) 0 0 (wA (wX2 cI cS a0 a1 a2 a3 bt sz nm)) := by
  refine Met.mk RX2 (by decide) rfl rfl (Nat.le_of_ble_eq_true rfl) ?_
  intro p e s m below meth c ls C0 hP hl
  have hl : lv_has ls 5 [(0, .ref a0), (1, .int v1), (2, .int v2), (3, .int v3)] := hl
  obtain ⟨hx, hb, hr, hml, hown, hts, hlk, hE⟩ := id C0
  have hinX2 : ∀ w ∈ u_ws RX2 TX2 3, w ∈ wsX2_put := by decide +kernel
  have hD : ∀ W : va_W, W.map Prod.fst = [a0, a1, a2, a3] → va_D (wA (wX2 cI cS a0 a1 a2 a3 bt sz nm)) W := fun W hW => hD0.own.re hW
  have hS : va_S (wA (wX2 cI cS a0 a1 a2 a3 bt sz nm)) s.heap s.heap [] := va_S.rf
  have hP : va_P D vwCl (wX2 cI cS a0 a1 a2 a3 bt sz nm) s.heap := hP
  rw [fX2_put] at h
  refine lv_iload_n hx hb dX2_put_0 rfl (lv_at hl 3 rfl) ?_
  refine lv_istore (lv' := [(4, .int v3), (0, .ref a0), (1, .int v1), (2, .int v2), (3, .int v3)]) hx hb dX2_put_1 hl (by decide) rfl (fun ls hl => ?_)
  refine lv_aload_n hx hb dX2_put_3 rfl (lv_at hl 1 rfl) ?_
  refine lv_iload_n hx hb dX2_put_4 rfl (lv_at hl 2 rfl) ?_
  have hPc := hP.sub (ws' := (wX2 cI cS a0 a1 a2 a3 bt sz nm)) [0, 1, 2, 3] rfl
  refine kRi (rV C0 (tX2_bitsOf l D cI cS a0 a1 a2 a3 bt sz nm v1 (fX2_bitsOf bt v1) rfl) RX2 gX2_put_X2_bitsOf rfl ⟨rfl, rfl⟩ pdX2_bitsOf rfl ⟨Nat.le_of_ble_eq_true rfl, Nat.le_of_ble_eq_true rfl⟩ (fun _ _ _ _ q => q) (va_recv hE.1 hPc (ci := 1) (q0 := 0) rfl rfl) (fun U hU _ _ => by rw [hU]; exact hPc) hl.1 rfl (Nat.le_of_ble_eq_true rfl) dX2_put_5 ⟨Nat.zero_le _, Nat.zero_le _⟩) ?_
  refine lv_bipush (v := 8) hx hb dX2_put_8 (by decide) ?_
  refine lv_icmp_ne (tgt := 20) hx hb dX2_put_10 (by decide) (fun c_1 => ?_) (fun c_1 => ?_)
  · have h := ifn c_1 h
    refine lv_aload_n hx hb dX2_put_20 rfl (lv_at hl 1 rfl) ?_
    refine lv_iload_n hx hb dX2_put_21 rfl (lv_at hl 2 rfl) ?_
    have hPc := hP.sub (ws' := (wX2 cI cS a0 a1 a2 a3 bt sz nm)) [0, 1, 2, 3] rfl
    refine kRi (rV C0 (tX2_bitsOf l D cI cS a0 a1 a2 a3 bt sz nm v1 (fX2_bitsOf bt v1) rfl) RX2 gX2_put_X2_bitsOf rfl ⟨rfl, rfl⟩ pdX2_bitsOf rfl ⟨Nat.le_of_ble_eq_true rfl, Nat.le_of_ble_eq_true rfl⟩ (fun _ _ _ _ q => q) (va_recv hE.1 hPc (ci := 1) (q0 := 0) rfl rfl) (fun U hU _ _ => by rw [hU]; exact hPc) hl.1 rfl (Nat.le_of_ble_eq_true rfl) dX2_put_22 ⟨Nat.zero_le _, Nat.zero_le _⟩) ?_
    refine lv_bipush (v := 16) hx hb dX2_put_25 (by decide) ?_
    refine lv_icmp_ne (tgt := 34) hx hb dX2_put_27 (by decide) (fun c_2 => ?_) (fun c_2 => ?_)
    · have h := ifn c_2 h
      refine lv_aload_n hx hb dX2_put_34 rfl (lv_at hl 1 rfl) ?_
      refine va_get (D := D) (ci := 1) (v := .ref a3) (C := RX2) (T := TX2) (N := 3) hx hb hts hinX2 hown hE.1 hP 0 rfl rfl 2 (by decide) (hts _ (List.mem_of_getElem? (i := 1) rfl)) (fun _ h9 => h9) rfl dX2_put_35 ?_
      refine lv_iload_n hx hb dX2_put_38 rfl (lv_at hl 2 rfl) ?_
      refine lv_bipush (v := 40) hx hb dX2_put_39 (by decide) ?_
      refine lv_imul hx hb dX2_put_41 ?_
      refine lv_iload_n hx hb dX2_put_42 rfl (lv_at hl 3 rfl) ?_
      refine lv_iadd hx hb dX2_put_43 ?_
      refine lv_iload hx hb dX2_put_44 (lv_at hl 0 rfl) ?_
      have hPc := hP.sub (ws' := [(a3, .inl (cI, 160, .inl nm))]) [3] rfl
      refine kMv (wf' := (wX2 cI cS a0 a1 a2 a3 bt sz (fX4_putAt 160 nm ((v1 * 40) + v2) v3))) [3] [none, none, none, some 0] (rSN C0 (tX4_putAt l D cI cS a3 160 nm ((v1 * 40) + v2) v3 (by decide)) "VaguePort" ggX2_put_X4_putAt rfl ⟨rfl, rfl⟩ (List.mem_of_getElem? (i := 16) rfl) (List.mem_of_getElem? (i := 9) rfl) (List.mem_of_getElem? (i := 11) rfl) pdX4_putAt rfl ⟨Nat.le_of_ble_eq_true rfl, Nat.le_of_ble_eq_true rfl⟩ (fun _ _ _ _ q => q) (fun U hU _ _ => by rw [hU]; exact hPc) hl.1 rfl (Nat.le_of_ble_eq_true rfl) dX2_put_46 ⟨Nat.zero_le _, Nat.zero_le _⟩) hP (hD _ rfl) hS rfl rfl rfl (fun H locs hP hS => ?_)
      subst h
      exact eMv C0 hP hS rfl dX2_put_49
    · have h := ifp c_2 h
      refine lv_iload_n hx hb dX2_put_30 rfl (lv_at hl 4 rfl) ?_
      refine lv_i2s (v := v3.toInt16.toInt32) hx hb dX2_put_31 rfl ?_
      refine lv_istore (lv' := [(4, .int v3.toInt16.toInt32), (0, .ref a0), (1, .int v1), (2, .int v2), (3, .int v3)]) hx hb dX2_put_32 hl (by decide) rfl (fun ls hl => ?_)
      refine lv_aload_n hx hb dX2_put_34 rfl (lv_at hl 1 rfl) ?_
      refine va_get (D := D) (ci := 1) (v := .ref a3) (C := RX2) (T := TX2) (N := 3) hx hb hts hinX2 hown hE.1 hP 0 rfl rfl 2 (by decide) (hts _ (List.mem_of_getElem? (i := 1) rfl)) (fun _ h9 => h9) rfl dX2_put_35 ?_
      refine lv_iload_n hx hb dX2_put_38 rfl (lv_at hl 2 rfl) ?_
      refine lv_bipush (v := 40) hx hb dX2_put_39 (by decide) ?_
      refine lv_imul hx hb dX2_put_41 ?_
      refine lv_iload_n hx hb dX2_put_42 rfl (lv_at hl 3 rfl) ?_
      refine lv_iadd hx hb dX2_put_43 ?_
      refine lv_iload hx hb dX2_put_44 (lv_at hl 0 rfl) ?_
      have hPc := hP.sub (ws' := [(a3, .inl (cI, 160, .inl nm))]) [3] rfl
      refine kMv (wf' := (wX2 cI cS a0 a1 a2 a3 bt sz (fX4_putAt 160 nm ((v1 * 40) + v2) v3.toInt16.toInt32))) [3] [none, none, none, some 0] (rSN C0 (tX4_putAt l D cI cS a3 160 nm ((v1 * 40) + v2) v3.toInt16.toInt32 (by decide)) "VaguePort" ggX2_put_X4_putAt rfl ⟨rfl, rfl⟩ (List.mem_of_getElem? (i := 16) rfl) (List.mem_of_getElem? (i := 9) rfl) (List.mem_of_getElem? (i := 11) rfl) pdX4_putAt rfl ⟨Nat.le_of_ble_eq_true rfl, Nat.le_of_ble_eq_true rfl⟩ (fun _ _ _ _ q => q) (fun U hU _ _ => by rw [hU]; exact hPc) hl.1 rfl (Nat.le_of_ble_eq_true rfl) dX2_put_46 ⟨Nat.zero_le _, Nat.zero_le _⟩) hP (hD _ rfl) hS rfl rfl rfl (fun H locs hP hS => ?_)
      subst h
      exact eMv C0 hP hS rfl dX2_put_49
  · have h := ifp c_1 h
    refine lv_iload_n hx hb dX2_put_13 rfl (lv_at hl 4 rfl) ?_
    refine lv_i2b (v := v3.toInt8.toInt32) hx hb dX2_put_14 rfl ?_
    refine lv_istore (lv' := [(4, .int v3.toInt8.toInt32), (0, .ref a0), (1, .int v1), (2, .int v2), (3, .int v3)]) hx hb dX2_put_15 hl (by decide) rfl (fun ls hl => ?_)
    refine lv_goto (tgt := 34) hx hb dX2_put_17 (by decide) ?_
    refine lv_aload_n hx hb dX2_put_34 rfl (lv_at hl 1 rfl) ?_
    refine va_get (D := D) (ci := 1) (v := .ref a3) (C := RX2) (T := TX2) (N := 3) hx hb hts hinX2 hown hE.1 hP 0 rfl rfl 2 (by decide) (hts _ (List.mem_of_getElem? (i := 1) rfl)) (fun _ h9 => h9) rfl dX2_put_35 ?_
    refine lv_iload_n hx hb dX2_put_38 rfl (lv_at hl 2 rfl) ?_
    refine lv_bipush (v := 40) hx hb dX2_put_39 (by decide) ?_
    refine lv_imul hx hb dX2_put_41 ?_
    refine lv_iload_n hx hb dX2_put_42 rfl (lv_at hl 3 rfl) ?_
    refine lv_iadd hx hb dX2_put_43 ?_
    refine lv_iload hx hb dX2_put_44 (lv_at hl 0 rfl) ?_
    have hPc := hP.sub (ws' := [(a3, .inl (cI, 160, .inl nm))]) [3] rfl
    refine kMv (wf' := (wX2 cI cS a0 a1 a2 a3 bt sz (fX4_putAt 160 nm ((v1 * 40) + v2) v3.toInt8.toInt32))) [3] [none, none, none, some 0] (rSN C0 (tX4_putAt l D cI cS a3 160 nm ((v1 * 40) + v2) v3.toInt8.toInt32 (by decide)) "VaguePort" ggX2_put_X4_putAt rfl ⟨rfl, rfl⟩ (List.mem_of_getElem? (i := 16) rfl) (List.mem_of_getElem? (i := 9) rfl) (List.mem_of_getElem? (i := 11) rfl) pdX4_putAt rfl ⟨Nat.le_of_ble_eq_true rfl, Nat.le_of_ble_eq_true rfl⟩ (fun _ _ _ _ q => q) (fun U hU _ _ => by rw [hU]; exact hPc) hl.1 rfl (Nat.le_of_ble_eq_true rfl) dX2_put_46 ⟨Nat.zero_le _, Nat.zero_le _⟩) hP (hD _ rfl) hS rfl rfl rfl (fun H locs hP hS => ?_)
    subst h
    exact eMv C0 hP hS rfl dX2_put_49
def fX2_hasSoMany (sz : Nat → Int32) (v1 : Int32) (v2 : Int32) (v3 : Int32) : Int32 := (if v2 < 0 then 0 else (if v3 < 0 then 0 else (if 0 < (lg_cmp (v2.toInt64 + v3.toInt64) ((fX2_sizeOf sz v1).toInt64)) then 0 else 1)))
abbrev rmX2_hasSoMany : Room := { frames := 2, cells := 0, slots := 0, locals := 42 }
theorem pdX2_hasSoMany : (yX2_hasSoMany.cls = RX2 ∧ yX2_hasSoMany.cls ≠ "java/lang/invoke/MethodHandle" ∧ yX2_hasSoMany.cls ≠ "java/lang/invoke/VarHandle" ∧ (parseMethodDescriptor yX2_hasSoMany.desc).map (fun d => d.parameters.length) = some 3) := by decide +kernel
set_option maxHeartbeats 4000000 in
set_option maxRecDepth 100000 in
theorem tX2_hasSoMany (l : Launch) (D : va_G) (cI cS : ClassId) (a0 a1 a2 a3 : Nat) (bt : Nat → Int32) (sz : Nat → Int32) (nm : Nat → Int32) (v1 : Int32) (v2 : Int32) (v3 : Int32) (z0 : Int32) (h : fX2_hasSoMany sz v1 v2 v3 = z0) : Met l yX2_hasSoMany wsX2_hasSoMany rmX2_hasSoMany (PZ D cI cS [.ref a0, .int v1, .int v2, .int v3] (fun U => va_P D vwCl (wX2 cI cS a0 a1 a2 a3 bt sz nm) U.heap)) (vp_Si (fun x => x = z0)) 0 0 (fun _ => False) := by
  refine Met.mk RX2 (by decide) rfl rfl (Nat.le_of_ble_eq_true rfl) ?_
  intro p e s m below meth c ls C0 hP hl
  have hl : lv_has ls 4 [(0, .ref a0), (1, .int v1), (2, .int v2), (3, .int v3)] := hl
  obtain ⟨hx, hb, hr, hml, hown, hts, hlk, hE⟩ := id C0
  rw [fX2_hasSoMany] at h
  refine lv_iload_n hx hb dX2_hasSoMany_0 rfl (lv_at hl 2 rfl) ?_
  refine lv_if_lt (tgt := 27) hx hb dX2_hasSoMany_1 (by decide) (fun c_1 => ?_) (fun c_1 => ?_)
  · have h := ifp c_1 h
    refine lv_iconst (v := 0) hx hb dX2_hasSoMany_27 (by decide) ?_
    exact eRz C0 rfl h dX2_hasSoMany_28
  · have h := ifn c_1 h
    refine lv_iload_n hx hb dX2_hasSoMany_4 rfl (lv_at hl 3 rfl) ?_
    refine lv_if_lt (tgt := 27) hx hb dX2_hasSoMany_5 (by decide) (fun c_2 => ?_) (fun c_2 => ?_)
    · have h := ifp c_2 h
      refine lv_iconst (v := 0) hx hb dX2_hasSoMany_27 (by decide) ?_
      exact eRz C0 rfl h dX2_hasSoMany_28
    · have h := ifn c_2 h
      refine lv_iload_n hx hb dX2_hasSoMany_8 rfl (lv_at hl 2 rfl) ?_
      refine lv_i2l (v := v2.toInt64) hx hb dX2_hasSoMany_9 rfl ?_
      refine lv_iload_n hx hb dX2_hasSoMany_10 rfl (lv_at hl 3 rfl) ?_
      refine lv_i2l (v := v3.toInt64) hx hb dX2_hasSoMany_11 rfl ?_
      refine lv_ladd hx hb dX2_hasSoMany_12 ?_
      refine lv_aload_n hx hb dX2_hasSoMany_13 rfl (lv_at hl 0 rfl) ?_
      refine lv_iload_n hx hb dX2_hasSoMany_14 rfl (lv_at hl 1 rfl) ?_
      have hPc := hP.sub (ws' := (wX2 cI cS a0 a1 a2 a3 bt sz nm)) [0, 1, 2, 3] rfl
      refine kRi (rV C0 (tX2_sizeOf l D cI cS a0 a1 a2 a3 bt sz nm v1 (fX2_sizeOf sz v1) rfl) RX2 gX2_hasSoMany_X2_sizeOf rfl ⟨rfl, rfl⟩ pdX2_sizeOf rfl ⟨Nat.le_of_ble_eq_true rfl, Nat.le_of_ble_eq_true rfl⟩ (fun _ _ _ _ q => q) (va_recv hE.1 hPc (ci := 1) (q0 := 0) rfl rfl) (fun U hU _ _ => by rw [hU]; exact hPc) hl.1 rfl (Nat.le_of_ble_eq_true rfl) dX2_hasSoMany_15 ⟨Nat.zero_le _, Nat.zero_le _⟩) ?_
      refine lv_i2l (v := (fX2_sizeOf sz v1).toInt64) hx hb dX2_hasSoMany_18 rfl ?_
      refine W.lcmp hx hb dX2_hasSoMany_19 ?_
      refine lv_if_gt (tgt := 27) hx hb dX2_hasSoMany_20 (by decide) (fun c_3 => ?_) (fun c_3 => ?_)
      · have h := ifp c_3 h
        refine lv_iconst (v := 0) hx hb dX2_hasSoMany_27 (by decide) ?_
        exact eRz C0 rfl h dX2_hasSoMany_28
      · have h := ifn c_3 h
        refine lv_iconst (v := 1) hx hb dX2_hasSoMany_23 (by decide) ?_
        refine lv_goto (tgt := 28) hx hb dX2_hasSoMany_24 (by decide) ?_
        exact eRz C0 rfl h dX2_hasSoMany_28
theorem zzX2_hasSoMany (sz : Nat → Int32) (v1 : Int32) (v2 : Int32) (v3 : Int32) : narrow .boolean (.int (fX2_hasSoMany sz v1 v2 v3)) = .int (fX2_hasSoMany sz v1 v2 v3) := by unfold fX2_hasSoMany; (repeat' split) <;> first | rfl | exact zzX2_isMissing ..
def fX2_carry (sz : Nat → Int32) (nm : Nat → Int32) (v1 : Int32) (v2 : Int32) (v3 : Int32) (v4 : Int32) (v5 : Int32) : Option ((Nat → Int32)) := (if (fX4_isSheet v1) = 0 then some nm else (if (fX4_isSheet v3) = 0 then some nm else (if (fX2_hasSoMany sz v1 v2 v5) = 0 then some nm else (if (fX2_hasSoMany sz v3 v4 v5) = 0 then some nm else if ¬ ((v1 * 40) + v2) < 0 ∧ ¬ ((v3 * 40) + v4) < 0 ∧ ¬ v5 < 0 ∧ ((v1 * 40) + v2).toNatClampNeg + v5.toNatClampNeg ≤ 160 ∧ ((v3 * 40) + v4).toNatClampNeg + v5.toNatClampNeg ≤ 160 then some (va_cpy nm nm ((v1 * 40) + v2).toNatClampNeg ((v3 * 40) + v4).toNatClampNeg v5.toNatClampNeg) else none))))
abbrev rmX2_carry : Room := { frames := 3, cells := 0, slots := 0, locals := 65 }
theorem pdX2_carry : (yX2_carry.cls = RX2 ∧ yX2_carry.cls ≠ "java/lang/invoke/MethodHandle" ∧ yX2_carry.cls ≠ "java/lang/invoke/VarHandle" ∧ (parseMethodDescriptor yX2_carry.desc).map (fun d => d.parameters.length) = some 5) := by decide +kernel
set_option maxHeartbeats 4000000 in
set_option maxRecDepth 100000 in
theorem tX2_carry (l : Launch) (D : va_G) (cI cS : ClassId) (a0 a1 a2 a3 : Nat) (bt : Nat → Int32) (sz : Nat → Int32) (nm : Nat → Int32) (v1 : Int32) (v2 : Int32) (v3 : Int32) (v4 : Int32) (v5 : Int32) (z0 : Nat → Int32) (h : fX2_carry sz nm v1 v2 v3 v4 v5 = some z0) (hD0 : va_D (fun _ => True) (wX2 cI cS a0 a1 a2 a3 bt sz nm)) : Met l yX2_carry wsX2_carry rmX2_carry (PZ D cI cS [.ref a0, .int v1, .int v2, .int v3, .int v4, .int v5] (fun U => va_P D vwCl (wX2 cI cS a0 a1 a2 a3 bt sz nm) U.heap)) (qV D (wX2 cI cS a0 a1 a2 a3 bt sz nm) (wX2 cI cS a0 a1 a2 a3 bt sz z0)) 0 0 (wA (wX2 cI cS a0 a1 a2 a3 bt sz nm)) := by
  refine Met.mk RX2 (by decide) rfl rfl (Nat.le_of_ble_eq_true rfl) ?_
  intro p e s m below meth c ls C0 hP hl
  have hl : lv_has ls 6 [(0, .ref a0), (1, .int v1), (2, .int v2), (3, .int v3), (4, .int v4), (5, .int v5)] := hl
  obtain ⟨hx, hb, hr, hml, hown, hts, hlk, hE⟩ := id C0
  have hinX2 : ∀ w ∈ u_ws RX2 TX2 3, w ∈ wsX2_carry := by decide +kernel
  have hD : ∀ W : va_W, W.map Prod.fst = [a0, a1, a2, a3] → va_D (wA (wX2 cI cS a0 a1 a2 a3 bt sz nm)) W := fun W hW => hD0.own.re hW
  have hS : va_S (wA (wX2 cI cS a0 a1 a2 a3 bt sz nm)) s.heap s.heap [] := va_S.rf
  have hP : va_P D vwCl (wX2 cI cS a0 a1 a2 a3 bt sz nm) s.heap := hP
  rw [fX2_carry] at h
  refine lv_iload_n hx hb dX2_carry_0 rfl (lv_at hl 1 rfl) ?_
  refine kRi (rSN C0 (tX4_isSheet l D cI cS v1 (fX4_isSheet v1) rfl) "VaguePort" ggX2_carry_X4_isSheet rfl ⟨rfl, rfl⟩ (List.mem_of_getElem? (i := 17) rfl) (List.mem_of_getElem? (i := 7) rfl) (List.mem_of_getElem? (i := 6) rfl) pdX4_isSheet rfl ⟨Nat.le_of_ble_eq_true rfl, Nat.le_of_ble_eq_true rfl⟩ (fun _ _ _ _ q => q) (fun _ _ _ _ => vp0) hl.1 rfl (Nat.le_of_ble_eq_true rfl) dX2_carry_1 ⟨Nat.zero_le _, Nat.zero_le _⟩) ?_
  refine lv_if_eq (tgt := 63) hx hb dX2_carry_4 (by decide) (fun c_1 => ?_) (fun c_1 => ?_)
  · have h := ifp c_1 h
    obtain rfl := Option.some.inj h
    exact eMv C0 hP hS rfl dX2_carry_63
  · have h := ifn c_1 h
    refine lv_iload_n hx hb dX2_carry_7 rfl (lv_at hl 3 rfl) ?_
    refine kRi (rSN C0 (tX4_isSheet l D cI cS v3 (fX4_isSheet v3) rfl) "VaguePort" ggX2_carry_X4_isSheet rfl ⟨rfl, rfl⟩ (List.mem_of_getElem? (i := 17) rfl) (List.mem_of_getElem? (i := 7) rfl) (List.mem_of_getElem? (i := 6) rfl) pdX4_isSheet rfl ⟨Nat.le_of_ble_eq_true rfl, Nat.le_of_ble_eq_true rfl⟩ (fun _ _ _ _ q => q) (fun _ _ _ _ => vp0) hl.1 rfl (Nat.le_of_ble_eq_true rfl) dX2_carry_8 ⟨Nat.zero_le _, Nat.zero_le _⟩) ?_
    refine lv_if_eq (tgt := 63) hx hb dX2_carry_11 (by decide) (fun c_2 => ?_) (fun c_2 => ?_)
    · have h := ifp c_2 h
      obtain rfl := Option.some.inj h
      exact eMv C0 hP hS rfl dX2_carry_63
    · have h := ifn c_2 h
      refine lv_aload_n hx hb dX2_carry_14 rfl (lv_at hl 0 rfl) ?_
      refine lv_iload_n hx hb dX2_carry_15 rfl (lv_at hl 1 rfl) ?_
      refine lv_iload_n hx hb dX2_carry_16 rfl (lv_at hl 2 rfl) ?_
      refine lv_iload hx hb dX2_carry_17 (lv_at hl 5 rfl) ?_
      have hPc := hP.sub (ws' := (wX2 cI cS a0 a1 a2 a3 bt sz nm)) [0, 1, 2, 3] rfl
      refine kRi (rV C0 (tX2_hasSoMany l D cI cS a0 a1 a2 a3 bt sz nm v1 v2 v5 (fX2_hasSoMany sz v1 v2 v5) rfl) RX2 gX2_carry_X2_hasSoMany rfl ⟨rfl, rfl⟩ pdX2_hasSoMany rfl ⟨Nat.le_of_ble_eq_true rfl, Nat.le_of_ble_eq_true rfl⟩ (fun _ _ _ _ q => q) (va_recv hE.1 hPc (ci := 1) (q0 := 0) rfl rfl) (fun U hU _ _ => by rw [hU]; exact hPc) hl.1 rfl (Nat.le_of_ble_eq_true rfl) dX2_carry_19 ⟨Nat.zero_le _, Nat.zero_le _⟩) ?_
      refine lv_if_eq (tgt := 63) hx hb dX2_carry_22 (by decide) (fun c_3 => ?_) (fun c_3 => ?_)
      · have h := ifp c_3 h
        obtain rfl := Option.some.inj h
        exact eMv C0 hP hS rfl dX2_carry_63
      · have h := ifn c_3 h
        refine lv_aload_n hx hb dX2_carry_25 rfl (lv_at hl 0 rfl) ?_
        refine lv_iload_n hx hb dX2_carry_26 rfl (lv_at hl 3 rfl) ?_
        refine lv_iload hx hb dX2_carry_27 (lv_at hl 4 rfl) ?_
        refine lv_iload hx hb dX2_carry_29 (lv_at hl 5 rfl) ?_
        have hPc := hP.sub (ws' := (wX2 cI cS a0 a1 a2 a3 bt sz nm)) [0, 1, 2, 3] rfl
        refine kRi (rV C0 (tX2_hasSoMany l D cI cS a0 a1 a2 a3 bt sz nm v3 v4 v5 (fX2_hasSoMany sz v3 v4 v5) rfl) RX2 gX2_carry_X2_hasSoMany rfl ⟨rfl, rfl⟩ pdX2_hasSoMany rfl ⟨Nat.le_of_ble_eq_true rfl, Nat.le_of_ble_eq_true rfl⟩ (fun _ _ _ _ q => q) (va_recv hE.1 hPc (ci := 1) (q0 := 0) rfl rfl) (fun U hU _ _ => by rw [hU]; exact hPc) hl.1 rfl (Nat.le_of_ble_eq_true rfl) dX2_carry_31 ⟨Nat.zero_le _, Nat.zero_le _⟩) ?_
        refine lv_if_eq (tgt := 63) hx hb dX2_carry_34 (by decide) (fun c_4 => ?_) (fun c_4 => ?_)
        · have h := ifp c_4 h
          obtain rfl := Option.some.inj h
          exact eMv C0 hP hS rfl dX2_carry_63
        · have h := ifn c_4 h
          refine lv_aload_n hx hb dX2_carry_37 rfl (lv_at hl 0 rfl) ?_
          refine va_get (D := D) (ci := 1) (v := .ref a3) (C := RX2) (T := TX2) (N := 3) hx hb hts hinX2 hown hE.1 hP 0 rfl rfl 2 (by decide) (hts _ (List.mem_of_getElem? (i := 1) rfl)) (fun _ h9 => h9) rfl dX2_carry_38 ?_
          refine lv_iload_n hx hb dX2_carry_41 rfl (lv_at hl 1 rfl) ?_
          refine lv_bipush (v := 40) hx hb dX2_carry_42 (by decide) ?_
          refine lv_imul hx hb dX2_carry_44 ?_
          refine lv_iload_n hx hb dX2_carry_45 rfl (lv_at hl 2 rfl) ?_
          refine lv_iadd hx hb dX2_carry_46 ?_
          refine lv_aload_n hx hb dX2_carry_47 rfl (lv_at hl 0 rfl) ?_
          refine va_get (D := D) (ci := 1) (v := .ref a3) (C := RX2) (T := TX2) (N := 3) hx hb hts hinX2 hown hE.1 hP 0 rfl rfl 2 (by decide) (hts _ (List.mem_of_getElem? (i := 1) rfl)) (fun _ h9 => h9) rfl dX2_carry_48 ?_
          refine lv_iload_n hx hb dX2_carry_51 rfl (lv_at hl 3 rfl) ?_
          refine lv_bipush (v := 40) hx hb dX2_carry_52 (by decide) ?_
          refine lv_imul hx hb dX2_carry_54 ?_
          refine lv_iload hx hb dX2_carry_55 (lv_at hl 4 rfl) ?_
          refine lv_iadd hx hb dX2_carry_57 ?_
          refine lv_iload hx hb dX2_carry_58 (lv_at hl 5 rfl) ?_
          obtain ⟨hq_5, h⟩ := ifs h
          refine va_copyi hx hb (hml.trans hl.1.symm) hown (hts _ (List.mem_of_getElem? (i := 2) rfl)) (hts _ (List.mem_of_getElem? (i := 3) rfl)) (hts _ (List.mem_of_getElem? (i := 4) rfl)) (hts _ (List.mem_of_getElem? (i := 5) rfl)) hE.1 hP (hD _ rfl) hS 3 3 0 0 rfl rfl rfl rfl rfl hq_5.1 hq_5.2.1 hq_5.2.2.1 hq_5.2.2.2.1 hq_5.2.2.2.2 (fun _ _ => rfl) (Nat.le_of_ble_eq_true rfl) (Nat.le_of_ble_eq_true rfl) dX2_carry_60 (fun H locs hP _ hS => ?_)
          have hP : va_P D vwCl (wX2 cI cS a0 a1 a2 a3 bt sz (va_cpy nm nm ((v1 * 40) + v2).toNatClampNeg ((v3 * 40) + v4).toNatClampNeg v5.toNatClampNeg)) H := hP
          obtain rfl := Option.some.inj h
          exact eMv C0 hP hS rfl dX2_carry_63
def fX3_add (bs : Nat → Int32) (ln : Int32) (v1 : Int32) : (Nat → Int32) × Int32 := (fX4_putAt 120 bs ln v1, (if (ln + 1) < 120 then ln + 1 else 120))
def fX3_add_o0 (bs : Nat → Int32) (ln : Int32) (v1 : Int32) : Nat → Int32 := (fX3_add bs ln v1).1
def fX3_add_o1 (bs : Nat → Int32) (ln : Int32) (v1 : Int32) : Int32 := (fX3_add bs ln v1).2
theorem eeX3_add (bs : Nat → Int32) (ln : Int32) (v1 : Int32) : fX3_add bs ln v1 = (fX3_add_o0 bs ln v1, fX3_add_o1 bs ln v1) := rfl
abbrev rmX3_add : Room := { frames := 1, cells := 0, slots := 0, locals := 22 }
theorem pdX3_add : (yX3_add.cls = RX3 ∧ yX3_add.cls ≠ "java/lang/invoke/MethodHandle" ∧ yX3_add.cls ≠ "java/lang/invoke/VarHandle" ∧ (parseMethodDescriptor yX3_add.desc).map (fun d => d.parameters.length) = some 1) := by decide +kernel
set_option maxHeartbeats 4000000 in
set_option maxRecDepth 100000 in
theorem tX3_add (l : Launch) (D : va_G) (cI cS : ClassId) (a0 a1 : Nat) (bs : Nat → Int32) (ln : Int32) (so : Int32) (be : Int32) (en : Int32) (va : Int32) (v1 : Int32) (z0 : Nat → Int32) (z1 : Int32) (h : fX3_add bs ln v1 = (z0, z1)) (hD0 : va_D (fun _ => True) (wX3 cI cS a0 a1 bs ln so be en va)) : Met l yX3_add wsX3_add rmX3_add (PZ D cI cS [.ref a0, .int v1] (fun U => va_P D vwCl (wX3 cI cS a0 a1 bs ln so be en va) U.heap)) (qV D (wX3 cI cS a0 a1 bs ln so be en va) (wX3 cI cS a0 a1 z0 z1 so be en va)) 0 0 (wA (wX3 cI cS a0 a1 bs ln so be en va)) := by
  refine Met.mk RX3 (by decide) rfl rfl (Nat.le_of_ble_eq_true rfl) ?_
  intro p e s m below meth c ls C0 hP hl
  have hl : lv_has ls 2 [(0, .ref a0), (1, .int v1)] := hl
  obtain ⟨hx, hb, hr, hml, hown, hts, hlk, hE⟩ := id C0
  have hinX3 : ∀ w ∈ u_ws RX3 TX3 6, w ∈ wsX3_add := by decide +kernel
  have hD : ∀ W : va_W, W.map Prod.fst = [a0, a1] → va_D (wA (wX3 cI cS a0 a1 bs ln so be en va)) W := fun W hW => hD0.own.re hW
  have hS : va_S (wA (wX3 cI cS a0 a1 bs ln so be en va)) s.heap s.heap [] := va_S.rf
  have hP : va_P D vwCl (wX3 cI cS a0 a1 bs ln so be en va) s.heap := hP
  rw [fX3_add] at h
  refine lv_aload_n hx hb dX3_add_0 rfl (lv_at hl 0 rfl) ?_
  refine va_get (D := D) (ci := 2) (v := .ref a1) (C := RX3) (T := TX3) (N := 6) hx hb hts hinX3 hown hE.1 hP 0 rfl rfl 0 (by decide) (hts _ (List.mem_of_getElem? (i := 1) rfl)) (fun _ h9 => h9) rfl dX3_add_1 ?_
  refine lv_aload_n hx hb dX3_add_4 rfl (lv_at hl 0 rfl) ?_
  refine va_get (D := D) (ci := 2) (v := .int ln) (C := RX3) (T := TX3) (N := 6) hx hb hts hinX3 hown hE.1 hP 0 rfl rfl 1 (by decide) (hts _ (List.mem_of_getElem? (i := 2) rfl)) (fun _ h9 => h9) rfl dX3_add_5 ?_
  refine lv_iload_n hx hb dX3_add_8 rfl (lv_at hl 1 rfl) ?_
  have hPc := hP.sub (ws' := [(a1, .inl (cI, 120, .inl bs))]) [1] rfl
  refine kMv (wf' := (wX3 cI cS a0 a1 (fX4_putAt 120 bs ln v1) ln so be en va)) [1] [none, some 0] (rSN C0 (tX4_putAt l D cI cS a1 120 bs ln v1 (by decide)) "VaguePort" ggX3_add_X4_putAt rfl ⟨rfl, rfl⟩ (List.mem_of_getElem? (i := 13) rfl) (List.mem_of_getElem? (i := 8) rfl) (List.mem_of_getElem? (i := 7) rfl) pdX4_putAt rfl ⟨Nat.le_of_ble_eq_true rfl, Nat.le_of_ble_eq_true rfl⟩ (fun _ _ _ _ q => q) (fun U hU _ _ => by rw [hU]; exact hPc) hl.1 rfl (Nat.le_of_ble_eq_true rfl) dX3_add_9 ⟨Nat.zero_le _, Nat.zero_le _⟩) hP (hD _ rfl) hS rfl rfl rfl (fun H locs hP hS => ?_)
  refine lv_aload_n hx hb dX3_add_12 rfl (lv_at hl 0 rfl) ?_
  refine lv_bipush (v := 120) hx hb dX3_add_13 (by decide) ?_
  refine lv_aload_n hx hb dX3_add_15 rfl (lv_at hl 0 rfl) ?_
  refine va_get (D := D) (ci := 2) (v := .int ln) (C := RX3) (T := TX3) (N := 6) hx hb hts hinX3 hown hE.1 hP 0 rfl rfl 1 (by decide) (hts _ (List.mem_of_getElem? (i := 2) rfl)) (fun _ h9 => h9) rfl dX3_add_16 ?_
  refine lv_iconst (v := 1) hx hb dX3_add_19 (by decide) ?_
  refine lv_iadd hx hb dX3_add_20 ?_
  refine va_mmin hx hb (hml.trans hl.1.symm) hown (hts _ (List.mem_of_getElem? (i := 3) rfl)) (hts _ (List.mem_of_getElem? (i := 4) rfl)) (hts _ (List.mem_of_getElem? (i := 5) rfl)) (hts _ (List.mem_of_getElem? (i := 6) rfl)) (Nat.le_of_ble_eq_true rfl) (Nat.le_of_ble_eq_true rfl) (Nat.zero_le _) (Nat.zero_le _) dX3_add_21 ?_
  refine va_put (D := D) (ci := 2) (v := .int (if (ln + 1) < 120 then ln + 1 else 120)) (ty := .int) (C := RX3) (T := TX3) (N := 6) hx hb hts hinX3 tyX3 tyX3_ok nmX3 hown hE.1 hP (hD _ rfl) hS 0 rfl rfl 1 (by decide) (hts _ (List.mem_of_getElem? (i := 2) rfl)) (fun _ h9 => h9) rfl (by decide +kernel) rfl rfl (Nat.le_of_ble_eq_true rfl) dX3_add_24 (fun H locs hP _ hS => ?_)
  have hP : va_P D vwCl (wX3 cI cS a0 a1 (fX4_putAt 120 bs ln v1) (if (ln + 1) < 120 then ln + 1 else 120) so be en va) H := hP
  obtain ⟨q0, q1⟩ := Prod.mk.inj (h)
  subst q0 q1
  exact eMv C0 hP hS rfl dX3_add_27
def fX3_sortAt (bs : Nat → Int32) (ln : Int32) (v1 : Int32) : Int32 := (if v1 < 0 then 0 else (if ln ≤ v1 then 0 else (if v1 < 120 then (if (bs v1.toNatClampNeg) < 97 then (if (bs v1.toNatClampNeg) < 48 then (if (bs v1.toNatClampNeg) = 59 then 3 else 4) else (if 57 < (bs v1.toNatClampNeg) then (if (bs v1.toNatClampNeg) = 59 then 3 else 4) else 2)) else (if 122 < (bs v1.toNatClampNeg) then (if (bs v1.toNatClampNeg) < 48 then (if (bs v1.toNatClampNeg) = 59 then 3 else 4) else (if 57 < (bs v1.toNatClampNeg) then (if (bs v1.toNatClampNeg) = 59 then 3 else 4) else 2)) else 1)) else 0)))
abbrev rmX3_sortAt : Room := { frames := 0, cells := 0, slots := 0, locals := 0 }
theorem pdX3_sortAt : (yX3_sortAt.cls = RX3 ∧ yX3_sortAt.cls ≠ "java/lang/invoke/MethodHandle" ∧ yX3_sortAt.cls ≠ "java/lang/invoke/VarHandle" ∧ (parseMethodDescriptor yX3_sortAt.desc).map (fun d => d.parameters.length) = some 1) := by decide +kernel
set_option maxHeartbeats 4000000 in
set_option maxRecDepth 100000 in
theorem tX3_sortAt (l : Launch) (D : va_G) (cI cS : ClassId) (a0 a1 : Nat) (bs : Nat → Int32) (ln : Int32) (so : Int32) (be : Int32) (en : Int32) (va : Int32) (v1 : Int32) (z0 : Int32) (h : fX3_sortAt bs ln v1 = z0) : Met l yX3_sortAt wsX3_sortAt rmX3_sortAt (PZ D cI cS [.ref a0, .int v1] (fun U => va_P D vwCl (wX3 cI cS a0 a1 bs ln so be en va) U.heap)) (vp_Si (fun x => x = z0)) 0 0 (fun _ => False) := by
  refine Met.mk RX3 (by decide) rfl rfl (Nat.le_of_ble_eq_true rfl) ?_
  intro p e s m below meth c ls C0 hP hl
  have hl : lv_has ls 3 [(0, .ref a0), (1, .int v1)] := hl
  obtain ⟨hx, hb, hr, hml, hown, hts, hlk, hE⟩ := id C0
  have hinX3 : ∀ w ∈ u_ws RX3 TX3 6, w ∈ wsX3_sortAt := by decide +kernel
  rw [fX3_sortAt] at h
  refine lv_iload_n hx hb dX3_sortAt_0 rfl (lv_at hl 1 rfl) ?_
  refine lv_if_lt (tgt := 21) hx hb dX3_sortAt_1 (by decide) (fun c_1 => ?_) (fun c_1 => ?_)
  · have h := ifp c_1 h
    refine lv_iconst (v := 0) hx hb dX3_sortAt_21 (by decide) ?_
    exact eRi C0 h dX3_sortAt_22
  · have h := ifn c_1 h
    refine lv_iload_n hx hb dX3_sortAt_4 rfl (lv_at hl 1 rfl) ?_
    refine lv_aload_n hx hb dX3_sortAt_5 rfl (lv_at hl 0 rfl) ?_
    refine va_get (D := D) (ci := 2) (v := .int ln) (C := RX3) (T := TX3) (N := 6) hx hb hts hinX3 hown hE.1 hP 0 rfl rfl 1 (by decide) (hts _ (List.mem_of_getElem? (i := 1) rfl)) (fun _ h9 => h9) rfl dX3_sortAt_6 ?_
    refine lv_icmp_ge (tgt := 21) hx hb dX3_sortAt_9 (by decide) (fun c_2 => ?_) (fun c_2 => ?_)
    · have h := ifp c_2 h
      refine lv_iconst (v := 0) hx hb dX3_sortAt_21 (by decide) ?_
      exact eRi C0 h dX3_sortAt_22
    · have h := ifn c_2 h
      refine lv_iload_n hx hb dX3_sortAt_12 rfl (lv_at hl 1 rfl) ?_
      refine lv_aload_n hx hb dX3_sortAt_13 rfl (lv_at hl 0 rfl) ?_
      refine va_get (D := D) (ci := 2) (v := .ref a1) (C := RX3) (T := TX3) (N := 6) hx hb hts hinX3 hown hE.1 hP 0 rfl rfl 0 (by decide) (hts _ (List.mem_of_getElem? (i := 2) rfl)) (fun _ h9 => h9) rfl dX3_sortAt_14 ?_
      refine va_alen (v := 120) hx hb hE.1 hP 1 0 rfl rfl rfl dX3_sortAt_17 ?_
      refine lv_icmp_lt (tgt := 23) hx hb dX3_sortAt_18 (by decide) (fun c_3 => ?_) (fun c_3 => ?_)
      · have h := ifp c_3 h
        refine lv_aload_n hx hb dX3_sortAt_23 rfl (lv_at hl 0 rfl) ?_
        refine va_get (D := D) (ci := 2) (v := .ref a1) (C := RX3) (T := TX3) (N := 6) hx hb hts hinX3 hown hE.1 hP 0 rfl rfl 0 (by decide) (hts _ (List.mem_of_getElem? (i := 2) rfl)) (fun _ h9 => h9) rfl dX3_sortAt_24 ?_
        refine lv_iload_n hx hb dX3_sortAt_27 rfl (lv_at hl 1 rfl) ?_
        refine va_iald hx hb hE.1 hP 1 0 rfl rfl (in_of (Int32.not_lt.mp c_1) (n := 120) c_3 (by decide)) dX3_sortAt_28 ?_
        refine lv_istore_n (lv' := [(2, .int (bs v1.toNatClampNeg)), (0, .ref a0), (1, .int v1)]) hx hb dX3_sortAt_29 rfl hl (by decide) rfl (fun ls hl => ?_)
        refine lv_iload_n hx hb dX3_sortAt_30 rfl (lv_at hl 0 rfl) ?_
        refine lv_bipush (v := 97) hx hb dX3_sortAt_31 (by decide) ?_
        refine lv_icmp_lt (tgt := 44) hx hb dX3_sortAt_33 (by decide) (fun c_4 => ?_) (fun c_4 => ?_)
        · have h := ifp c_4 h
          refine lv_iload_n hx hb dX3_sortAt_44 rfl (lv_at hl 0 rfl) ?_
          refine lv_bipush (v := 48) hx hb dX3_sortAt_45 (by decide) ?_
          refine lv_icmp_lt (tgt := 58) hx hb dX3_sortAt_47 (by decide) (fun c_5 => ?_) (fun c_5 => ?_)
          · have h := ifp c_5 h
            refine lv_iload_n hx hb dX3_sortAt_58 rfl (lv_at hl 0 rfl) ?_
            refine lv_bipush (v := 59) hx hb dX3_sortAt_59 (by decide) ?_
            refine lv_icmp_ne (tgt := 68) hx hb dX3_sortAt_61 (by decide) (fun c_6 => ?_) (fun c_6 => ?_)
            · have h := ifn c_6 h
              refine lv_iconst (v := 4) hx hb dX3_sortAt_68 (by decide) ?_
              exact eRi C0 h dX3_sortAt_69
            · have h := ifp c_6 h
              refine lv_iconst (v := 3) hx hb dX3_sortAt_64 (by decide) ?_
              refine lv_goto (tgt := 69) hx hb dX3_sortAt_65 (by decide) ?_
              exact eRi C0 h dX3_sortAt_69
          · have h := ifn c_5 h
            refine lv_iload_n hx hb dX3_sortAt_50 rfl (lv_at hl 0 rfl) ?_
            refine lv_bipush (v := 57) hx hb dX3_sortAt_51 (by decide) ?_
            refine lv_icmp_gt (tgt := 58) hx hb dX3_sortAt_53 (by decide) (fun c_7 => ?_) (fun c_7 => ?_)
            · have h := ifp c_7 h
              refine lv_iload_n hx hb dX3_sortAt_58 rfl (lv_at hl 0 rfl) ?_
              refine lv_bipush (v := 59) hx hb dX3_sortAt_59 (by decide) ?_
              refine lv_icmp_ne (tgt := 68) hx hb dX3_sortAt_61 (by decide) (fun c_8 => ?_) (fun c_8 => ?_)
              · have h := ifn c_8 h
                refine lv_iconst (v := 4) hx hb dX3_sortAt_68 (by decide) ?_
                exact eRi C0 h dX3_sortAt_69
              · have h := ifp c_8 h
                refine lv_iconst (v := 3) hx hb dX3_sortAt_64 (by decide) ?_
                refine lv_goto (tgt := 69) hx hb dX3_sortAt_65 (by decide) ?_
                exact eRi C0 h dX3_sortAt_69
            · have h := ifn c_7 h
              refine lv_iconst (v := 2) hx hb dX3_sortAt_56 (by decide) ?_
              exact eRi C0 h dX3_sortAt_57
        · have h := ifn c_4 h
          refine lv_iload_n hx hb dX3_sortAt_36 rfl (lv_at hl 0 rfl) ?_
          refine lv_bipush (v := 122) hx hb dX3_sortAt_37 (by decide) ?_
          refine lv_icmp_gt (tgt := 44) hx hb dX3_sortAt_39 (by decide) (fun c_9 => ?_) (fun c_9 => ?_)
          · have h := ifp c_9 h
            refine lv_iload_n hx hb dX3_sortAt_44 rfl (lv_at hl 0 rfl) ?_
            refine lv_bipush (v := 48) hx hb dX3_sortAt_45 (by decide) ?_
            refine lv_icmp_lt (tgt := 58) hx hb dX3_sortAt_47 (by decide) (fun c_10 => ?_) (fun c_10 => ?_)
            · have h := ifp c_10 h
              refine lv_iload_n hx hb dX3_sortAt_58 rfl (lv_at hl 0 rfl) ?_
              refine lv_bipush (v := 59) hx hb dX3_sortAt_59 (by decide) ?_
              refine lv_icmp_ne (tgt := 68) hx hb dX3_sortAt_61 (by decide) (fun c_11 => ?_) (fun c_11 => ?_)
              · have h := ifn c_11 h
                refine lv_iconst (v := 4) hx hb dX3_sortAt_68 (by decide) ?_
                exact eRi C0 h dX3_sortAt_69
              · have h := ifp c_11 h
                refine lv_iconst (v := 3) hx hb dX3_sortAt_64 (by decide) ?_
                refine lv_goto (tgt := 69) hx hb dX3_sortAt_65 (by decide) ?_
                exact eRi C0 h dX3_sortAt_69
            · have h := ifn c_10 h
              refine lv_iload_n hx hb dX3_sortAt_50 rfl (lv_at hl 0 rfl) ?_
              refine lv_bipush (v := 57) hx hb dX3_sortAt_51 (by decide) ?_
              refine lv_icmp_gt (tgt := 58) hx hb dX3_sortAt_53 (by decide) (fun c_12 => ?_) (fun c_12 => ?_)
              · have h := ifp c_12 h
                refine lv_iload_n hx hb dX3_sortAt_58 rfl (lv_at hl 0 rfl) ?_
                refine lv_bipush (v := 59) hx hb dX3_sortAt_59 (by decide) ?_
                refine lv_icmp_ne (tgt := 68) hx hb dX3_sortAt_61 (by decide) (fun c_13 => ?_) (fun c_13 => ?_)
                · have h := ifn c_13 h
                  refine lv_iconst (v := 4) hx hb dX3_sortAt_68 (by decide) ?_
                  exact eRi C0 h dX3_sortAt_69
                · have h := ifp c_13 h
                  refine lv_iconst (v := 3) hx hb dX3_sortAt_64 (by decide) ?_
                  refine lv_goto (tgt := 69) hx hb dX3_sortAt_65 (by decide) ?_
                  exact eRi C0 h dX3_sortAt_69
              · have h := ifn c_12 h
                refine lv_iconst (v := 2) hx hb dX3_sortAt_56 (by decide) ?_
                exact eRi C0 h dX3_sortAt_57
          · have h := ifn c_9 h
            refine lv_iconst (v := 1) hx hb dX3_sortAt_42 (by decide) ?_
            exact eRi C0 h dX3_sortAt_43
      · have h := ifn c_3 h
        refine lv_iconst (v := 0) hx hb dX3_sortAt_21 (by decide) ?_
        exact eRi C0 h dX3_sortAt_22
def fX3_advance_8 (k : Int32 → Option (Int32 × Int32 × Int32 × Int32)) (bs : Nat → Int32) (ln : Int32) : Nat → Int32 → Option (Int32 × Int32 × Int32 × Int32)
  | 0, _ => none
  | n + 1, be => (if ln ≤ be then k be else (if (fX4_numberAt 120 bs be) = 32 then fX3_advance_8 k bs ln n (be + 1) else k be))
def fX3_advance_89 (bs : Nat → Int32) (ln : Int32) (so : Int32) (be : Int32) : Nat → Int32 → Int32 → Option (Int32 × Int32 × Int32 × Int32)
  | 0, _, _ => none
  | n + 1, en, va => (if ln ≤ en then some (so, be, en, va) else (if (fX3_sortAt bs ln en) = so then fX3_advance_89 bs ln so be n (en + 1) (if (((va * 10) + (fX4_numberAt 120 bs en)) - 48) < 10000 then ((va * 10) + (fX4_numberAt 120 bs en)) - 48 else 10000) else some (so, be, en, va)))
def fX3_advance (F : Nat) (bs : Nat → Int32) (ln : Int32) (so : Int32) (be : Int32) (en : Int32) (va : Int32) : Option (Int32 × Int32 × Int32 × Int32) := fX3_advance_8 (fun be__3 => (if (fX3_sortAt bs ln be__3) = 1 then fX3_advance_89 bs ln (fX3_sortAt bs ln be__3) be__3 F be__3 0 else (if (fX3_sortAt bs ln be__3) = 2 then fX3_advance_89 bs ln (fX3_sortAt bs ln be__3) be__3 F be__3 0 else (if (fX3_sortAt bs ln be__3) = 0 then some ((fX3_sortAt bs ln be__3), be__3, be__3, 0) else some ((fX3_sortAt bs ln be__3), be__3, be__3 + 1, 0))))) bs ln F en
abbrev rmX3_advance : Room := { frames := 1, cells := 0, slots := 0, locals := 22 }
theorem pdX3_advance : (yX3_advance.cls = RX3 ∧ yX3_advance.cls ≠ "java/lang/invoke/MethodHandle" ∧ yX3_advance.cls ≠ "java/lang/invoke/VarHandle" ∧ (parseMethodDescriptor yX3_advance.desc).map (fun d => d.parameters.length) = some 0) := by decide +kernel
set_option maxHeartbeats 4000000 in
set_option maxRecDepth 100000 in
theorem lX3_advance_8 {p : Program} {l : Launch} {e : Env} {s : State} {m : MethodId} {av : Array Value} {below : List Frame} {meth : Method} {c : Code} {D : va_G} {cI cS : ClassId} {a0 a1 : Nat} {W0 : va_W} (C0 : CX p s m av meth c RX3 cX3_advance 1 none wsX3_advance D cI cS) (F : Nat) (k : Int32 → Option (Int32 × Int32 × Int32 × Int32)) (bs : Nat → Int32) (ln : Int32) (so : Int32) (en : Int32) (va : Int32) (z0 : Int32) (z1 : Int32) (z2 : Int32) (z3 : Int32) (hD : ∀ W : va_W, W.map Prod.fst = [a0, a1] → va_D (wA W0) W) (kk : ∀ (be : Int32) (H : Heap) (locs : List Loc), va_P D vwCl (wX3 cI cS a0 a1 bs ln so be en va) H → va_S (wA W0) s.heap H locs → ∀ (ls : Array Slot), lv_has ls 1 [(0, .ref a0)] → k be = some (z0, z1, z2, z3) → W p l e rmX3_advance s m av below meth c H locs 0 0 (MQ below (qV D W0 (wX3 cI cS a0 a1 bs ln z0 z1 z2 z3)) av s 0 0 (wA W0)) (F0 m 48 ls [])) : ∀ (n : Nat) (be : Int32) (H : Heap) (locs : List Loc), va_P D vwCl (wX3 cI cS a0 a1 bs ln so be en va) H → va_S (wA W0) s.heap H locs → ∀ (ls : Array Slot), lv_has ls 1 [(0, .ref a0)] → fX3_advance_8 k bs ln n be = some (z0, z1, z2, z3) → W p l e rmX3_advance s m av below meth c H locs 0 0 (MQ below (qV D W0 (wX3 cI cS a0 a1 bs ln z0 z1 z2 z3)) av s 0 0 (wA W0)) (F0 m 8 ls []) := by
  obtain ⟨hx, hb, hr, hml, hown, hts, hlk, hE⟩ := id C0
  have hinX3 : ∀ w ∈ u_ws RX3 TX3 6, w ∈ wsX3_advance := by decide +kernel
  intro n
  induction n with
  | zero =>
    intro be H locs hP hS ls hl h
    cases (show none = some (z0, z1, z2, z3) from h)
  | succ n ih =>
    intro be H locs hP hS ls hl h
    rw [fX3_advance_8] at h
    refine lv_aload_n hx hb dX3_advance_8 rfl (lv_at hl 0 rfl) ?_
    refine va_get (D := D) (ci := 2) (v := .int be) (C := RX3) (T := TX3) (N := 6) hx hb hts hinX3 hown hE.1 hP 0 rfl rfl 3 (by decide) (hts _ (List.mem_of_getElem? (i := 2) rfl)) (fun _ h9 => h9) rfl dX3_advance_9 ?_
    refine lv_aload_n hx hb dX3_advance_12 rfl (lv_at hl 0 rfl) ?_
    refine va_get (D := D) (ci := 2) (v := .int ln) (C := RX3) (T := TX3) (N := 6) hx hb hts hinX3 hown hE.1 hP 0 rfl rfl 1 (by decide) (hts _ (List.mem_of_getElem? (i := 3) rfl)) (fun _ h9 => h9) rfl dX3_advance_13 ?_
    refine lv_icmp_ge (tgt := 48) hx hb dX3_advance_16 (by decide) (fun c_1 => ?_) (fun c_1 => ?_)
    · have h := ifp c_1 h
      exact kk be _ _ hP hS _ (lv_sub hl [0] rfl) h
    · have h := ifn c_1 h
      refine lv_aload_n hx hb dX3_advance_19 rfl (lv_at hl 0 rfl) ?_
      refine va_get (D := D) (ci := 2) (v := .ref a1) (C := RX3) (T := TX3) (N := 6) hx hb hts hinX3 hown hE.1 hP 0 rfl rfl 0 (by decide) (hts _ (List.mem_of_getElem? (i := 4) rfl)) (fun _ h9 => h9) rfl dX3_advance_20 ?_
      refine lv_aload_n hx hb dX3_advance_23 rfl (lv_at hl 0 rfl) ?_
      refine va_get (D := D) (ci := 2) (v := .int be) (C := RX3) (T := TX3) (N := 6) hx hb hts hinX3 hown hE.1 hP 0 rfl rfl 3 (by decide) (hts _ (List.mem_of_getElem? (i := 2) rfl)) (fun _ h9 => h9) rfl dX3_advance_24 ?_
      refine kRi (rSN C0 (tX4_numberAt l D cI cS a1 120 bs be (by decide)) "VaguePort" ggX3_advance_X4_numberAt rfl ⟨rfl, rfl⟩ (List.mem_of_getElem? (i := 14) rfl) (List.mem_of_getElem? (i := 12) rfl) (List.mem_of_getElem? (i := 11) rfl) pdX4_numberAt rfl ⟨Nat.le_of_ble_eq_true rfl, Nat.le_of_ble_eq_true rfl⟩ (fun _ _ _ _ q => va_X.call q) (fun U hU hW _ => by rw [hU]; exact (hP.X hE 1 rfl).moved hW.alike) hl.1 rfl (Nat.le_of_ble_eq_true rfl) dX3_advance_27 ⟨Nat.zero_le _, Nat.zero_le _⟩) ?_
      refine lv_bipush (v := 32) hx hb dX3_advance_30 (by decide) ?_
      refine lv_icmp_ne (tgt := 48) hx hb dX3_advance_32 (by decide) (fun c_2 => ?_) (fun c_2 => ?_)
      · have h := ifn c_2 h
        exact kk be _ _ hP hS _ (lv_sub hl [0] rfl) h
      · have h := ifp c_2 h
        refine lv_aload_n hx hb dX3_advance_35 rfl (lv_at hl 0 rfl) ?_
        refine lv_dup hx hb dX3_advance_36 rfl ?_
        refine va_get (D := D) (ci := 2) (v := .int be) (C := RX3) (T := TX3) (N := 6) hx hb hts hinX3 hown hE.1 hP 0 rfl rfl 3 (by decide) (hts _ (List.mem_of_getElem? (i := 2) rfl)) (fun _ h9 => h9) rfl dX3_advance_37 ?_
        refine lv_iconst (v := 1) hx hb dX3_advance_40 (by decide) ?_
        refine lv_iadd hx hb dX3_advance_41 ?_
        refine va_put (D := D) (ci := 2) (v := .int (be + 1)) (ty := .int) (C := RX3) (T := TX3) (N := 6) hx hb hts hinX3 tyX3 tyX3_ok nmX3 hown hE.1 hP (hD _ rfl) hS 0 rfl rfl 3 (by decide) (hts _ (List.mem_of_getElem? (i := 2) rfl)) (fun _ h9 => h9) rfl (by decide +kernel) rfl rfl (Nat.le_of_ble_eq_true rfl) dX3_advance_42 (fun H locs hP _ hS => ?_)
        have hP : va_P D vwCl (wX3 cI cS a0 a1 bs ln so (be + 1) en va) H := hP
        refine lv_goto (tgt := 8) hx hb dX3_advance_45 (by decide) ?_
        exact ih (be + 1) _ _ hP hS _ (lv_sub hl [0] rfl) h
set_option maxHeartbeats 4000000 in
set_option maxRecDepth 100000 in
theorem lX3_advance_89 {p : Program} {l : Launch} {e : Env} {s : State} {m : MethodId} {av : Array Value} {below : List Frame} {meth : Method} {c : Code} {D : va_G} {cI cS : ClassId} {a0 a1 : Nat} {W0 : va_W} (C0 : CX p s m av meth c RX3 cX3_advance 1 none wsX3_advance D cI cS) (F : Nat) (bs : Nat → Int32) (ln : Int32) (so : Int32) (be : Int32) (z0 : Int32) (z1 : Int32) (z2 : Int32) (z3 : Int32) (hD : ∀ W : va_W, W.map Prod.fst = [a0, a1] → va_D (wA W0) W) : ∀ (n : Nat) (en : Int32) (va : Int32) (H : Heap) (locs : List Loc), va_P D vwCl (wX3 cI cS a0 a1 bs ln so be en va) H → va_S (wA W0) s.heap H locs → ∀ (ls : Array Slot), lv_has ls 1 [(0, .ref a0)] → fX3_advance_89 bs ln so be n en va = some (z0, z1, z2, z3) → W p l e rmX3_advance s m av below meth c H locs 0 0 (MQ below (qV D W0 (wX3 cI cS a0 a1 bs ln z0 z1 z2 z3)) av s 0 0 (wA W0)) (F0 m 89 ls []) := by
  obtain ⟨hx, hb, hr, hml, hown, hts, hlk, hE⟩ := id C0
  have hinX3 : ∀ w ∈ u_ws RX3 TX3 6, w ∈ wsX3_advance := by decide +kernel
  intro n
  induction n with
  | zero =>
    intro en va H locs hP hS ls hl h
    cases (show none = some (z0, z1, z2, z3) from h)
  | succ n ih =>
    intro en va H locs hP hS ls hl h
    rw [fX3_advance_89] at h
    refine lv_aload_n hx hb dX3_advance_89 rfl (lv_at hl 0 rfl) ?_
    refine va_get (D := D) (ci := 2) (v := .int en) (C := RX3) (T := TX3) (N := 6) hx hb hts hinX3 hown hE.1 hP 0 rfl rfl 4 (by decide) (hts _ (List.mem_of_getElem? (i := 1) rfl)) (fun _ h9 => h9) rfl dX3_advance_90 ?_
    refine lv_aload_n hx hb dX3_advance_93 rfl (lv_at hl 0 rfl) ?_
    refine va_get (D := D) (ci := 2) (v := .int ln) (C := RX3) (T := TX3) (N := 6) hx hb hts hinX3 hown hE.1 hP 0 rfl rfl 1 (by decide) (hts _ (List.mem_of_getElem? (i := 3) rfl)) (fun _ h9 => h9) rfl dX3_advance_94 ?_
    refine lv_icmp_ge (tgt := 177) hx hb dX3_advance_97 (by decide) (fun c_5 => ?_) (fun c_5 => ?_)
    · have h := ifp c_5 h
      obtain ⟨q0, g0⟩ := Prod.mk.inj (Option.some.inj h)
      obtain ⟨q1, g1⟩ := Prod.mk.inj g0
      obtain ⟨q2, q3⟩ := Prod.mk.inj g1
      subst q0 q1 q2 q3
      exact eMv C0 hP hS rfl dX3_advance_177
    · have h := ifn c_5 h
      refine lv_aload_n hx hb dX3_advance_100 rfl (lv_at hl 0 rfl) ?_
      refine lv_aload_n hx hb dX3_advance_101 rfl (lv_at hl 0 rfl) ?_
      refine va_get (D := D) (ci := 2) (v := .int en) (C := RX3) (T := TX3) (N := 6) hx hb hts hinX3 hown hE.1 hP 0 rfl rfl 4 (by decide) (hts _ (List.mem_of_getElem? (i := 1) rfl)) (fun _ h9 => h9) rfl dX3_advance_102 ?_
      have hPc := hP.sub (ws' := (wX3 cI cS a0 a1 bs ln so be en va)) [0, 1] rfl
      refine kRi (rV C0 (tX3_sortAt l D cI cS a0 a1 bs ln so be en va en (fX3_sortAt bs ln en) rfl) RX3 gX3_advance_X3_sortAt rfl ⟨rfl, rfl⟩ pdX3_sortAt rfl ⟨Nat.le_of_ble_eq_true rfl, Nat.le_of_ble_eq_true rfl⟩ (fun _ _ _ _ q => q) (va_recv hE.1 hPc (ci := 2) (q0 := 0) rfl rfl) (fun U hU _ _ => by rw [hU]; exact hPc) hl.1 rfl (Nat.le_of_ble_eq_true rfl) dX3_advance_105 ⟨Nat.zero_le _, Nat.zero_le _⟩) ?_
      refine lv_aload_n hx hb dX3_advance_108 rfl (lv_at hl 0 rfl) ?_
      refine va_get (D := D) (ci := 2) (v := .int so) (C := RX3) (T := TX3) (N := 6) hx hb hts hinX3 hown hE.1 hP 0 rfl rfl 2 (by decide) (hts _ (List.mem_of_getElem? (i := 5) rfl)) (fun _ h9 => h9) rfl dX3_advance_109 ?_
      refine lv_icmp_ne (tgt := 177) hx hb dX3_advance_112 (by decide) (fun c_6 => ?_) (fun c_6 => ?_)
      · have h := ifn c_6 h
        obtain ⟨q0, g0⟩ := Prod.mk.inj (Option.some.inj h)
        obtain ⟨q1, g1⟩ := Prod.mk.inj g0
        obtain ⟨q2, q3⟩ := Prod.mk.inj g1
        subst q0 q1 q2 q3
        exact eMv C0 hP hS rfl dX3_advance_177
      · have h := ifp c_6 h
        refine lv_aload_n hx hb dX3_advance_115 rfl (lv_at hl 0 rfl) ?_
        refine lv_sipush (v := 10000) hx hb dX3_advance_116 (by decide) ?_
        refine lv_aload_n hx hb dX3_advance_119 rfl (lv_at hl 0 rfl) ?_
        refine va_get (D := D) (ci := 2) (v := .int va) (C := RX3) (T := TX3) (N := 6) hx hb hts hinX3 hown hE.1 hP 0 rfl rfl 5 (by decide) (hts _ (List.mem_of_getElem? (i := 6) rfl)) (fun _ h9 => h9) rfl dX3_advance_120 ?_
        refine lv_bipush (v := 10) hx hb dX3_advance_123 (by decide) ?_
        refine lv_imul hx hb dX3_advance_125 ?_
        refine lv_aload_n hx hb dX3_advance_126 rfl (lv_at hl 0 rfl) ?_
        refine va_get (D := D) (ci := 2) (v := .ref a1) (C := RX3) (T := TX3) (N := 6) hx hb hts hinX3 hown hE.1 hP 0 rfl rfl 0 (by decide) (hts _ (List.mem_of_getElem? (i := 4) rfl)) (fun _ h9 => h9) rfl dX3_advance_127 ?_
        refine lv_aload_n hx hb dX3_advance_130 rfl (lv_at hl 0 rfl) ?_
        refine va_get (D := D) (ci := 2) (v := .int en) (C := RX3) (T := TX3) (N := 6) hx hb hts hinX3 hown hE.1 hP 0 rfl rfl 4 (by decide) (hts _ (List.mem_of_getElem? (i := 1) rfl)) (fun _ h9 => h9) rfl dX3_advance_131 ?_
        refine kRi (rSN C0 (tX4_numberAt l D cI cS a1 120 bs en (by decide)) "VaguePort" ggX3_advance_X4_numberAt rfl ⟨rfl, rfl⟩ (List.mem_of_getElem? (i := 14) rfl) (List.mem_of_getElem? (i := 12) rfl) (List.mem_of_getElem? (i := 11) rfl) pdX4_numberAt rfl ⟨Nat.le_of_ble_eq_true rfl, Nat.le_of_ble_eq_true rfl⟩ (fun _ _ _ _ q => va_X.call q) (fun U hU hW _ => by rw [hU]; exact (hP.X hE 1 rfl).moved hW.alike) hl.1 rfl (Nat.le_of_ble_eq_true rfl) dX3_advance_134 ⟨Nat.zero_le _, Nat.zero_le _⟩) ?_
        refine lv_iadd hx hb dX3_advance_137 ?_
        refine lv_bipush (v := 48) hx hb dX3_advance_138 (by decide) ?_
        refine lv_isub hx hb dX3_advance_140 ?_
        refine va_mmin hx hb (hml.trans hl.1.symm) hown (hts _ (List.mem_of_getElem? (i := 7) rfl)) (hts _ (List.mem_of_getElem? (i := 8) rfl)) (hts _ (List.mem_of_getElem? (i := 9) rfl)) (hts _ (List.mem_of_getElem? (i := 10) rfl)) (Nat.le_of_ble_eq_true rfl) (Nat.le_of_ble_eq_true rfl) (Nat.zero_le _) (Nat.zero_le _) dX3_advance_141 ?_
        refine va_put (D := D) (ci := 2) (v := .int (if (((va * 10) + (fX4_numberAt 120 bs en)) - 48) < 10000 then ((va * 10) + (fX4_numberAt 120 bs en)) - 48 else 10000)) (ty := .int) (C := RX3) (T := TX3) (N := 6) hx hb hts hinX3 tyX3 tyX3_ok nmX3 hown hE.1 hP (hD _ rfl) hS 0 rfl rfl 5 (by decide) (hts _ (List.mem_of_getElem? (i := 6) rfl)) (fun _ h9 => h9) rfl (by decide +kernel) rfl rfl (Nat.le_of_ble_eq_true rfl) dX3_advance_144 (fun H locs hP _ hS => ?_)
        have hP : va_P D vwCl (wX3 cI cS a0 a1 bs ln so be en (if (((va * 10) + (fX4_numberAt 120 bs en)) - 48) < 10000 then ((va * 10) + (fX4_numberAt 120 bs en)) - 48 else 10000)) H := hP
        refine lv_aload_n hx hb dX3_advance_147 rfl (lv_at hl 0 rfl) ?_
        refine lv_dup hx hb dX3_advance_148 rfl ?_
        refine va_get (D := D) (ci := 2) (v := .int en) (C := RX3) (T := TX3) (N := 6) hx hb hts hinX3 hown hE.1 hP 0 rfl rfl 4 (by decide) (hts _ (List.mem_of_getElem? (i := 1) rfl)) (fun _ h9 => h9) rfl dX3_advance_149 ?_
        refine lv_iconst (v := 1) hx hb dX3_advance_152 (by decide) ?_
        refine lv_iadd hx hb dX3_advance_153 ?_
        refine va_put (D := D) (ci := 2) (v := .int (en + 1)) (ty := .int) (C := RX3) (T := TX3) (N := 6) hx hb hts hinX3 tyX3 tyX3_ok nmX3 hown hE.1 hP (hD _ rfl) hS 0 rfl rfl 4 (by decide) (hts _ (List.mem_of_getElem? (i := 1) rfl)) (fun _ h9 => h9) rfl (by decide +kernel) rfl rfl (Nat.le_of_ble_eq_true rfl) dX3_advance_154 (fun H locs hP _ hS => ?_)
        have hP : va_P D vwCl (wX3 cI cS a0 a1 bs ln so be (en + 1) (if (((va * 10) + (fX4_numberAt 120 bs en)) - 48) < 10000 then ((va * 10) + (fX4_numberAt 120 bs en)) - 48 else 10000)) H := hP
        refine lv_goto (tgt := 89) hx hb dX3_advance_157 (by decide) ?_
        exact ih (en + 1) (if (((va * 10) + (fX4_numberAt 120 bs en)) - 48) < 10000 then ((va * 10) + (fX4_numberAt 120 bs en)) - 48 else 10000) _ _ hP hS _ (lv_sub hl [0] rfl) h
set_option maxHeartbeats 4000000 in
set_option maxRecDepth 100000 in
theorem tX3_advance (l : Launch) (D : va_G) (cI cS : ClassId) (F : Nat) (a0 a1 : Nat) (bs : Nat → Int32) (ln : Int32) (so : Int32) (be : Int32) (en : Int32) (va : Int32) (z0 : Int32) (z1 : Int32) (z2 : Int32) (z3 : Int32) (h : fX3_advance F bs ln so be en va = some (z0, z1, z2, z3)) (hD0 : va_D (fun _ => True) (wX3 cI cS a0 a1 bs ln so be en va)) : Met l yX3_advance wsX3_advance rmX3_advance (PZ D cI cS [.ref a0] (fun U => va_P D vwCl (wX3 cI cS a0 a1 bs ln so be en va) U.heap)) (qV D (wX3 cI cS a0 a1 bs ln so be en va) (wX3 cI cS a0 a1 bs ln z0 z1 z2 z3)) 0 0 (wA (wX3 cI cS a0 a1 bs ln so be en va)) := by
  refine Met.mk RX3 (by decide) rfl rfl (Nat.le_of_ble_eq_true rfl) ?_
  intro p e s m below meth c ls C0 hP hl
  have hl : lv_has ls 1 [(0, .ref a0)] := hl
  obtain ⟨hx, hb, hr, hml, hown, hts, hlk, hE⟩ := id C0
  have hinX3 : ∀ w ∈ u_ws RX3 TX3 6, w ∈ wsX3_advance := by decide +kernel
  have hD : ∀ W : va_W, W.map Prod.fst = [a0, a1] → va_D (wA (wX3 cI cS a0 a1 bs ln so be en va)) W := fun W hW => hD0.own.re hW
  have hS : va_S (wA (wX3 cI cS a0 a1 bs ln so be en va)) s.heap s.heap [] := va_S.rf
  have hP : va_P D vwCl (wX3 cI cS a0 a1 bs ln so be en va) s.heap := hP
  rw [fX3_advance] at h
  refine lv_aload_n hx hb dX3_advance_0 rfl (lv_at hl 0 rfl) ?_
  refine lv_aload_n hx hb dX3_advance_1 rfl (lv_at hl 0 rfl) ?_
  refine va_get (D := D) (ci := 2) (v := .int en) (C := RX3) (T := TX3) (N := 6) hx hb hts hinX3 hown hE.1 hP 0 rfl rfl 4 (by decide) (hts _ (List.mem_of_getElem? (i := 1) rfl)) (fun _ h9 => h9) rfl dX3_advance_2 ?_
  refine va_put (D := D) (ci := 2) (v := .int en) (ty := .int) (C := RX3) (T := TX3) (N := 6) hx hb hts hinX3 tyX3 tyX3_ok nmX3 hown hE.1 hP (hD _ rfl) hS 0 rfl rfl 3 (by decide) (hts _ (List.mem_of_getElem? (i := 2) rfl)) (fun _ h9 => h9) rfl (by decide +kernel) rfl rfl (Nat.le_of_ble_eq_true rfl) dX3_advance_5 (fun H locs hP _ hS => ?_)
  have hP : va_P D vwCl (wX3 cI cS a0 a1 bs ln so en en va) H := hP
  refine lX3_advance_8 (l := l) (e := e) (below := below) C0 F _ bs ln so en va z0 z1 z2 z3 hD (fun be__3 H locs hP hS ls hl h => ?_) F en _ _ hP hS _ (lv_sub hl [0] rfl) h
  refine lv_aload_n hx hb dX3_advance_48 rfl (lv_at hl 0 rfl) ?_
  refine lv_aload_n hx hb dX3_advance_49 rfl (lv_at hl 0 rfl) ?_
  refine lv_aload_n hx hb dX3_advance_50 rfl (lv_at hl 0 rfl) ?_
  refine va_get (D := D) (ci := 2) (v := .int be__3) (C := RX3) (T := TX3) (N := 6) hx hb hts hinX3 hown hE.1 hP 0 rfl rfl 3 (by decide) (hts _ (List.mem_of_getElem? (i := 2) rfl)) (fun _ h9 => h9) rfl dX3_advance_51 ?_
  have hPc := hP.sub (ws' := (wX3 cI cS a0 a1 bs ln so be__3 en va)) [0, 1] rfl
  refine kRi (rV C0 (tX3_sortAt l D cI cS a0 a1 bs ln so be__3 en va be__3 (fX3_sortAt bs ln be__3) rfl) RX3 gX3_advance_X3_sortAt rfl ⟨rfl, rfl⟩ pdX3_sortAt rfl ⟨Nat.le_of_ble_eq_true rfl, Nat.le_of_ble_eq_true rfl⟩ (fun _ _ _ _ q => q) (va_recv hE.1 hPc (ci := 2) (q0 := 0) rfl rfl) (fun U hU _ _ => by rw [hU]; exact hPc) hl.1 rfl (Nat.le_of_ble_eq_true rfl) dX3_advance_54 ⟨Nat.zero_le _, Nat.zero_le _⟩) ?_
  refine va_put (D := D) (ci := 2) (v := .int (fX3_sortAt bs ln be__3)) (ty := .int) (C := RX3) (T := TX3) (N := 6) hx hb hts hinX3 tyX3 tyX3_ok nmX3 hown hE.1 hP (hD _ rfl) hS 0 rfl rfl 2 (by decide) (hts _ (List.mem_of_getElem? (i := 5) rfl)) (fun _ h9 => h9) rfl (by decide +kernel) rfl rfl (Nat.le_of_ble_eq_true rfl) dX3_advance_57 (fun H locs hP _ hS => ?_)
  have hP : va_P D vwCl (wX3 cI cS a0 a1 bs ln (fX3_sortAt bs ln be__3) be__3 en va) H := hP
  refine lv_aload_n hx hb dX3_advance_60 rfl (lv_at hl 0 rfl) ?_
  refine lv_aload_n hx hb dX3_advance_61 rfl (lv_at hl 0 rfl) ?_
  refine va_get (D := D) (ci := 2) (v := .int be__3) (C := RX3) (T := TX3) (N := 6) hx hb hts hinX3 hown hE.1 hP 0 rfl rfl 3 (by decide) (hts _ (List.mem_of_getElem? (i := 2) rfl)) (fun _ h9 => h9) rfl dX3_advance_62 ?_
  refine va_put (D := D) (ci := 2) (v := .int be__3) (ty := .int) (C := RX3) (T := TX3) (N := 6) hx hb hts hinX3 tyX3 tyX3_ok nmX3 hown hE.1 hP (hD _ rfl) hS 0 rfl rfl 4 (by decide) (hts _ (List.mem_of_getElem? (i := 1) rfl)) (fun _ h9 => h9) rfl (by decide +kernel) rfl rfl (Nat.le_of_ble_eq_true rfl) dX3_advance_65 (fun H locs hP _ hS => ?_)
  have hP : va_P D vwCl (wX3 cI cS a0 a1 bs ln (fX3_sortAt bs ln be__3) be__3 be__3 va) H := hP
  refine lv_aload_n hx hb dX3_advance_68 rfl (lv_at hl 0 rfl) ?_
  refine lv_iconst (v := 0) hx hb dX3_advance_69 (by decide) ?_
  refine va_put (D := D) (ci := 2) (v := .int 0) (ty := .int) (C := RX3) (T := TX3) (N := 6) hx hb hts hinX3 tyX3 tyX3_ok nmX3 hown hE.1 hP (hD _ rfl) hS 0 rfl rfl 5 (by decide) (hts _ (List.mem_of_getElem? (i := 6) rfl)) (fun _ h9 => h9) rfl (by decide +kernel) rfl rfl (Nat.le_of_ble_eq_true rfl) dX3_advance_70 (fun H locs hP _ hS => ?_)
  have hP : va_P D vwCl (wX3 cI cS a0 a1 bs ln (fX3_sortAt bs ln be__3) be__3 be__3 0) H := hP
  refine lv_aload_n hx hb dX3_advance_73 rfl (lv_at hl 0 rfl) ?_
  refine va_get (D := D) (ci := 2) (v := .int (fX3_sortAt bs ln be__3)) (C := RX3) (T := TX3) (N := 6) hx hb hts hinX3 hown hE.1 hP 0 rfl rfl 2 (by decide) (hts _ (List.mem_of_getElem? (i := 5) rfl)) (fun _ h9 => h9) rfl dX3_advance_74 ?_
  refine lv_iconst (v := 1) hx hb dX3_advance_77 (by decide) ?_
  refine lv_icmp_eq (tgt := 89) hx hb dX3_advance_78 (by decide) (fun c_4 => ?_) (fun c_4 => ?_)
  · have h := ifp c_4 h
    exact lX3_advance_89 (l := l) (e := e) (below := below) C0 F bs ln (fX3_sortAt bs ln be__3) be__3 z0 z1 z2 z3 hD F be__3 0 _ _ hP hS _ (lv_sub hl [0] rfl) h
  · have h := ifn c_4 h
    refine lv_aload_n hx hb dX3_advance_81 rfl (lv_at hl 0 rfl) ?_
    refine va_get (D := D) (ci := 2) (v := .int (fX3_sortAt bs ln be__3)) (C := RX3) (T := TX3) (N := 6) hx hb hts hinX3 hown hE.1 hP 0 rfl rfl 2 (by decide) (hts _ (List.mem_of_getElem? (i := 5) rfl)) (fun _ h9 => h9) rfl dX3_advance_82 ?_
    refine lv_iconst (v := 2) hx hb dX3_advance_85 (by decide) ?_
    refine lv_icmp_ne (tgt := 160) hx hb dX3_advance_86 (by decide) (fun c_7 => ?_) (fun c_7 => ?_)
    · have h := ifn c_7 h
      refine lv_aload_n hx hb dX3_advance_160 rfl (lv_at hl 0 rfl) ?_
      refine va_get (D := D) (ci := 2) (v := .int (fX3_sortAt bs ln be__3)) (C := RX3) (T := TX3) (N := 6) hx hb hts hinX3 hown hE.1 hP 0 rfl rfl 2 (by decide) (hts _ (List.mem_of_getElem? (i := 5) rfl)) (fun _ h9 => h9) rfl dX3_advance_161 ?_
      refine lv_if_eq (tgt := 177) hx hb dX3_advance_164 (by decide) (fun c_8 => ?_) (fun c_8 => ?_)
      · have h := ifp c_8 h
        obtain ⟨q0, g0⟩ := Prod.mk.inj (Option.some.inj h)
        obtain ⟨q1, g1⟩ := Prod.mk.inj g0
        obtain ⟨q2, q3⟩ := Prod.mk.inj g1
        subst q0 q1 q2 q3
        exact eMv C0 hP hS rfl dX3_advance_177
      · have h := ifn c_8 h
        refine lv_aload_n hx hb dX3_advance_167 rfl (lv_at hl 0 rfl) ?_
        refine lv_dup hx hb dX3_advance_168 rfl ?_
        refine va_get (D := D) (ci := 2) (v := .int be__3) (C := RX3) (T := TX3) (N := 6) hx hb hts hinX3 hown hE.1 hP 0 rfl rfl 4 (by decide) (hts _ (List.mem_of_getElem? (i := 1) rfl)) (fun _ h9 => h9) rfl dX3_advance_169 ?_
        refine lv_iconst (v := 1) hx hb dX3_advance_172 (by decide) ?_
        refine lv_iadd hx hb dX3_advance_173 ?_
        refine va_put (D := D) (ci := 2) (v := .int (be__3 + 1)) (ty := .int) (C := RX3) (T := TX3) (N := 6) hx hb hts hinX3 tyX3 tyX3_ok nmX3 hown hE.1 hP (hD _ rfl) hS 0 rfl rfl 4 (by decide) (hts _ (List.mem_of_getElem? (i := 1) rfl)) (fun _ h9 => h9) rfl (by decide +kernel) rfl rfl (Nat.le_of_ble_eq_true rfl) dX3_advance_174 (fun H locs hP _ hS => ?_)
        have hP : va_P D vwCl (wX3 cI cS a0 a1 bs ln (fX3_sortAt bs ln be__3) be__3 (be__3 + 1) 0) H := hP
        obtain ⟨q0, g0⟩ := Prod.mk.inj (Option.some.inj h)
        obtain ⟨q1, g1⟩ := Prod.mk.inj g0
        obtain ⟨q2, q3⟩ := Prod.mk.inj g1
        subst q0 q1 q2 q3
        exact eMv C0 hP hS rfl dX3_advance_177
    · have h := ifp c_7 h
      exact lX3_advance_89 (l := l) (e := e) (below := below) C0 F bs ln (fX3_sortAt bs ln be__3) be__3 z0 z1 z2 z3 hD F be__3 0 _ _ hP hS _ (lv_sub hl [0] rfl) h
def fX3_readNumber (F : Nat) (bs : Nat → Int32) (ln : Int32) (so : Int32) (be : Int32) (en : Int32) (va : Int32) (v1 : Int32) (v2 : Int32) : Option (Int32 × Int32 × Int32 × Int32 × Int32) := (if so = 2 then (if (fX4_within va v1 v2) = 0 then some ((-1), so, be, en, va) else Option.bind (fX3_advance F bs ln so be en va) (fun z_3 => some (va, z_3.1, z_3.2.1, z_3.2.2.1, z_3.2.2.2))) else some ((-1), so, be, en, va))
abbrev rmX3_readNumber : Room := { frames := 2, cells := 0, slots := 0, locals := 42 }
theorem pdX3_readNumber : (yX3_readNumber.cls = RX3 ∧ yX3_readNumber.cls ≠ "java/lang/invoke/MethodHandle" ∧ yX3_readNumber.cls ≠ "java/lang/invoke/VarHandle" ∧ (parseMethodDescriptor yX3_readNumber.desc).map (fun d => d.parameters.length) = some 2) := by decide +kernel
set_option maxHeartbeats 4000000 in
set_option maxRecDepth 100000 in
theorem tX3_readNumber (l : Launch) (D : va_G) (cI cS : ClassId) (F : Nat) (a0 a1 : Nat) (bs : Nat → Int32) (ln : Int32) (so : Int32) (be : Int32) (en : Int32) (va : Int32) (v1 : Int32) (v2 : Int32) (z0 : Int32) (z1 : Int32) (z2 : Int32) (z3 : Int32) (z4 : Int32) (h : fX3_readNumber F bs ln so be en va v1 v2 = some (z0, z1, z2, z3, z4)) (hD0 : va_D (fun _ => True) (wX3 cI cS a0 a1 bs ln so be en va)) : Met l yX3_readNumber wsX3_readNumber rmX3_readNumber (PZ D cI cS [.ref a0, .int v1, .int v2] (fun U => va_P D vwCl (wX3 cI cS a0 a1 bs ln so be en va) U.heap)) (qI D (wX3 cI cS a0 a1 bs ln so be en va) (wX3 cI cS a0 a1 bs ln z1 z2 z3 z4) z0) 0 0 (wA (wX3 cI cS a0 a1 bs ln so be en va)) := by
  refine Met.mk RX3 (by decide) rfl rfl (Nat.le_of_ble_eq_true rfl) ?_
  intro p e s m below meth c ls C0 hP hl
  have hl : lv_has ls 4 [(0, .ref a0), (1, .int v1), (2, .int v2)] := hl
  obtain ⟨hx, hb, hr, hml, hown, hts, hlk, hE⟩ := id C0
  have hinX3 : ∀ w ∈ u_ws RX3 TX3 6, w ∈ wsX3_readNumber := by decide +kernel
  have hD : ∀ W : va_W, W.map Prod.fst = [a0, a1] → va_D (wA (wX3 cI cS a0 a1 bs ln so be en va)) W := fun W hW => hD0.own.re hW
  have hS : va_S (wA (wX3 cI cS a0 a1 bs ln so be en va)) s.heap s.heap [] := va_S.rf
  have hP : va_P D vwCl (wX3 cI cS a0 a1 bs ln so be en va) s.heap := hP
  rw [fX3_readNumber] at h
  refine lv_aload_n hx hb dX3_readNumber_0 rfl (lv_at hl 0 rfl) ?_
  refine va_get (D := D) (ci := 2) (v := .int so) (C := RX3) (T := TX3) (N := 6) hx hb hts hinX3 hown hE.1 hP 0 rfl rfl 2 (by decide) (hts _ (List.mem_of_getElem? (i := 1) rfl)) (fun _ h9 => h9) rfl dX3_readNumber_1 ?_
  refine lv_iconst (v := 2) hx hb dX3_readNumber_4 (by decide) ?_
  refine lv_icmp_ne (tgt := 20) hx hb dX3_readNumber_5 (by decide) (fun c_1 => ?_) (fun c_1 => ?_)
  · have h := ifn c_1 h
    refine lv_iconst (v := (-1)) hx hb dX3_readNumber_20 (by decide) ?_
    obtain ⟨q0, g0⟩ := Prod.mk.inj (Option.some.inj h)
    obtain ⟨q1, g1⟩ := Prod.mk.inj g0
    obtain ⟨q2, g2⟩ := Prod.mk.inj g1
    obtain ⟨q3, q4⟩ := Prod.mk.inj g2
    subst q0 q1 q2 q3 q4
    exact eMi C0 hP hS rfl rfl dX3_readNumber_21
  · have h := ifp c_1 h
    refine lv_aload_n hx hb dX3_readNumber_8 rfl (lv_at hl 0 rfl) ?_
    refine va_get (D := D) (ci := 2) (v := .int va) (C := RX3) (T := TX3) (N := 6) hx hb hts hinX3 hown hE.1 hP 0 rfl rfl 5 (by decide) (hts _ (List.mem_of_getElem? (i := 2) rfl)) (fun _ h9 => h9) rfl dX3_readNumber_9 ?_
    refine lv_iload_n hx hb dX3_readNumber_12 rfl (lv_at hl 1 rfl) ?_
    refine lv_iload_n hx hb dX3_readNumber_13 rfl (lv_at hl 2 rfl) ?_
    refine kRi (rSN C0 (tX4_within l D cI cS va v1 v2 (fX4_within va v1 v2) rfl) "VaguePort" ggX3_readNumber_X4_within rfl ⟨rfl, rfl⟩ (List.mem_of_getElem? (i := 15) rfl) (List.mem_of_getElem? (i := 4) rfl) (List.mem_of_getElem? (i := 3) rfl) pdX4_within rfl ⟨Nat.le_of_ble_eq_true rfl, Nat.le_of_ble_eq_true rfl⟩ (fun _ _ _ _ q => q) (fun _ _ _ _ => vp0) hl.1 rfl (Nat.le_of_ble_eq_true rfl) dX3_readNumber_14 ⟨Nat.zero_le _, Nat.zero_le _⟩) ?_
    refine lv_if_ne (tgt := 22) hx hb dX3_readNumber_17 (by decide) (fun c_2 => ?_) (fun c_2 => ?_)
    · have h := ifn c_2 h
      refine lv_aload_n hx hb dX3_readNumber_22 rfl (lv_at hl 0 rfl) ?_
      refine va_get (D := D) (ci := 2) (v := .int va) (C := RX3) (T := TX3) (N := 6) hx hb hts hinX3 hown hE.1 hP 0 rfl rfl 5 (by decide) (hts _ (List.mem_of_getElem? (i := 2) rfl)) (fun _ h9 => h9) rfl dX3_readNumber_23 ?_
      refine lv_istore_n (lv' := [(3, .int va), (0, .ref a0), (1, .int v1), (2, .int v2)]) hx hb dX3_readNumber_26 rfl hl (by decide) rfl (fun ls hl => ?_)
      refine lv_aload_n hx hb dX3_readNumber_27 rfl (lv_at hl 1 rfl) ?_
      obtain ⟨z_3, e_4, h⟩ := bds h
      have hPc := hP.sub (ws' := (wX3 cI cS a0 a1 bs ln so be en va)) [0, 1] rfl
      refine kMv (wf' := (wX3 cI cS a0 a1 bs ln z_3.1 z_3.2.1 z_3.2.2.1 z_3.2.2.2)) [0, 1] [some 0, some 1] (rV C0 (tX3_advance l D cI cS F a0 a1 bs ln so be en va  z_3.1 z_3.2.1 z_3.2.2.1 z_3.2.2.2 e_4 (((hD (wX3 cI cS a0 a1 bs ln so be en va) rfl).sub [0, 1] (by decide) rfl).weaken (fun _ _ _ _ => trivial))) RX3 gX3_readNumber_X3_advance rfl ⟨rfl, rfl⟩ pdX3_advance rfl ⟨Nat.le_of_ble_eq_true rfl, Nat.le_of_ble_eq_true rfl⟩ (fun _ _ _ _ q => q) (va_recv hE.1 hPc (ci := 2) (q0 := 0) rfl rfl) (fun U hU _ _ => by rw [hU]; exact hPc) hl.1 rfl (Nat.le_of_ble_eq_true rfl) dX3_readNumber_28 ⟨Nat.zero_le _, Nat.zero_le _⟩) hP (hD _ rfl) hS rfl rfl rfl (fun H locs hP hS => ?_)
      refine lv_iload_n hx hb dX3_readNumber_31 rfl (lv_at hl 0 rfl) ?_
      obtain ⟨q0, g0⟩ := Prod.mk.inj (Option.some.inj h)
      obtain ⟨q1, g1⟩ := Prod.mk.inj g0
      obtain ⟨q2, g2⟩ := Prod.mk.inj g1
      obtain ⟨q3, q4⟩ := Prod.mk.inj g2
      subst q0 q1 q2 q3 q4
      exact eMi C0 hP hS rfl rfl dX3_readNumber_32
    · have h := ifp c_2 h
      refine lv_iconst (v := (-1)) hx hb dX3_readNumber_20 (by decide) ?_
      obtain ⟨q0, g0⟩ := Prod.mk.inj (Option.some.inj h)
      obtain ⟨q1, g1⟩ := Prod.mk.inj g0
      obtain ⟨q2, g2⟩ := Prod.mk.inj g1
      obtain ⟨q3, q4⟩ := Prod.mk.inj g2
      subst q0 q1 q2 q3 q4
      exact eMi C0 hP hS rfl rfl dX3_readNumber_21
