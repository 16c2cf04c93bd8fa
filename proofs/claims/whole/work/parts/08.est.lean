def fX0_placeAt (pl : Nat → Int32) (v1 : Int32) : Int32 := (fX4_numberAt 6 pl v1)
abbrev rmX0_placeAt : Room := { frames := 1, cells := 0, slots := 0, locals := 21 }
theorem pdX0_placeAt : (yX0_placeAt.cls = RX0 ∧ yX0_placeAt.cls ≠ "java/lang/invoke/MethodHandle" ∧ yX0_placeAt.cls ≠ "java/lang/invoke/VarHandle" ∧ (parseMethodDescriptor yX0_placeAt.desc).map (fun d => d.parameters.length) = some 1) := by decide +kernel
set_option maxHeartbeats 4000000 in
set_option maxRecDepth 100000 in
theorem tX0_placeAt (l : Launch) (D : va_G) (cI cS : ClassId) (a0 a1 a2 a3 a4 : Nat) (pl : Nat → Int32) (sp : Nat → Int32) (sy : Nat → Int32) (sh : Nat → Int32) (sc : Int32) (nc : Int32) (dy : Int32) (zz : Int32) (v1 : Int32) (z0 : Int32) (h : fX0_placeAt pl v1 = z0) : Met l yX0_placeAt wsX0_placeAt rmX0_placeAt (PZ D cI cS [.ref a0, .int v1] (fun U => va_P D vwCl (wX0 cI cS a0 a1 a2 a3 a4 pl sp sy sh sc nc dy zz) U.heap)) (vp_Si (fun x => x = z0)) 0 0 (fun _ => False) := by
  refine Met.mk RX0 (by decide) rfl rfl (Nat.le_of_ble_eq_true rfl) ?_
  intro p e s m below meth c ls C0 hP hl
  have hl : lv_has ls 2 [(0, .ref a0), (1, .int v1)] := hl
  obtain ⟨hx, hb, hr, hml, hown, hts, hlk, hE⟩ := id C0
  have hinX0 : ∀ w ∈ u_ws RX0 TX0 8, w ∈ wsX0_placeAt := by decide +kernel
  rw [fX0_placeAt] at h
  refine lv_aload_n hx hb dX0_placeAt_0 rfl (lv_at hl 0 rfl) ?_
  refine va_get (D := D) (ci := 0) (v := .ref a1) (C := RX0) (T := TX0) (N := 8) hx hb hts hinX0 hown hE.1 hP 0 rfl rfl 0 (by decide) (hts _ (List.mem_of_getElem? (i := 1) rfl)) (fun _ h9 => h9) rfl dX0_placeAt_1 ?_
  refine lv_iload_n hx hb dX0_placeAt_4 rfl (lv_at hl 1 rfl) ?_
  refine kRi (rSN C0 (tX4_numberAt l D cI cS a1 6 pl v1 (by decide)) "VaguePort" ggX0_placeAt_X4_numberAt rfl ⟨rfl, rfl⟩ (List.mem_of_getElem? (i := 9) rfl) (List.mem_of_getElem? (i := 3) rfl) (List.mem_of_getElem? (i := 2) rfl) pdX4_numberAt rfl ⟨Nat.le_of_ble_eq_true rfl, Nat.le_of_ble_eq_true rfl⟩ (fun _ _ _ _ q => va_X.call q) (fun U hU hW _ => by rw [hU]; exact (hP.X hE 1 rfl).moved hW.alike) hl.1 rfl (Nat.le_of_ble_eq_true rfl) dX0_placeAt_5 ⟨Nat.zero_le _, Nat.zero_le _⟩) ?_
  exact eRi C0 h dX0_placeAt_8
def fX0_setPlace (pl : Nat → Int32) (v1 : Int32) (v2 : Int32) : (Nat → Int32) := (fX4_putAt 6 pl v1 v2)
abbrev rmX0_setPlace : Room := { frames := 1, cells := 0, slots := 0, locals := 22 }
theorem pdX0_setPlace : (yX0_setPlace.cls = RX0 ∧ yX0_setPlace.cls ≠ "java/lang/invoke/MethodHandle" ∧ yX0_setPlace.cls ≠ "java/lang/invoke/VarHandle" ∧ (parseMethodDescriptor yX0_setPlace.desc).map (fun d => d.parameters.length) = some 2) := by decide +kernel
set_option maxHeartbeats 4000000 in
set_option maxRecDepth 100000 in
theorem tX0_setPlace (l : Launch) (D : va_G) (cI cS : ClassId) (a0 a1 a2 a3 a4 : Nat) (pl : Nat → Int32) (sp : Nat → Int32) (sy : Nat → Int32) (sh : Nat → Int32) (sc : Int32) (nc : Int32) (dy : Int32) (zz : Int32) (v1 : Int32) (v2 : Int32) (z0 : Nat → Int32) (h : fX0_setPlace pl v1 v2 = z0) (hD0 : va_D (fun _ => True) (wX0 cI cS a0 a1 a2 a3 a4 pl sp sy sh sc nc dy zz)) : Met l yX0_setPlace wsX0_setPlace rmX0_setPlace (PZ D cI cS [.ref a0, .int v1, .int v2] (fun U => va_P D vwCl (wX0 cI cS a0 a1 a2 a3 a4 pl sp sy sh sc nc dy zz) U.heap)) (qV D (wX0 cI cS a0 a1 a2 a3 a4 pl sp sy sh sc nc dy zz) (wX0 cI cS a0 a1 a2 a3 a4 z0 sp sy sh sc nc dy zz)) 0 0 (wA (wX0 cI cS a0 a1 a2 a3 a4 pl sp sy sh sc nc dy zz)) := by
  refine Met.mk RX0 (by decide) rfl rfl (Nat.le_of_ble_eq_true rfl) ?_
  intro p e s m below meth c ls C0 hP hl
  have hl : lv_has ls 3 [(0, .ref a0), (1, .int v1), (2, .int v2)] := hl
  obtain ⟨hx, hb, hr, hml, hown, hts, hlk, hE⟩ := id C0
  have hinX0 : ∀ w ∈ u_ws RX0 TX0 8, w ∈ wsX0_setPlace := by decide +kernel
  have hD : ∀ W : va_W, W.map Prod.fst = [a0, a1, a2, a3, a4] → va_D (wA (wX0 cI cS a0 a1 a2 a3 a4 pl sp sy sh sc nc dy zz)) W := fun W hW => hD0.own.re hW
  have hS : va_S (wA (wX0 cI cS a0 a1 a2 a3 a4 pl sp sy sh sc nc dy zz)) s.heap s.heap [] := va_S.rf
  have hP : va_P D vwCl (wX0 cI cS a0 a1 a2 a3 a4 pl sp sy sh sc nc dy zz) s.heap := hP
  rw [fX0_setPlace] at h
  refine lv_aload_n hx hb dX0_setPlace_0 rfl (lv_at hl 0 rfl) ?_
  refine va_get (D := D) (ci := 0) (v := .ref a1) (C := RX0) (T := TX0) (N := 8) hx hb hts hinX0 hown hE.1 hP 0 rfl rfl 0 (by decide) (hts _ (List.mem_of_getElem? (i := 1) rfl)) (fun _ h9 => h9) rfl dX0_setPlace_1 ?_
  refine lv_iload_n hx hb dX0_setPlace_4 rfl (lv_at hl 1 rfl) ?_
  refine lv_iload_n hx hb dX0_setPlace_5 rfl (lv_at hl 2 rfl) ?_
  have hPc := hP.sub (ws' := [(a1, .inl (cI, 6, .inl pl))]) [1] rfl
  refine kMv (wf' := (wX0 cI cS a0 a1 a2 a3 a4 (fX4_putAt 6 pl v1 v2) sp sy sh sc nc dy zz)) [1] [none, some 0, none, none, none] (rSN C0 (tX4_putAt l D cI cS a1 6 pl v1 v2 (by decide)) "VaguePort" ggX0_setPlace_X4_putAt rfl ⟨rfl, rfl⟩ (List.mem_of_getElem? (i := 10) rfl) (List.mem_of_getElem? (i := 3) rfl) (List.mem_of_getElem? (i := 2) rfl) pdX4_putAt rfl ⟨Nat.le_of_ble_eq_true rfl, Nat.le_of_ble_eq_true rfl⟩ (fun _ _ _ _ q => q) (fun U hU _ _ => by rw [hU]; exact hPc) hl.1 rfl (Nat.le_of_ble_eq_true rfl) dX0_setPlace_6 ⟨Nat.zero_le _, Nat.zero_le _⟩) hP (hD _ rfl) hS rfl rfl rfl (fun H locs hP hS => ?_)
  subst h
  exact eMv C0 hP hS rfl dX0_setPlace_9
def fX0_placeOfDay (dy : Int32) : Int32 := (dy - dy / 6 * 6)
abbrev rmX0_placeOfDay : Room := { frames := 0, cells := 0, slots := 0, locals := 0 }
theorem pdX0_placeOfDay : (yX0_placeOfDay.cls = RX0 ∧ yX0_placeOfDay.cls ≠ "java/lang/invoke/MethodHandle" ∧ yX0_placeOfDay.cls ≠ "java/lang/invoke/VarHandle" ∧ (parseMethodDescriptor yX0_placeOfDay.desc).map (fun d => d.parameters.length) = some 0) := by decide +kernel
set_option maxHeartbeats 4000000 in
set_option maxRecDepth 100000 in
theorem tX0_placeOfDay (l : Launch) (D : va_G) (cI cS : ClassId) (a0 a1 a2 a3 a4 : Nat) (pl : Nat → Int32) (sp : Nat → Int32) (sy : Nat → Int32) (sh : Nat → Int32) (sc : Int32) (nc : Int32) (dy : Int32) (zz : Int32) (z0 : Int32) (h : fX0_placeOfDay dy = z0) : Met l yX0_placeOfDay wsX0_placeOfDay rmX0_placeOfDay (PZ D cI cS [.ref a0] (fun U => va_P D vwCl (wX0 cI cS a0 a1 a2 a3 a4 pl sp sy sh sc nc dy zz) U.heap)) (vp_Si (fun x => x = z0)) 0 0 (fun _ => False) := by
  refine Met.mk RX0 (by decide) rfl rfl (Nat.le_of_ble_eq_true rfl) ?_
  intro p e s m below meth c ls C0 hP hl
  have hl : lv_has ls 1 [(0, .ref a0)] := hl
  obtain ⟨hx, hb, hr, hml, hown, hts, hlk, hE⟩ := id C0
  have hinX0 : ∀ w ∈ u_ws RX0 TX0 8, w ∈ wsX0_placeOfDay := by decide +kernel
  rw [fX0_placeOfDay] at h
  refine lv_aload_n hx hb dX0_placeOfDay_0 rfl (lv_at hl 0 rfl) ?_
  refine va_get (D := D) (ci := 0) (v := .int dy) (C := RX0) (T := TX0) (N := 8) hx hb hts hinX0 hown hE.1 hP 0 rfl rfl 6 (by decide) (hts _ (List.mem_of_getElem? (i := 1) rfl)) (fun _ h9 => h9) rfl dX0_placeOfDay_1 ?_
  refine lv_bipush (v := 6) hx hb dX0_placeOfDay_4 (by decide) ?_
  refine lv_irem hx hb dX0_placeOfDay_6 (by decide) ?_
  exact eRi C0 h dX0_placeOfDay_7
def fX0_heldIn (sp : Nat → Int32) (v1 : Int32) : Int32 := (fX4_numberAt 10 sp v1)
abbrev rmX0_heldIn : Room := { frames := 1, cells := 0, slots := 0, locals := 21 }
theorem pdX0_heldIn : (yX0_heldIn.cls = RX0 ∧ yX0_heldIn.cls ≠ "java/lang/invoke/MethodHandle" ∧ yX0_heldIn.cls ≠ "java/lang/invoke/VarHandle" ∧ (parseMethodDescriptor yX0_heldIn.desc).map (fun d => d.parameters.length) = some 1) := by decide +kernel
set_option maxHeartbeats 4000000 in
set_option maxRecDepth 100000 in
theorem tX0_heldIn (l : Launch) (D : va_G) (cI cS : ClassId) (a0 a1 a2 a3 a4 : Nat) (pl : Nat → Int32) (sp : Nat → Int32) (sy : Nat → Int32) (sh : Nat → Int32) (sc : Int32) (nc : Int32) (dy : Int32) (zz : Int32) (v1 : Int32) (z0 : Int32) (h : fX0_heldIn sp v1 = z0) : Met l yX0_heldIn wsX0_heldIn rmX0_heldIn (PZ D cI cS [.ref a0, .int v1] (fun U => va_P D vwCl (wX0 cI cS a0 a1 a2 a3 a4 pl sp sy sh sc nc dy zz) U.heap)) (vp_Si (fun x => x = z0)) 0 0 (fun _ => False) := by
  refine Met.mk RX0 (by decide) rfl rfl (Nat.le_of_ble_eq_true rfl) ?_
  intro p e s m below meth c ls C0 hP hl
  have hl : lv_has ls 2 [(0, .ref a0), (1, .int v1)] := hl
  obtain ⟨hx, hb, hr, hml, hown, hts, hlk, hE⟩ := id C0
  have hinX0 : ∀ w ∈ u_ws RX0 TX0 8, w ∈ wsX0_heldIn := by decide +kernel
  rw [fX0_heldIn] at h
  refine lv_aload_n hx hb dX0_heldIn_0 rfl (lv_at hl 0 rfl) ?_
  refine va_get (D := D) (ci := 0) (v := .ref a2) (C := RX0) (T := TX0) (N := 8) hx hb hts hinX0 hown hE.1 hP 0 rfl rfl 1 (by decide) (hts _ (List.mem_of_getElem? (i := 1) rfl)) (fun _ h9 => h9) rfl dX0_heldIn_1 ?_
  refine lv_iload_n hx hb dX0_heldIn_4 rfl (lv_at hl 1 rfl) ?_
  refine kRi (rSN C0 (tX4_numberAt l D cI cS a2 10 sp v1 (by decide)) "VaguePort" ggX0_heldIn_X4_numberAt rfl ⟨rfl, rfl⟩ (List.mem_of_getElem? (i := 9) rfl) (List.mem_of_getElem? (i := 3) rfl) (List.mem_of_getElem? (i := 2) rfl) pdX4_numberAt rfl ⟨Nat.le_of_ble_eq_true rfl, Nat.le_of_ble_eq_true rfl⟩ (fun _ _ _ _ q => va_X.call q) (fun U hU hW _ => by rw [hU]; exact (hP.X hE 2 rfl).moved hW.alike) hl.1 rfl (Nat.le_of_ble_eq_true rfl) dX0_heldIn_5 ⟨Nat.zero_le _, Nat.zero_le _⟩) ?_
  exact eRi C0 h dX0_heldIn_8
def fX0_setHeld (sp : Nat → Int32) (v1 : Int32) (v2 : Int32) : (Nat → Int32) := (fX4_putAt 10 sp v1 v2)
abbrev rmX0_setHeld : Room := { frames := 1, cells := 0, slots := 0, locals := 22 }
theorem pdX0_setHeld : (yX0_setHeld.cls = RX0 ∧ yX0_setHeld.cls ≠ "java/lang/invoke/MethodHandle" ∧ yX0_setHeld.cls ≠ "java/lang/invoke/VarHandle" ∧ (parseMethodDescriptor yX0_setHeld.desc).map (fun d => d.parameters.length) = some 2) := by decide +kernel
set_option maxHeartbeats 4000000 in
set_option maxRecDepth 100000 in
theorem tX0_setHeld (l : Launch) (D : va_G) (cI cS : ClassId) (a0 a1 a2 a3 a4 : Nat) (pl : Nat → Int32) (sp : Nat → Int32) (sy : Nat → Int32) (sh : Nat → Int32) (sc : Int32) (nc : Int32) (dy : Int32) (zz : Int32) (v1 : Int32) (v2 : Int32) (z0 : Nat → Int32) (h : fX0_setHeld sp v1 v2 = z0) (hD0 : va_D (fun _ => True) (wX0 cI cS a0 a1 a2 a3 a4 pl sp sy sh sc nc dy zz)) : Met l yX0_setHeld wsX0_setHeld rmX0_setHeld (PZ D cI cS [.ref a0, .int v1, .int v2] (fun U => va_P D vwCl (wX0 cI cS a0 a1 a2 a3 a4 pl sp sy sh sc nc dy zz) U.heap)) (qV D (wX0 cI cS a0 a1 a2 a3 a4 pl sp sy sh sc nc dy zz) (wX0 cI cS a0 a1 a2 a3 a4 pl z0 sy sh sc nc dy zz)) 0 0 (wA (wX0 cI cS a0 a1 a2 a3 a4 pl sp sy sh sc nc dy zz)) := by
  refine Met.mk RX0 (by decide) rfl rfl (Nat.le_of_ble_eq_true rfl) ?_
  intro p e s m below meth c ls C0 hP hl
  have hl : lv_has ls 3 [(0, .ref a0), (1, .int v1), (2, .int v2)] := hl
  obtain ⟨hx, hb, hr, hml, hown, hts, hlk, hE⟩ := id C0
  have hinX0 : ∀ w ∈ u_ws RX0 TX0 8, w ∈ wsX0_setHeld := by decide +kernel
  have hD : ∀ W : va_W, W.map Prod.fst = [a0, a1, a2, a3, a4] → va_D (wA (wX0 cI cS a0 a1 a2 a3 a4 pl sp sy sh sc nc dy zz)) W := fun W hW => hD0.own.re hW
  have hS : va_S (wA (wX0 cI cS a0 a1 a2 a3 a4 pl sp sy sh sc nc dy zz)) s.heap s.heap [] := va_S.rf
  have hP : va_P D vwCl (wX0 cI cS a0 a1 a2 a3 a4 pl sp sy sh sc nc dy zz) s.heap := hP
  rw [fX0_setHeld] at h
  refine lv_aload_n hx hb dX0_setHeld_0 rfl (lv_at hl 0 rfl) ?_
  refine va_get (D := D) (ci := 0) (v := .ref a2) (C := RX0) (T := TX0) (N := 8) hx hb hts hinX0 hown hE.1 hP 0 rfl rfl 1 (by decide) (hts _ (List.mem_of_getElem? (i := 1) rfl)) (fun _ h9 => h9) rfl dX0_setHeld_1 ?_
  refine lv_iload_n hx hb dX0_setHeld_4 rfl (lv_at hl 1 rfl) ?_
  refine lv_iload_n hx hb dX0_setHeld_5 rfl (lv_at hl 2 rfl) ?_
  have hPc := hP.sub (ws' := [(a2, .inl (cI, 10, .inl sp))]) [2] rfl
  refine kMv (wf' := (wX0 cI cS a0 a1 a2 a3 a4 pl (fX4_putAt 10 sp v1 v2) sy sh sc nc dy zz)) [2] [none, none, some 0, none, none] (rSN C0 (tX4_putAt l D cI cS a2 10 sp v1 v2 (by decide)) "VaguePort" ggX0_setHeld_X4_putAt rfl ⟨rfl, rfl⟩ (List.mem_of_getElem? (i := 10) rfl) (List.mem_of_getElem? (i := 3) rfl) (List.mem_of_getElem? (i := 2) rfl) pdX4_putAt rfl ⟨Nat.le_of_ble_eq_true rfl, Nat.le_of_ble_eq_true rfl⟩ (fun _ _ _ _ q => q) (fun U hU _ _ => by rw [hU]; exact hPc) hl.1 rfl (Nat.le_of_ble_eq_true rfl) dX0_setHeld_6 ⟨Nat.zero_le _, Nat.zero_le _⟩) hP (hD _ rfl) hS rfl rfl rfl (fun H locs hP hS => ?_)
  subst h
  exact eMv C0 hP hS rfl dX0_setHeld_9
def fX0_spotsThatHold_13 (sp : Nat → Int32) (v3 : Int32) : Nat → Int32 → Int32 → Option (Int32)
  | 0, _, _ => none
  | n + 1, v1, v4 => (if v3 ≤ v4 then some v1 else if ¬ (v4 < 0 ∨ 10 ≤ v4.toNatClampNeg) then (if (sp v4.toNatClampNeg) = (-1) then fX0_spotsThatHold_13 sp v3 n v1 (v4 + 1) else fX0_spotsThatHold_13 sp v3 n (v1 + 1) (v4 + 1)) else none)
def fX0_spotsThatHold (F : Nat) (sp : Nat → Int32) : Option (Int32) := fX0_spotsThatHold_13 sp 10 F 0 0
abbrev rmX0_spotsThatHold : Room := { frames := 0, cells := 0, slots := 0, locals := 0 }
theorem pdX0_spotsThatHold : (yX0_spotsThatHold.cls = RX0 ∧ yX0_spotsThatHold.cls ≠ "java/lang/invoke/MethodHandle" ∧ yX0_spotsThatHold.cls ≠ "java/lang/invoke/VarHandle" ∧ (parseMethodDescriptor yX0_spotsThatHold.desc).map (fun d => d.parameters.length) = some 0) := by decide +kernel
set_option maxHeartbeats 4000000 in
set_option maxRecDepth 100000 in
theorem lX0_spotsThatHold_13 {p : Program} {l : Launch} {e : Env} {s : State} {m : MethodId} {av : Array Value} {below : List Frame} {meth : Method} {c : Code} {D : va_G} {cI cS : ClassId} {a0 a1 a2 a3 a4 : Nat} (C0 : CX p s m av meth c RX0 cX0_spotsThatHold 6 (some .int) wsX0_spotsThatHold D cI cS) (F : Nat) (pl : Nat → Int32) (sp : Nat → Int32) (sy : Nat → Int32) (sh : Nat → Int32) (sc : Int32) (nc : Int32) (dy : Int32) (zz : Int32) (v3 : Int32) (z0 : Int32) (hP : va_P D vwCl (wX0 cI cS a0 a1 a2 a3 a4 pl sp sy sh sc nc dy zz) s.heap) : ∀ (n : Nat) (v1 : Int32) (v4 : Int32), ∀ (ls : Array Slot), lv_has ls 6 [(1, .int v1), (2, .ref a2), (3, .int v3), (4, .int v4)] → fX0_spotsThatHold_13 sp v3 n v1 v4 = some z0 → W p l e rmX0_spotsThatHold s m av below meth c s.heap [] 0 0 (MQ below (vp_Si (fun x => x = z0)) av s 0 0 (fun _ => False)) (F0 m 13 ls []) := by
  obtain ⟨hx, hb, hr, hml, hown, hts, hlk, hE⟩ := id C0
  have hinX0 : ∀ w ∈ u_ws RX0 TX0 8, w ∈ wsX0_spotsThatHold := by decide +kernel
  intro n
  induction n with
  | zero =>
    intro v1 v4 ls hl h
    cases (show none = some z0 from h)
  | succ n ih =>
    intro v1 v4 ls hl h
    rw [fX0_spotsThatHold_13] at h
    refine lv_iload hx hb dX0_spotsThatHold_13 (lv_at hl 3 rfl) ?_
    refine lv_iload_n hx hb dX0_spotsThatHold_15 rfl (lv_at hl 2 rfl) ?_
    refine lv_icmp_ge (tgt := 40) hx hb dX0_spotsThatHold_16 (by decide) (fun c_1 => ?_) (fun c_1 => ?_)
    · have h := ifp c_1 h
      refine lv_iload_n hx hb dX0_spotsThatHold_40 rfl (lv_at hl 0 rfl) ?_
      exact eRi C0 (Option.some.inj h) dX0_spotsThatHold_41
    · have h := ifn c_1 h
      refine lv_aload_n hx hb dX0_spotsThatHold_19 rfl (lv_at hl 1 rfl) ?_
      refine lv_iload hx hb dX0_spotsThatHold_20 (lv_at hl 3 rfl) ?_
      obtain ⟨hi_2, h⟩ := ifs h
      refine va_iald hx hb hE.1 hP 2 0 rfl rfl hi_2 dX0_spotsThatHold_22 ?_
      refine lv_istore (lv' := [(5, .int (sp v4.toNatClampNeg)), (1, .int v1), (2, .ref a2), (3, .int v3), (4, .int v4)]) hx hb dX0_spotsThatHold_23 hl (by decide) rfl (fun ls hl => ?_)
      refine lv_iload hx hb dX0_spotsThatHold_25 (lv_at hl 0 rfl) ?_
      refine lv_iconst (v := (-1)) hx hb dX0_spotsThatHold_27 (by decide) ?_
      refine lv_icmp_eq (tgt := 34) hx hb dX0_spotsThatHold_28 (by decide) (fun c_3 => ?_) (fun c_3 => ?_)
      · have h := ifp c_3 h
        refine lv_iinc (v := v4 + 1) (lv' := [(4, .int (v4 + 1)), (5, .int (sp v4.toNatClampNeg)), (1, .int v1), (2, .ref a2), (3, .int v3)]) hx hb dX0_spotsThatHold_34 hl (k := 4) rfl rfl (by decide) rfl (fun ls hl => ?_)
        refine lv_goto (tgt := 13) hx hb dX0_spotsThatHold_37 (by decide) ?_
        exact ih v1 (v4 + 1) _ (lv_sub hl [2, 3, 4, 0] rfl) h
      · have h := ifn c_3 h
        refine lv_iinc (v := v1 + 1) (lv' := [(1, .int (v1 + 1)), (5, .int (sp v4.toNatClampNeg)), (2, .ref a2), (3, .int v3), (4, .int v4)]) hx hb dX0_spotsThatHold_31 hl (k := 1) rfl rfl (by decide) rfl (fun ls hl => ?_)
        refine lv_iinc (v := v4 + 1) (lv' := [(4, .int (v4 + 1)), (1, .int (v1 + 1)), (5, .int (sp v4.toNatClampNeg)), (2, .ref a2), (3, .int v3)]) hx hb dX0_spotsThatHold_34 hl (k := 4) rfl rfl (by decide) rfl (fun ls hl => ?_)
        refine lv_goto (tgt := 13) hx hb dX0_spotsThatHold_37 (by decide) ?_
        exact ih (v1 + 1) (v4 + 1) _ (lv_sub hl [1, 3, 4, 0] rfl) h
set_option maxHeartbeats 4000000 in
set_option maxRecDepth 100000 in
theorem tX0_spotsThatHold (l : Launch) (D : va_G) (cI cS : ClassId) (F : Nat) (a0 a1 a2 a3 a4 : Nat) (pl : Nat → Int32) (sp : Nat → Int32) (sy : Nat → Int32) (sh : Nat → Int32) (sc : Int32) (nc : Int32) (dy : Int32) (zz : Int32) (z0 : Int32) (h : fX0_spotsThatHold F sp = some z0) : Met l yX0_spotsThatHold wsX0_spotsThatHold rmX0_spotsThatHold (PZ D cI cS [.ref a0] (fun U => va_P D vwCl (wX0 cI cS a0 a1 a2 a3 a4 pl sp sy sh sc nc dy zz) U.heap)) (vp_Si (fun x => x = z0)) 0 0 (fun _ => False) := by
  refine Met.mk RX0 (by decide) rfl rfl (Nat.le_of_ble_eq_true rfl) ?_
  intro p e s m below meth c ls C0 hP hl
  have hl : lv_has ls 6 [(0, .ref a0)] := hl
  obtain ⟨hx, hb, hr, hml, hown, hts, hlk, hE⟩ := id C0
  have hinX0 : ∀ w ∈ u_ws RX0 TX0 8, w ∈ wsX0_spotsThatHold := by decide +kernel
  rw [fX0_spotsThatHold] at h
  refine lv_iconst (v := 0) hx hb dX0_spotsThatHold_0 (by decide) ?_
  refine lv_istore_n (lv' := [(1, .int 0), (0, .ref a0)]) hx hb dX0_spotsThatHold_1 rfl hl (by decide) rfl (fun ls hl => ?_)
  refine lv_aload_n hx hb dX0_spotsThatHold_2 rfl (lv_at hl 1 rfl) ?_
  refine va_get (D := D) (ci := 0) (v := .ref a2) (C := RX0) (T := TX0) (N := 8) hx hb hts hinX0 hown hE.1 hP 0 rfl rfl 1 (by decide) (hts _ (List.mem_of_getElem? (i := 1) rfl)) (fun _ h9 => h9) rfl dX0_spotsThatHold_3 ?_
  refine lv_astore_n (lv' := [(2, .ref a2), (1, .int 0), (0, .ref a0)]) hx hb dX0_spotsThatHold_6 rfl hl (by decide) rfl (fun ls hl => ?_)
  refine lv_aload_n hx hb dX0_spotsThatHold_7 rfl (lv_at hl 0 rfl) ?_
  refine va_alen (v := 10) hx hb hE.1 hP 2 0 rfl rfl rfl dX0_spotsThatHold_8 ?_
  refine lv_istore_n (lv' := [(3, .int 10), (2, .ref a2), (1, .int 0), (0, .ref a0)]) hx hb dX0_spotsThatHold_9 rfl hl (by decide) rfl (fun ls hl => ?_)
  refine lv_iconst (v := 0) hx hb dX0_spotsThatHold_10 (by decide) ?_
  refine lv_istore (lv' := [(4, .int 0), (3, .int 10), (2, .ref a2), (1, .int 0), (0, .ref a0)]) hx hb dX0_spotsThatHold_11 hl (by decide) rfl (fun ls hl => ?_)
  exact lX0_spotsThatHold_13 (l := l) (e := e) (below := below) C0 F pl sp sy sh sc nc dy zz 10 z0 hP F 0 0 _ (lv_sub hl [3, 2, 1, 0] rfl) h
def fX0_hasSaying (sc : Int32) (v1 : Int32) : Int32 := (fX4_within v1 0 (sc - 1))
abbrev rmX0_hasSaying : Room := { frames := 1, cells := 0, slots := 0, locals := 22 }
theorem pdX0_hasSaying : (yX0_hasSaying.cls = RX0 ∧ yX0_hasSaying.cls ≠ "java/lang/invoke/MethodHandle" ∧ yX0_hasSaying.cls ≠ "java/lang/invoke/VarHandle" ∧ (parseMethodDescriptor yX0_hasSaying.desc).map (fun d => d.parameters.length) = some 1) := by decide +kernel
set_option maxHeartbeats 4000000 in
set_option maxRecDepth 100000 in
theorem tX0_hasSaying (l : Launch) (D : va_G) (cI cS : ClassId) (a0 a1 a2 a3 a4 : Nat) (pl : Nat → Int32) (sp : Nat → Int32) (sy : Nat → Int32) (sh : Nat → Int32) (sc : Int32) (nc : Int32) (dy : Int32) (zz : Int32) (v1 : Int32) (z0 : Int32) (h : fX0_hasSaying sc v1 = z0) : Met l yX0_hasSaying wsX0_hasSaying rmX0_hasSaying (PZ D cI cS [.ref a0, .int v1] (fun U => va_P D vwCl (wX0 cI cS a0 a1 a2 a3 a4 pl sp sy sh sc nc dy zz) U.heap)) (vp_Si (fun x => x = z0)) 0 0 (fun _ => False) := by
  refine Met.mk RX0 (by decide) rfl rfl (Nat.le_of_ble_eq_true rfl) ?_
  intro p e s m below meth c ls C0 hP hl
  have hl : lv_has ls 2 [(0, .ref a0), (1, .int v1)] := hl
  obtain ⟨hx, hb, hr, hml, hown, hts, hlk, hE⟩ := id C0
  have hinX0 : ∀ w ∈ u_ws RX0 TX0 8, w ∈ wsX0_hasSaying := by decide +kernel
  rw [fX0_hasSaying] at h
  refine lv_iload_n hx hb dX0_hasSaying_0 rfl (lv_at hl 1 rfl) ?_
  refine lv_iconst (v := 0) hx hb dX0_hasSaying_1 (by decide) ?_
  refine lv_aload_n hx hb dX0_hasSaying_2 rfl (lv_at hl 0 rfl) ?_
  refine va_get (D := D) (ci := 0) (v := .int sc) (C := RX0) (T := TX0) (N := 8) hx hb hts hinX0 hown hE.1 hP 0 rfl rfl 4 (by decide) (hts _ (List.mem_of_getElem? (i := 1) rfl)) (fun _ h9 => h9) rfl dX0_hasSaying_3 ?_
  refine lv_iconst (v := 1) hx hb dX0_hasSaying_6 (by decide) ?_
  refine lv_isub hx hb dX0_hasSaying_7 ?_
  refine kRi (rSN C0 (tX4_within l D cI cS v1 0 (sc - 1) (fX4_within v1 0 (sc - 1)) rfl) "VaguePort" ggX0_hasSaying_X4_within rfl ⟨rfl, rfl⟩ (List.mem_of_getElem? (i := 11) rfl) (List.mem_of_getElem? (i := 3) rfl) (List.mem_of_getElem? (i := 2) rfl) pdX4_within rfl ⟨Nat.le_of_ble_eq_true rfl, Nat.le_of_ble_eq_true rfl⟩ (fun _ _ _ _ q => q) (fun _ _ _ _ => vp0) hl.1 rfl (Nat.le_of_ble_eq_true rfl) dX0_hasSaying_8 ⟨Nat.zero_le _, Nat.zero_le _⟩) ?_
  exact eRz C0 (zzX4_within ..) h dX0_hasSaying_11
theorem zzX0_hasSaying (sc : Int32) (v1 : Int32) : narrow .boolean (.int (fX0_hasSaying sc v1)) = .int (fX0_hasSaying sc v1) := zzX4_within ..
def fX0_hasShip (nc : Int32) (v1 : Int32) : Int32 := (fX4_within v1 0 (nc - 1))
abbrev rmX0_hasShip : Room := { frames := 1, cells := 0, slots := 0, locals := 22 }
theorem pdX0_hasShip : (yX0_hasShip.cls = RX0 ∧ yX0_hasShip.cls ≠ "java/lang/invoke/MethodHandle" ∧ yX0_hasShip.cls ≠ "java/lang/invoke/VarHandle" ∧ (parseMethodDescriptor yX0_hasShip.desc).map (fun d => d.parameters.length) = some 1) := by decide +kernel
set_option maxHeartbeats 4000000 in
set_option maxRecDepth 100000 in
theorem tX0_hasShip (l : Launch) (D : va_G) (cI cS : ClassId) (a0 a1 a2 a3 a4 : Nat) (pl : Nat → Int32) (sp : Nat → Int32) (sy : Nat → Int32) (sh : Nat → Int32) (sc : Int32) (nc : Int32) (dy : Int32) (zz : Int32) (v1 : Int32) (z0 : Int32) (h : fX0_hasShip nc v1 = z0) : Met l yX0_hasShip wsX0_hasShip rmX0_hasShip (PZ D cI cS [.ref a0, .int v1] (fun U => va_P D vwCl (wX0 cI cS a0 a1 a2 a3 a4 pl sp sy sh sc nc dy zz) U.heap)) (vp_Si (fun x => x = z0)) 0 0 (fun _ => False) := by
  refine Met.mk RX0 (by decide) rfl rfl (Nat.le_of_ble_eq_true rfl) ?_
  intro p e s m below meth c ls C0 hP hl
  have hl : lv_has ls 2 [(0, .ref a0), (1, .int v1)] := hl
  obtain ⟨hx, hb, hr, hml, hown, hts, hlk, hE⟩ := id C0
  have hinX0 : ∀ w ∈ u_ws RX0 TX0 8, w ∈ wsX0_hasShip := by decide +kernel
  rw [fX0_hasShip] at h
  refine lv_iload_n hx hb dX0_hasShip_0 rfl (lv_at hl 1 rfl) ?_
  refine lv_iconst (v := 0) hx hb dX0_hasShip_1 (by decide) ?_
  refine lv_aload_n hx hb dX0_hasShip_2 rfl (lv_at hl 0 rfl) ?_
  refine va_get (D := D) (ci := 0) (v := .int nc) (C := RX0) (T := TX0) (N := 8) hx hb hts hinX0 hown hE.1 hP 0 rfl rfl 5 (by decide) (hts _ (List.mem_of_getElem? (i := 1) rfl)) (fun _ h9 => h9) rfl dX0_hasShip_3 ?_
  refine lv_iconst (v := 1) hx hb dX0_hasShip_6 (by decide) ?_
  refine lv_isub hx hb dX0_hasShip_7 ?_
  refine kRi (rSN C0 (tX4_within l D cI cS v1 0 (nc - 1) (fX4_within v1 0 (nc - 1)) rfl) "VaguePort" ggX0_hasShip_X4_within rfl ⟨rfl, rfl⟩ (List.mem_of_getElem? (i := 11) rfl) (List.mem_of_getElem? (i := 3) rfl) (List.mem_of_getElem? (i := 2) rfl) pdX4_within rfl ⟨Nat.le_of_ble_eq_true rfl, Nat.le_of_ble_eq_true rfl⟩ (fun _ _ _ _ q => q) (fun _ _ _ _ => vp0) hl.1 rfl (Nat.le_of_ble_eq_true rfl) dX0_hasShip_8 ⟨Nat.zero_le _, Nat.zero_le _⟩) ?_
  exact eRz C0 (zzX4_within ..) h dX0_hasShip_11
theorem zzX0_hasShip (nc : Int32) (v1 : Int32) : narrow .boolean (.int (fX0_hasShip nc v1)) = .int (fX0_hasShip nc v1) := zzX4_within ..
def fX0_setOfSaying (sy : Nat → Int32) (v1 : Int32) (v2 : Int32) (v3 : Int32) : (Nat → Int32) := (fX4_putAt 40 sy ((v1 * 5) + v2) v3)
abbrev rmX0_setOfSaying : Room := { frames := 1, cells := 0, slots := 0, locals := 22 }
theorem pdX0_setOfSaying : (yX0_setOfSaying.cls = RX0 ∧ yX0_setOfSaying.cls ≠ "java/lang/invoke/MethodHandle" ∧ yX0_setOfSaying.cls ≠ "java/lang/invoke/VarHandle" ∧ (parseMethodDescriptor yX0_setOfSaying.desc).map (fun d => d.parameters.length) = some 3) := by decide +kernel
set_option maxHeartbeats 4000000 in
set_option maxRecDepth 100000 in
theorem tX0_setOfSaying (l : Launch) (D : va_G) (cI cS : ClassId) (a0 a1 a2 a3 a4 : Nat) (pl : Nat → Int32) (sp : Nat → Int32) (sy : Nat → Int32) (sh : Nat → Int32) (sc : Int32) (nc : Int32) (dy : Int32) (zz : Int32) (v1 : Int32) (v2 : Int32) (v3 : Int32) (z0 : Nat → Int32) (h : fX0_setOfSaying sy v1 v2 v3 = z0) (hD0 : va_D (fun _ => True) (wX0 cI cS a0 a1 a2 a3 a4 pl sp sy sh sc nc dy zz)) : Met l yX0_setOfSaying wsX0_setOfSaying rmX0_setOfSaying (PZ D cI cS [.ref a0, .int v1, .int v2, .int v3] (fun U => va_P D vwCl (wX0 cI cS a0 a1 a2 a3 a4 pl sp sy sh sc nc dy zz) U.heap)) (qV D (wX0 cI cS a0 a1 a2 a3 a4 pl sp sy sh sc nc dy zz) (wX0 cI cS a0 a1 a2 a3 a4 pl sp z0 sh sc nc dy zz)) 0 0 (wA (wX0 cI cS a0 a1 a2 a3 a4 pl sp sy sh sc nc dy zz)) := by
  refine Met.mk RX0 (by decide) rfl rfl (Nat.le_of_ble_eq_true rfl) ?_
  intro p e s m below meth c ls C0 hP hl
  have hl : lv_has ls 4 [(0, .ref a0), (1, .int v1), (2, .int v2), (3, .int v3)] := hl
  obtain ⟨hx, hb, hr, hml, hown, hts, hlk, hE⟩ := id C0
  have hinX0 : ∀ w ∈ u_ws RX0 TX0 8, w ∈ wsX0_setOfSaying := by decide +kernel
  have hD : ∀ W : va_W, W.map Prod.fst = [a0, a1, a2, a3, a4] → va_D (wA (wX0 cI cS a0 a1 a2 a3 a4 pl sp sy sh sc nc dy zz)) W := fun W hW => hD0.own.re hW
  have hS : va_S (wA (wX0 cI cS a0 a1 a2 a3 a4 pl sp sy sh sc nc dy zz)) s.heap s.heap [] := va_S.rf
  have hP : va_P D vwCl (wX0 cI cS a0 a1 a2 a3 a4 pl sp sy sh sc nc dy zz) s.heap := hP
  rw [fX0_setOfSaying] at h
  refine lv_aload_n hx hb dX0_setOfSaying_0 rfl (lv_at hl 0 rfl) ?_
  refine va_get (D := D) (ci := 0) (v := .ref a3) (C := RX0) (T := TX0) (N := 8) hx hb hts hinX0 hown hE.1 hP 0 rfl rfl 2 (by decide) (hts _ (List.mem_of_getElem? (i := 1) rfl)) (fun _ h9 => h9) rfl dX0_setOfSaying_1 ?_
  refine lv_iload_n hx hb dX0_setOfSaying_4 rfl (lv_at hl 1 rfl) ?_
  refine lv_iconst (v := 5) hx hb dX0_setOfSaying_5 (by decide) ?_
  refine lv_imul hx hb dX0_setOfSaying_6 ?_
  refine lv_iload_n hx hb dX0_setOfSaying_7 rfl (lv_at hl 2 rfl) ?_
  refine lv_iadd hx hb dX0_setOfSaying_8 ?_
  refine lv_iload_n hx hb dX0_setOfSaying_9 rfl (lv_at hl 3 rfl) ?_
  have hPc := hP.sub (ws' := [(a3, .inl (cI, 40, .inl sy))]) [3] rfl
  refine kMv (wf' := (wX0 cI cS a0 a1 a2 a3 a4 pl sp (fX4_putAt 40 sy ((v1 * 5) + v2) v3) sh sc nc dy zz)) [3] [none, none, none, some 0, none] (rSN C0 (tX4_putAt l D cI cS a3 40 sy ((v1 * 5) + v2) v3 (by decide)) "VaguePort" ggX0_setOfSaying_X4_putAt rfl ⟨rfl, rfl⟩ (List.mem_of_getElem? (i := 10) rfl) (List.mem_of_getElem? (i := 3) rfl) (List.mem_of_getElem? (i := 2) rfl) pdX4_putAt rfl ⟨Nat.le_of_ble_eq_true rfl, Nat.le_of_ble_eq_true rfl⟩ (fun _ _ _ _ q => q) (fun U hU _ _ => by rw [hU]; exact hPc) hl.1 rfl (Nat.le_of_ble_eq_true rfl) dX0_setOfSaying_10 ⟨Nat.zero_le _, Nat.zero_le _⟩) hP (hD _ rfl) hS rfl rfl rfl (fun H locs hP hS => ?_)
  subst h
  exact eMv C0 hP hS rfl dX0_setOfSaying_13
def fX0_setOfShip (sh : Nat → Int32) (v1 : Int32) (v2 : Int32) (v3 : Int32) : (Nat → Int32) := (fX4_putAt 24 sh ((v1 * 4) + v2) v3)
abbrev rmX0_setOfShip : Room := { frames := 1, cells := 0, slots := 0, locals := 22 }
theorem pdX0_setOfShip : (yX0_setOfShip.cls = RX0 ∧ yX0_setOfShip.cls ≠ "java/lang/invoke/MethodHandle" ∧ yX0_setOfShip.cls ≠ "java/lang/invoke/VarHandle" ∧ (parseMethodDescriptor yX0_setOfShip.desc).map (fun d => d.parameters.length) = some 3) := by decide +kernel
set_option maxHeartbeats 4000000 in
set_option maxRecDepth 100000 in
theorem tX0_setOfShip (l : Launch) (D : va_G) (cI cS : ClassId) (a0 a1 a2 a3 a4 : Nat) (pl : Nat → Int32) (sp : Nat → Int32) (sy : Nat → Int32) (sh : Nat → Int32) (sc : Int32) (nc : Int32) (dy : Int32) (zz : Int32) (v1 : Int32) (v2 : Int32) (v3 : Int32) (z0 : Nat → Int32) (h : fX0_setOfShip sh v1 v2 v3 = z0) (hD0 : va_D (fun _ => True) (wX0 cI cS a0 a1 a2 a3 a4 pl sp sy sh sc nc dy zz)) : Met l yX0_setOfShip wsX0_setOfShip rmX0_setOfShip (PZ D cI cS [.ref a0, .int v1, .int v2, .int v3] (fun U => va_P D vwCl (wX0 cI cS a0 a1 a2 a3 a4 pl sp sy sh sc nc dy zz) U.heap)) (qV D (wX0 cI cS a0 a1 a2 a3 a4 pl sp sy sh sc nc dy zz) (wX0 cI cS a0 a1 a2 a3 a4 pl sp sy z0 sc nc dy zz)) 0 0 (wA (wX0 cI cS a0 a1 a2 a3 a4 pl sp sy sh sc nc dy zz)) := by
  refine Met.mk RX0 (by decide) rfl rfl (Nat.le_of_ble_eq_true rfl) ?_
  intro p e s m below meth c ls C0 hP hl
  have hl : lv_has ls 4 [(0, .ref a0), (1, .int v1), (2, .int v2), (3, .int v3)] := hl
  obtain ⟨hx, hb, hr, hml, hown, hts, hlk, hE⟩ := id C0
  have hinX0 : ∀ w ∈ u_ws RX0 TX0 8, w ∈ wsX0_setOfShip := by decide +kernel
  have hD : ∀ W : va_W, W.map Prod.fst = [a0, a1, a2, a3, a4] → va_D (wA (wX0 cI cS a0 a1 a2 a3 a4 pl sp sy sh sc nc dy zz)) W := fun W hW => hD0.own.re hW
  have hS : va_S (wA (wX0 cI cS a0 a1 a2 a3 a4 pl sp sy sh sc nc dy zz)) s.heap s.heap [] := va_S.rf
  have hP : va_P D vwCl (wX0 cI cS a0 a1 a2 a3 a4 pl sp sy sh sc nc dy zz) s.heap := hP
  rw [fX0_setOfShip] at h
  refine lv_aload_n hx hb dX0_setOfShip_0 rfl (lv_at hl 0 rfl) ?_
  refine va_get (D := D) (ci := 0) (v := .ref a4) (C := RX0) (T := TX0) (N := 8) hx hb hts hinX0 hown hE.1 hP 0 rfl rfl 3 (by decide) (hts _ (List.mem_of_getElem? (i := 1) rfl)) (fun _ h9 => h9) rfl dX0_setOfShip_1 ?_
  refine lv_iload_n hx hb dX0_setOfShip_4 rfl (lv_at hl 1 rfl) ?_
  refine lv_iconst (v := 4) hx hb dX0_setOfShip_5 (by decide) ?_
  refine lv_imul hx hb dX0_setOfShip_6 ?_
  refine lv_iload_n hx hb dX0_setOfShip_7 rfl (lv_at hl 2 rfl) ?_
  refine lv_iadd hx hb dX0_setOfShip_8 ?_
  refine lv_iload_n hx hb dX0_setOfShip_9 rfl (lv_at hl 3 rfl) ?_
  have hPc := hP.sub (ws' := [(a4, .inl (cI, 24, .inl sh))]) [4] rfl
  refine kMv (wf' := (wX0 cI cS a0 a1 a2 a3 a4 pl sp sy (fX4_putAt 24 sh ((v1 * 4) + v2) v3) sc nc dy zz)) [4] [none, none, none, none, some 0] (rSN C0 (tX4_putAt l D cI cS a4 24 sh ((v1 * 4) + v2) v3 (by decide)) "VaguePort" ggX0_setOfShip_X4_putAt rfl ⟨rfl, rfl⟩ (List.mem_of_getElem? (i := 10) rfl) (List.mem_of_getElem? (i := 3) rfl) (List.mem_of_getElem? (i := 2) rfl) pdX4_putAt rfl ⟨Nat.le_of_ble_eq_true rfl, Nat.le_of_ble_eq_true rfl⟩ (fun _ _ _ _ q => q) (fun U hU _ _ => by rw [hU]; exact hPc) hl.1 rfl (Nat.le_of_ble_eq_true rfl) dX0_setOfShip_10 ⟨Nat.zero_le _, Nat.zero_le _⟩) hP (hD _ rfl) hS rfl rfl rfl (fun H locs hP hS => ?_)
  subst h
  exact eMv C0 hP hS rfl dX0_setOfShip_13
def fX0_addSaying (sy : Nat → Int32) (sc : Int32) (v1 : Int32) (v2 : Int32) (v3 : Int32) : Int32 × (Nat → Int32) × Int32 := (sc, (fX0_setOfSaying (fX0_setOfSaying (fX0_setOfSaying (fX0_setOfSaying (fX0_setOfSaying sy sc 0 v1) sc 1 v3) sc 2 v2) sc 3 0) sc 4 0), sc + 1)
def fX0_addSaying_o0 (sy : Nat → Int32) (sc : Int32) (v1 : Int32) (v2 : Int32) (v3 : Int32) : Int32 := (fX0_addSaying sy sc v1 v2 v3).1
def fX0_addSaying_o1 (sy : Nat → Int32) (sc : Int32) (v1 : Int32) (v2 : Int32) (v3 : Int32) : Nat → Int32 := (fX0_addSaying sy sc v1 v2 v3).2.1
def fX0_addSaying_o2 (sy : Nat → Int32) (sc : Int32) (v1 : Int32) (v2 : Int32) (v3 : Int32) : Int32 := (fX0_addSaying sy sc v1 v2 v3).2.2
theorem eeX0_addSaying (sy : Nat → Int32) (sc : Int32) (v1 : Int32) (v2 : Int32) (v3 : Int32) : fX0_addSaying sy sc v1 v2 v3 = (fX0_addSaying_o0 sy sc v1 v2 v3, fX0_addSaying_o1 sy sc v1 v2 v3, fX0_addSaying_o2 sy sc v1 v2 v3) := rfl
abbrev rmX0_addSaying : Room := { frames := 2, cells := 0, slots := 0, locals := 45 }
theorem pdX0_addSaying : (yX0_addSaying.cls = RX0 ∧ yX0_addSaying.cls ≠ "java/lang/invoke/MethodHandle" ∧ yX0_addSaying.cls ≠ "java/lang/invoke/VarHandle" ∧ (parseMethodDescriptor yX0_addSaying.desc).map (fun d => d.parameters.length) = some 3) := by decide +kernel
set_option maxHeartbeats 4000000 in
set_option maxRecDepth 100000 in
theorem tX0_addSaying (l : Launch) (D : va_G) (cI cS : ClassId) (a0 a1 a2 a3 a4 : Nat) (pl : Nat → Int32) (sp : Nat → Int32) (sy : Nat → Int32) (sh : Nat → Int32) (sc : Int32) (nc : Int32) (dy : Int32) (zz : Int32) (v1 : Int32) (v2 : Int32) (v3 : Int32) (z0 : Int32) (z1 : Nat → Int32) (z2 : Int32) (h : fX0_addSaying sy sc v1 v2 v3 = (z0, z1, z2)) (hD0 : va_D (fun _ => True) (wX0 cI cS a0 a1 a2 a3 a4 pl sp sy sh sc nc dy zz)) : Met l yX0_addSaying wsX0_addSaying rmX0_addSaying (PZ D cI cS [.ref a0, .int v1, .int v2, .int v3] (fun U => va_P D vwCl (wX0 cI cS a0 a1 a2 a3 a4 pl sp sy sh sc nc dy zz) U.heap)) (qI D (wX0 cI cS a0 a1 a2 a3 a4 pl sp sy sh sc nc dy zz) (wX0 cI cS a0 a1 a2 a3 a4 pl sp z1 sh z2 nc dy zz) z0) 0 0 (wA (wX0 cI cS a0 a1 a2 a3 a4 pl sp sy sh sc nc dy zz)) := by
  refine Met.mk RX0 (by decide) rfl rfl (Nat.le_of_ble_eq_true rfl) ?_
  intro p e s m below meth c ls C0 hP hl
  have hl : lv_has ls 5 [(0, .ref a0), (1, .int v1), (2, .int v2), (3, .int v3)] := hl
  obtain ⟨hx, hb, hr, hml, hown, hts, hlk, hE⟩ := id C0
  have hinX0 : ∀ w ∈ u_ws RX0 TX0 8, w ∈ wsX0_addSaying := by decide +kernel
  have hD : ∀ W : va_W, W.map Prod.fst = [a0, a1, a2, a3, a4] → va_D (wA (wX0 cI cS a0 a1 a2 a3 a4 pl sp sy sh sc nc dy zz)) W := fun W hW => hD0.own.re hW
  have hS : va_S (wA (wX0 cI cS a0 a1 a2 a3 a4 pl sp sy sh sc nc dy zz)) s.heap s.heap [] := va_S.rf
  have hP : va_P D vwCl (wX0 cI cS a0 a1 a2 a3 a4 pl sp sy sh sc nc dy zz) s.heap := hP
  rw [fX0_addSaying] at h
  refine lv_aload_n hx hb dX0_addSaying_0 rfl (lv_at hl 0 rfl) ?_
  refine va_get (D := D) (ci := 0) (v := .int sc) (C := RX0) (T := TX0) (N := 8) hx hb hts hinX0 hown hE.1 hP 0 rfl rfl 4 (by decide) (hts _ (List.mem_of_getElem? (i := 1) rfl)) (fun _ h9 => h9) rfl dX0_addSaying_1 ?_
  refine lv_istore (lv' := [(4, .int sc), (0, .ref a0), (1, .int v1), (2, .int v2), (3, .int v3)]) hx hb dX0_addSaying_4 hl (by decide) rfl (fun ls hl => ?_)
  refine lv_aload_n hx hb dX0_addSaying_6 rfl (lv_at hl 1 rfl) ?_
  refine lv_dup hx hb dX0_addSaying_7 rfl ?_
  refine va_get (D := D) (ci := 0) (v := .int sc) (C := RX0) (T := TX0) (N := 8) hx hb hts hinX0 hown hE.1 hP 0 rfl rfl 4 (by decide) (hts _ (List.mem_of_getElem? (i := 1) rfl)) (fun _ h9 => h9) rfl dX0_addSaying_8 ?_
  refine lv_iconst (v := 1) hx hb dX0_addSaying_11 (by decide) ?_
  refine lv_iadd hx hb dX0_addSaying_12 ?_
  refine va_put (D := D) (ci := 0) (v := .int (sc + 1)) (ty := .int) (C := RX0) (T := TX0) (N := 8) hx hb hts hinX0 tyX0 tyX0_ok nmX0 hown hE.1 hP (hD _ rfl) hS 0 rfl rfl 4 (by decide) (hts _ (List.mem_of_getElem? (i := 1) rfl)) (fun _ h9 => h9) rfl (by decide +kernel) rfl rfl (Nat.le_of_ble_eq_true rfl) dX0_addSaying_13 (fun H locs hP _ hS => ?_)
  have hP : va_P D vwCl (wX0 cI cS a0 a1 a2 a3 a4 pl sp sy sh (sc + 1) nc dy zz) H := hP
  refine lv_aload_n hx hb dX0_addSaying_16 rfl (lv_at hl 1 rfl) ?_
  refine lv_iload hx hb dX0_addSaying_17 (lv_at hl 0 rfl) ?_
  refine lv_iconst (v := 0) hx hb dX0_addSaying_19 (by decide) ?_
  refine lv_iload_n hx hb dX0_addSaying_20 rfl (lv_at hl 2 rfl) ?_
  have hPc := hP.sub (ws' := (wX0 cI cS a0 a1 a2 a3 a4 pl sp sy sh (sc + 1) nc dy zz)) [0, 1, 2, 3, 4] rfl
  refine kMv (wf' := (wX0 cI cS a0 a1 a2 a3 a4 pl sp (fX0_setOfSaying sy sc 0 v1) sh (sc + 1) nc dy zz)) [0, 1, 2, 3, 4] [some 0, some 1, some 2, some 3, some 4] (rV C0 (tX0_setOfSaying l D cI cS a0 a1 a2 a3 a4 pl sp sy sh (sc + 1) nc dy zz sc 0 v1 (fX0_setOfSaying sy sc 0 v1) rfl (((hD (wX0 cI cS a0 a1 a2 a3 a4 pl sp sy sh (sc + 1) nc dy zz) rfl).sub [0, 1, 2, 3, 4] (by decide) rfl).weaken (fun _ _ _ _ => trivial))) RX0 gX0_addSaying_X0_setOfSaying rfl ⟨rfl, rfl⟩ pdX0_setOfSaying rfl ⟨Nat.le_of_ble_eq_true rfl, Nat.le_of_ble_eq_true rfl⟩ (fun _ _ _ _ q => q) (va_recv hE.1 hPc (ci := 0) (q0 := 0) rfl rfl) (fun U hU _ _ => by rw [hU]; exact hPc) hl.1 rfl (Nat.le_of_ble_eq_true rfl) dX0_addSaying_21 ⟨Nat.zero_le _, Nat.zero_le _⟩) hP (hD _ rfl) hS rfl rfl rfl (fun H locs hP hS => ?_)
  refine lv_aload_n hx hb dX0_addSaying_24 rfl (lv_at hl 1 rfl) ?_
  refine lv_iload hx hb dX0_addSaying_25 (lv_at hl 0 rfl) ?_
  refine lv_iconst (v := 1) hx hb dX0_addSaying_27 (by decide) ?_
  refine lv_iload_n hx hb dX0_addSaying_28 rfl (lv_at hl 4 rfl) ?_
  have hPc := hP.sub (ws' := (wX0 cI cS a0 a1 a2 a3 a4 pl sp (fX0_setOfSaying sy sc 0 v1) sh (sc + 1) nc dy zz)) [0, 1, 2, 3, 4] rfl
  refine kMv (wf' := (wX0 cI cS a0 a1 a2 a3 a4 pl sp (fX0_setOfSaying (fX0_setOfSaying sy sc 0 v1) sc 1 v3) sh (sc + 1) nc dy zz)) [0, 1, 2, 3, 4] [some 0, some 1, some 2, some 3, some 4] (rV C0 (tX0_setOfSaying l D cI cS a0 a1 a2 a3 a4 pl sp (fX0_setOfSaying sy sc 0 v1) sh (sc + 1) nc dy zz sc 1 v3 (fX0_setOfSaying (fX0_setOfSaying sy sc 0 v1) sc 1 v3) rfl (((hD (wX0 cI cS a0 a1 a2 a3 a4 pl sp (fX0_setOfSaying sy sc 0 v1) sh (sc + 1) nc dy zz) rfl).sub [0, 1, 2, 3, 4] (by decide) rfl).weaken (fun _ _ _ _ => trivial))) RX0 gX0_addSaying_X0_setOfSaying rfl ⟨rfl, rfl⟩ pdX0_setOfSaying rfl ⟨Nat.le_of_ble_eq_true rfl, Nat.le_of_ble_eq_true rfl⟩ (fun _ _ _ _ q => q) (va_recv hE.1 hPc (ci := 0) (q0 := 0) rfl rfl) (fun U hU _ _ => by rw [hU]; exact hPc) hl.1 rfl (Nat.le_of_ble_eq_true rfl) dX0_addSaying_29 ⟨Nat.zero_le _, Nat.zero_le _⟩) hP (hD _ rfl) hS rfl rfl rfl (fun H locs hP hS => ?_)
  refine lv_aload_n hx hb dX0_addSaying_32 rfl (lv_at hl 1 rfl) ?_
  refine lv_iload hx hb dX0_addSaying_33 (lv_at hl 0 rfl) ?_
  refine lv_iconst (v := 2) hx hb dX0_addSaying_35 (by decide) ?_
  refine lv_iload_n hx hb dX0_addSaying_36 rfl (lv_at hl 3 rfl) ?_
  have hPc := hP.sub (ws' := (wX0 cI cS a0 a1 a2 a3 a4 pl sp (fX0_setOfSaying (fX0_setOfSaying sy sc 0 v1) sc 1 v3) sh (sc + 1) nc dy zz)) [0, 1, 2, 3, 4] rfl
  refine kMv (wf' := (wX0 cI cS a0 a1 a2 a3 a4 pl sp (fX0_setOfSaying (fX0_setOfSaying (fX0_setOfSaying sy sc 0 v1) sc 1 v3) sc 2 v2) sh (sc + 1) nc dy zz)) [0, 1, 2, 3, 4] [some 0, some 1, some 2, some 3, some 4] (rV C0 (tX0_setOfSaying l D cI cS a0 a1 a2 a3 a4 pl sp (fX0_setOfSaying (fX0_setOfSaying sy sc 0 v1) sc 1 v3) sh (sc + 1) nc dy zz sc 2 v2 (fX0_setOfSaying (fX0_setOfSaying (fX0_setOfSaying sy sc 0 v1) sc 1 v3) sc 2 v2) rfl (((hD (wX0 cI cS a0 a1 a2 a3 a4 pl sp (fX0_setOfSaying (fX0_setOfSaying sy sc 0 v1) sc 1 v3) sh (sc + 1) nc dy zz) rfl).sub [0, 1, 2, 3, 4] (by decide) rfl).weaken (fun _ _ _ _ => trivial))) RX0 gX0_addSaying_X0_setOfSaying rfl ⟨rfl, rfl⟩ pdX0_setOfSaying rfl ⟨Nat.le_of_ble_eq_true rfl, Nat.le_of_ble_eq_true rfl⟩ (fun _ _ _ _ q => q) (va_recv hE.1 hPc (ci := 0) (q0 := 0) rfl rfl) (fun U hU _ _ => by rw [hU]; exact hPc) hl.1 rfl (Nat.le_of_ble_eq_true rfl) dX0_addSaying_37 ⟨Nat.zero_le _, Nat.zero_le _⟩) hP (hD _ rfl) hS rfl rfl rfl (fun H locs hP hS => ?_)
  refine lv_aload_n hx hb dX0_addSaying_40 rfl (lv_at hl 1 rfl) ?_
  refine lv_iload hx hb dX0_addSaying_41 (lv_at hl 0 rfl) ?_
  refine lv_iconst (v := 3) hx hb dX0_addSaying_43 (by decide) ?_
  refine lv_iconst (v := 0) hx hb dX0_addSaying_44 (by decide) ?_
  have hPc := hP.sub (ws' := (wX0 cI cS a0 a1 a2 a3 a4 pl sp (fX0_setOfSaying (fX0_setOfSaying (fX0_setOfSaying sy sc 0 v1) sc 1 v3) sc 2 v2) sh (sc + 1) nc dy zz)) [0, 1, 2, 3, 4] rfl
  refine kMv (wf' := (wX0 cI cS a0 a1 a2 a3 a4 pl sp (fX0_setOfSaying (fX0_setOfSaying (fX0_setOfSaying (fX0_setOfSaying sy sc 0 v1) sc 1 v3) sc 2 v2) sc 3 0) sh (sc + 1) nc dy zz)) [0, 1, 2, 3, 4] [some 0, some 1, some 2, some 3, some 4] (rV C0 (tX0_setOfSaying l D cI cS a0 a1 a2 a3 a4 pl sp (fX0_setOfSaying (fX0_setOfSaying (fX0_setOfSaying sy sc 0 v1) sc 1 v3) sc 2 v2) sh (sc + 1) nc dy zz sc 3 0 (fX0_setOfSaying (fX0_setOfSaying (fX0_setOfSaying (fX0_setOfSaying sy sc 0 v1) sc 1 v3) sc 2 v2) sc 3 0) rfl (((hD (wX0 cI cS a0 a1 a2 a3 a4 pl sp (fX0_setOfSaying (fX0_setOfSaying (fX0_setOfSaying sy sc 0 v1) sc 1 v3) sc 2 v2) sh (sc + 1) nc dy zz) rfl).sub [0, 1, 2, 3, 4] (by decide) rfl).weaken (fun _ _ _ _ => trivial))) RX0 gX0_addSaying_X0_setOfSaying rfl ⟨rfl, rfl⟩ pdX0_setOfSaying rfl ⟨Nat.le_of_ble_eq_true rfl, Nat.le_of_ble_eq_true rfl⟩ (fun _ _ _ _ q => q) (va_recv hE.1 hPc (ci := 0) (q0 := 0) rfl rfl) (fun U hU _ _ => by rw [hU]; exact hPc) hl.1 rfl (Nat.le_of_ble_eq_true rfl) dX0_addSaying_45 ⟨Nat.zero_le _, Nat.zero_le _⟩) hP (hD _ rfl) hS rfl rfl rfl (fun H locs hP hS => ?_)
  refine lv_aload_n hx hb dX0_addSaying_48 rfl (lv_at hl 1 rfl) ?_
  refine lv_iload hx hb dX0_addSaying_49 (lv_at hl 0 rfl) ?_
  refine lv_iconst (v := 4) hx hb dX0_addSaying_51 (by decide) ?_
  refine lv_iconst (v := 0) hx hb dX0_addSaying_52 (by decide) ?_
  have hPc := hP.sub (ws' := (wX0 cI cS a0 a1 a2 a3 a4 pl sp (fX0_setOfSaying (fX0_setOfSaying (fX0_setOfSaying (fX0_setOfSaying sy sc 0 v1) sc 1 v3) sc 2 v2) sc 3 0) sh (sc + 1) nc dy zz)) [0, 1, 2, 3, 4] rfl
  refine kMv (wf' := (wX0 cI cS a0 a1 a2 a3 a4 pl sp (fX0_setOfSaying (fX0_setOfSaying (fX0_setOfSaying (fX0_setOfSaying (fX0_setOfSaying sy sc 0 v1) sc 1 v3) sc 2 v2) sc 3 0) sc 4 0) sh (sc + 1) nc dy zz)) [0, 1, 2, 3, 4] [some 0, some 1, some 2, some 3, some 4] (rV C0 (tX0_setOfSaying l D cI cS a0 a1 a2 a3 a4 pl sp (fX0_setOfSaying (fX0_setOfSaying (fX0_setOfSaying (fX0_setOfSaying sy sc 0 v1) sc 1 v3) sc 2 v2) sc 3 0) sh (sc + 1) nc dy zz sc 4 0 (fX0_setOfSaying (fX0_setOfSaying (fX0_setOfSaying (fX0_setOfSaying (fX0_setOfSaying sy sc 0 v1) sc 1 v3) sc 2 v2) sc 3 0) sc 4 0) rfl (((hD (wX0 cI cS a0 a1 a2 a3 a4 pl sp (fX0_setOfSaying (fX0_setOfSaying (fX0_setOfSaying (fX0_setOfSaying sy sc 0 v1) sc 1 v3) sc 2 v2) sc 3 0) sh (sc + 1) nc dy zz) rfl).sub [0, 1, 2, 3, 4] (by decide) rfl).weaken (fun _ _ _ _ => trivial))) RX0 gX0_addSaying_X0_setOfSaying rfl ⟨rfl, rfl⟩ pdX0_setOfSaying rfl ⟨Nat.le_of_ble_eq_true rfl, Nat.le_of_ble_eq_true rfl⟩ (fun _ _ _ _ q => q) (va_recv hE.1 hPc (ci := 0) (q0 := 0) rfl rfl) (fun U hU _ _ => by rw [hU]; exact hPc) hl.1 rfl (Nat.le_of_ble_eq_true rfl) dX0_addSaying_53 ⟨Nat.zero_le _, Nat.zero_le _⟩) hP (hD _ rfl) hS rfl rfl rfl (fun H locs hP hS => ?_)
  refine lv_iload hx hb dX0_addSaying_56 (lv_at hl 0 rfl) ?_
  obtain ⟨q0, g0⟩ := Prod.mk.inj (h)
  obtain ⟨q1, q2⟩ := Prod.mk.inj g0
  subst q0 q1 q2
  exact eMi C0 hP hS rfl rfl dX0_addSaying_58
def fX0_addShip (sh : Nat → Int32) (nc : Int32) (v1 : Int32) (v2 : Int32) (v3 : Int32) : Int32 × (Nat → Int32) × Int32 := (nc, (fX0_setOfShip (fX0_setOfShip (fX0_setOfShip (fX0_setOfShip sh nc 0 v1) nc 1 v2) nc 2 v3) nc 3 0), nc + 1)
def fX0_addShip_o0 (sh : Nat → Int32) (nc : Int32) (v1 : Int32) (v2 : Int32) (v3 : Int32) : Int32 := (fX0_addShip sh nc v1 v2 v3).1
def fX0_addShip_o1 (sh : Nat → Int32) (nc : Int32) (v1 : Int32) (v2 : Int32) (v3 : Int32) : Nat → Int32 := (fX0_addShip sh nc v1 v2 v3).2.1
def fX0_addShip_o2 (sh : Nat → Int32) (nc : Int32) (v1 : Int32) (v2 : Int32) (v3 : Int32) : Int32 := (fX0_addShip sh nc v1 v2 v3).2.2
theorem eeX0_addShip (sh : Nat → Int32) (nc : Int32) (v1 : Int32) (v2 : Int32) (v3 : Int32) : fX0_addShip sh nc v1 v2 v3 = (fX0_addShip_o0 sh nc v1 v2 v3, fX0_addShip_o1 sh nc v1 v2 v3, fX0_addShip_o2 sh nc v1 v2 v3) := rfl
abbrev rmX0_addShip : Room := { frames := 2, cells := 0, slots := 0, locals := 45 }
theorem pdX0_addShip : (yX0_addShip.cls = RX0 ∧ yX0_addShip.cls ≠ "java/lang/invoke/MethodHandle" ∧ yX0_addShip.cls ≠ "java/lang/invoke/VarHandle" ∧ (parseMethodDescriptor yX0_addShip.desc).map (fun d => d.parameters.length) = some 3) := by decide +kernel
set_option maxHeartbeats 4000000 in
set_option maxRecDepth 100000 in
theorem tX0_addShip (l : Launch) (D : va_G) (cI cS : ClassId) (a0 a1 a2 a3 a4 : Nat) (pl : Nat → Int32) (sp : Nat → Int32) (sy : Nat → Int32) (sh : Nat → Int32) (sc : Int32) (nc : Int32) (dy : Int32) (zz : Int32) (v1 : Int32) (v2 : Int32) (v3 : Int32) (z0 : Int32) (z1 : Nat → Int32) (z2 : Int32) (h : fX0_addShip sh nc v1 v2 v3 = (z0, z1, z2)) (hD0 : va_D (fun _ => True) (wX0 cI cS a0 a1 a2 a3 a4 pl sp sy sh sc nc dy zz)) : Met l yX0_addShip wsX0_addShip rmX0_addShip (PZ D cI cS [.ref a0, .int v1, .int v2, .int v3] (fun U => va_P D vwCl (wX0 cI cS a0 a1 a2 a3 a4 pl sp sy sh sc nc dy zz) U.heap)) (qI D (wX0 cI cS a0 a1 a2 a3 a4 pl sp sy sh sc nc dy zz) (wX0 cI cS a0 a1 a2 a3 a4 pl sp sy z1 sc z2 dy zz) z0) 0 0 (wA (wX0 cI cS a0 a1 a2 a3 a4 pl sp sy sh sc nc dy zz)) := by
  refine Met.mk RX0 (by decide) rfl rfl (Nat.le_of_ble_eq_true rfl) ?_
  intro p e s m below meth c ls C0 hP hl
  have hl : lv_has ls 5 [(0, .ref a0), (1, .int v1), (2, .int v2), (3, .int v3)] := hl
  obtain ⟨hx, hb, hr, hml, hown, hts, hlk, hE⟩ := id C0
  have hinX0 : ∀ w ∈ u_ws RX0 TX0 8, w ∈ wsX0_addShip := by decide +kernel
  have hD : ∀ W : va_W, W.map Prod.fst = [a0, a1, a2, a3, a4] → va_D (wA (wX0 cI cS a0 a1 a2 a3 a4 pl sp sy sh sc nc dy zz)) W := fun W hW => hD0.own.re hW
  have hS : va_S (wA (wX0 cI cS a0 a1 a2 a3 a4 pl sp sy sh sc nc dy zz)) s.heap s.heap [] := va_S.rf
  have hP : va_P D vwCl (wX0 cI cS a0 a1 a2 a3 a4 pl sp sy sh sc nc dy zz) s.heap := hP
  rw [fX0_addShip] at h
  refine lv_aload_n hx hb dX0_addShip_0 rfl (lv_at hl 0 rfl) ?_
  refine va_get (D := D) (ci := 0) (v := .int nc) (C := RX0) (T := TX0) (N := 8) hx hb hts hinX0 hown hE.1 hP 0 rfl rfl 5 (by decide) (hts _ (List.mem_of_getElem? (i := 1) rfl)) (fun _ h9 => h9) rfl dX0_addShip_1 ?_
  refine lv_istore (lv' := [(4, .int nc), (0, .ref a0), (1, .int v1), (2, .int v2), (3, .int v3)]) hx hb dX0_addShip_4 hl (by decide) rfl (fun ls hl => ?_)
  refine lv_aload_n hx hb dX0_addShip_6 rfl (lv_at hl 1 rfl) ?_
  refine lv_dup hx hb dX0_addShip_7 rfl ?_
  refine va_get (D := D) (ci := 0) (v := .int nc) (C := RX0) (T := TX0) (N := 8) hx hb hts hinX0 hown hE.1 hP 0 rfl rfl 5 (by decide) (hts _ (List.mem_of_getElem? (i := 1) rfl)) (fun _ h9 => h9) rfl dX0_addShip_8 ?_
  refine lv_iconst (v := 1) hx hb dX0_addShip_11 (by decide) ?_
  refine lv_iadd hx hb dX0_addShip_12 ?_
  refine va_put (D := D) (ci := 0) (v := .int (nc + 1)) (ty := .int) (C := RX0) (T := TX0) (N := 8) hx hb hts hinX0 tyX0 tyX0_ok nmX0 hown hE.1 hP (hD _ rfl) hS 0 rfl rfl 5 (by decide) (hts _ (List.mem_of_getElem? (i := 1) rfl)) (fun _ h9 => h9) rfl (by decide +kernel) rfl rfl (Nat.le_of_ble_eq_true rfl) dX0_addShip_13 (fun H locs hP _ hS => ?_)
  have hP : va_P D vwCl (wX0 cI cS a0 a1 a2 a3 a4 pl sp sy sh sc (nc + 1) dy zz) H := hP
  refine lv_aload_n hx hb dX0_addShip_16 rfl (lv_at hl 1 rfl) ?_
  refine lv_iload hx hb dX0_addShip_17 (lv_at hl 0 rfl) ?_
  refine lv_iconst (v := 0) hx hb dX0_addShip_19 (by decide) ?_
  refine lv_iload_n hx hb dX0_addShip_20 rfl (lv_at hl 2 rfl) ?_
  have hPc := hP.sub (ws' := (wX0 cI cS a0 a1 a2 a3 a4 pl sp sy sh sc (nc + 1) dy zz)) [0, 1, 2, 3, 4] rfl
  refine kMv (wf' := (wX0 cI cS a0 a1 a2 a3 a4 pl sp sy (fX0_setOfShip sh nc 0 v1) sc (nc + 1) dy zz)) [0, 1, 2, 3, 4] [some 0, some 1, some 2, some 3, some 4] (rV C0 (tX0_setOfShip l D cI cS a0 a1 a2 a3 a4 pl sp sy sh sc (nc + 1) dy zz nc 0 v1 (fX0_setOfShip sh nc 0 v1) rfl (((hD (wX0 cI cS a0 a1 a2 a3 a4 pl sp sy sh sc (nc + 1) dy zz) rfl).sub [0, 1, 2, 3, 4] (by decide) rfl).weaken (fun _ _ _ _ => trivial))) RX0 gX0_addShip_X0_setOfShip rfl ⟨rfl, rfl⟩ pdX0_setOfShip rfl ⟨Nat.le_of_ble_eq_true rfl, Nat.le_of_ble_eq_true rfl⟩ (fun _ _ _ _ q => q) (va_recv hE.1 hPc (ci := 0) (q0 := 0) rfl rfl) (fun U hU _ _ => by rw [hU]; exact hPc) hl.1 rfl (Nat.le_of_ble_eq_true rfl) dX0_addShip_21 ⟨Nat.zero_le _, Nat.zero_le _⟩) hP (hD _ rfl) hS rfl rfl rfl (fun H locs hP hS => ?_)
  refine lv_aload_n hx hb dX0_addShip_24 rfl (lv_at hl 1 rfl) ?_
  refine lv_iload hx hb dX0_addShip_25 (lv_at hl 0 rfl) ?_
  refine lv_iconst (v := 1) hx hb dX0_addShip_27 (by decide) ?_
  refine lv_iload_n hx hb dX0_addShip_28 rfl (lv_at hl 3 rfl) ?_
  have hPc := hP.sub (ws' := (wX0 cI cS a0 a1 a2 a3 a4 pl sp sy (fX0_setOfShip sh nc 0 v1) sc (nc + 1) dy zz)) [0, 1, 2, 3, 4] rfl
  refine kMv (wf' := (wX0 cI cS a0 a1 a2 a3 a4 pl sp sy (fX0_setOfShip (fX0_setOfShip sh nc 0 v1) nc 1 v2) sc (nc + 1) dy zz)) [0, 1, 2, 3, 4] [some 0, some 1, some 2, some 3, some 4] (rV C0 (tX0_setOfShip l D cI cS a0 a1 a2 a3 a4 pl sp sy (fX0_setOfShip sh nc 0 v1) sc (nc + 1) dy zz nc 1 v2 (fX0_setOfShip (fX0_setOfShip sh nc 0 v1) nc 1 v2) rfl (((hD (wX0 cI cS a0 a1 a2 a3 a4 pl sp sy (fX0_setOfShip sh nc 0 v1) sc (nc + 1) dy zz) rfl).sub [0, 1, 2, 3, 4] (by decide) rfl).weaken (fun _ _ _ _ => trivial))) RX0 gX0_addShip_X0_setOfShip rfl ⟨rfl, rfl⟩ pdX0_setOfShip rfl ⟨Nat.le_of_ble_eq_true rfl, Nat.le_of_ble_eq_true rfl⟩ (fun _ _ _ _ q => q) (va_recv hE.1 hPc (ci := 0) (q0 := 0) rfl rfl) (fun U hU _ _ => by rw [hU]; exact hPc) hl.1 rfl (Nat.le_of_ble_eq_true rfl) dX0_addShip_29 ⟨Nat.zero_le _, Nat.zero_le _⟩) hP (hD _ rfl) hS rfl rfl rfl (fun H locs hP hS => ?_)
  refine lv_aload_n hx hb dX0_addShip_32 rfl (lv_at hl 1 rfl) ?_
  refine lv_iload hx hb dX0_addShip_33 (lv_at hl 0 rfl) ?_
  refine lv_iconst (v := 2) hx hb dX0_addShip_35 (by decide) ?_
  refine lv_iload_n hx hb dX0_addShip_36 rfl (lv_at hl 4 rfl) ?_
  have hPc := hP.sub (ws' := (wX0 cI cS a0 a1 a2 a3 a4 pl sp sy (fX0_setOfShip (fX0_setOfShip sh nc 0 v1) nc 1 v2) sc (nc + 1) dy zz)) [0, 1, 2, 3, 4] rfl
  refine kMv (wf' := (wX0 cI cS a0 a1 a2 a3 a4 pl sp sy (fX0_setOfShip (fX0_setOfShip (fX0_setOfShip sh nc 0 v1) nc 1 v2) nc 2 v3) sc (nc + 1) dy zz)) [0, 1, 2, 3, 4] [some 0, some 1, some 2, some 3, some 4] (rV C0 (tX0_setOfShip l D cI cS a0 a1 a2 a3 a4 pl sp sy (fX0_setOfShip (fX0_setOfShip sh nc 0 v1) nc 1 v2) sc (nc + 1) dy zz nc 2 v3 (fX0_setOfShip (fX0_setOfShip (fX0_setOfShip sh nc 0 v1) nc 1 v2) nc 2 v3) rfl (((hD (wX0 cI cS a0 a1 a2 a3 a4 pl sp sy (fX0_setOfShip (fX0_setOfShip sh nc 0 v1) nc 1 v2) sc (nc + 1) dy zz) rfl).sub [0, 1, 2, 3, 4] (by decide) rfl).weaken (fun _ _ _ _ => trivial))) RX0 gX0_addShip_X0_setOfShip rfl ⟨rfl, rfl⟩ pdX0_setOfShip rfl ⟨Nat.le_of_ble_eq_true rfl, Nat.le_of_ble_eq_true rfl⟩ (fun _ _ _ _ q => q) (va_recv hE.1 hPc (ci := 0) (q0 := 0) rfl rfl) (fun U hU _ _ => by rw [hU]; exact hPc) hl.1 rfl (Nat.le_of_ble_eq_true rfl) dX0_addShip_37 ⟨Nat.zero_le _, Nat.zero_le _⟩) hP (hD _ rfl) hS rfl rfl rfl (fun H locs hP hS => ?_)
  refine lv_aload_n hx hb dX0_addShip_40 rfl (lv_at hl 1 rfl) ?_
  refine lv_iload hx hb dX0_addShip_41 (lv_at hl 0 rfl) ?_
  refine lv_iconst (v := 3) hx hb dX0_addShip_43 (by decide) ?_
  refine lv_iconst (v := 0) hx hb dX0_addShip_44 (by decide) ?_
  have hPc := hP.sub (ws' := (wX0 cI cS a0 a1 a2 a3 a4 pl sp sy (fX0_setOfShip (fX0_setOfShip (fX0_setOfShip sh nc 0 v1) nc 1 v2) nc 2 v3) sc (nc + 1) dy zz)) [0, 1, 2, 3, 4] rfl
  refine kMv (wf' := (wX0 cI cS a0 a1 a2 a3 a4 pl sp sy (fX0_setOfShip (fX0_setOfShip (fX0_setOfShip (fX0_setOfShip sh nc 0 v1) nc 1 v2) nc 2 v3) nc 3 0) sc (nc + 1) dy zz)) [0, 1, 2, 3, 4] [some 0, some 1, some 2, some 3, some 4] (rV C0 (tX0_setOfShip l D cI cS a0 a1 a2 a3 a4 pl sp sy (fX0_setOfShip (fX0_setOfShip (fX0_setOfShip sh nc 0 v1) nc 1 v2) nc 2 v3) sc (nc + 1) dy zz nc 3 0 (fX0_setOfShip (fX0_setOfShip (fX0_setOfShip (fX0_setOfShip sh nc 0 v1) nc 1 v2) nc 2 v3) nc 3 0) rfl (((hD (wX0 cI cS a0 a1 a2 a3 a4 pl sp sy (fX0_setOfShip (fX0_setOfShip (fX0_setOfShip sh nc 0 v1) nc 1 v2) nc 2 v3) sc (nc + 1) dy zz) rfl).sub [0, 1, 2, 3, 4] (by decide) rfl).weaken (fun _ _ _ _ => trivial))) RX0 gX0_addShip_X0_setOfShip rfl ⟨rfl, rfl⟩ pdX0_setOfShip rfl ⟨Nat.le_of_ble_eq_true rfl, Nat.le_of_ble_eq_true rfl⟩ (fun _ _ _ _ q => q) (va_recv hE.1 hPc (ci := 0) (q0 := 0) rfl rfl) (fun U hU _ _ => by rw [hU]; exact hPc) hl.1 rfl (Nat.le_of_ble_eq_true rfl) dX0_addShip_45 ⟨Nat.zero_le _, Nat.zero_le _⟩) hP (hD _ rfl) hS rfl rfl rfl (fun H locs hP hS => ?_)
  refine lv_iload hx hb dX0_addShip_48 (lv_at hl 0 rfl) ?_
  obtain ⟨q0, g0⟩ := Prod.mk.inj (h)
  obtain ⟨q1, q2⟩ := Prod.mk.inj g0
  subst q0 q1 q2
  exact eMi C0 hP hS rfl rfl dX0_addShip_50
def fX0_sayingHas (sy : Nat → Int32) (v1 : Int32) (v2 : Int32) : Int32 := (if ((v1 * 5) + v2) < 0 then 0 else (if 40 ≤ ((v1 * 5) + v2) then 0 else (sy ((v1 * 5) + v2).toNatClampNeg)))
abbrev rmX0_sayingHas : Room := { frames := 0, cells := 0, slots := 0, locals := 0 }
theorem pdX0_sayingHas : (yX0_sayingHas.cls = RX0 ∧ yX0_sayingHas.cls ≠ "java/lang/invoke/MethodHandle" ∧ yX0_sayingHas.cls ≠ "java/lang/invoke/VarHandle" ∧ (parseMethodDescriptor yX0_sayingHas.desc).map (fun d => d.parameters.length) = some 2) := by decide +kernel
set_option maxHeartbeats 4000000 in
set_option maxRecDepth 100000 in
theorem tX0_sayingHas (l : Launch) (D : va_G) (cI cS : ClassId) (a0 a1 a2 a3 a4 : Nat) (pl : Nat → Int32) (sp : Nat → Int32) (sy : Nat → Int32) (sh : Nat → Int32) (sc : Int32) (nc : Int32) (dy : Int32) (zz : Int32) (v1 : Int32) (v2 : Int32) (z0 : Int32) (h : fX0_sayingHas sy v1 v2 = z0) : Met l yX0_sayingHas wsX0_sayingHas rmX0_sayingHas (PZ D cI cS [.ref a0, .int v1, .int v2] (fun U => va_P D vwCl (wX0 cI cS a0 a1 a2 a3 a4 pl sp sy sh sc nc dy zz) U.heap)) (vp_Si (fun x => x = z0)) 0 0 (fun _ => False) := by
  refine Met.mk RX0 (by decide) rfl rfl (Nat.le_of_ble_eq_true rfl) ?_
  intro p e s m below meth c ls C0 hP hl
  have hl : lv_has ls 4 [(0, .ref a0), (1, .int v1), (2, .int v2)] := hl
  obtain ⟨hx, hb, hr, hml, hown, hts, hlk, hE⟩ := id C0
  have hinX0 : ∀ w ∈ u_ws RX0 TX0 8, w ∈ wsX0_sayingHas := by decide +kernel
  rw [fX0_sayingHas] at h
  refine lv_iload_n hx hb dX0_sayingHas_0 rfl (lv_at hl 1 rfl) ?_
  refine lv_iconst (v := 5) hx hb dX0_sayingHas_1 (by decide) ?_
  refine lv_imul hx hb dX0_sayingHas_2 ?_
  refine lv_iload_n hx hb dX0_sayingHas_3 rfl (lv_at hl 2 rfl) ?_
  refine lv_iadd hx hb dX0_sayingHas_4 ?_
  refine lv_istore_n (lv' := [(3, .int ((v1 * 5) + v2)), (0, .ref a0), (1, .int v1), (2, .int v2)]) hx hb dX0_sayingHas_5 rfl hl (by decide) rfl (fun ls hl => ?_)
  refine lv_iload_n hx hb dX0_sayingHas_6 rfl (lv_at hl 0 rfl) ?_
  refine lv_if_lt (tgt := 28) hx hb dX0_sayingHas_7 (by decide) (fun c_1 => ?_) (fun c_1 => ?_)
  · have h := ifp c_1 h
    refine lv_iconst (v := 0) hx hb dX0_sayingHas_28 (by decide) ?_
    exact eRi C0 h dX0_sayingHas_29
  · have h := ifn c_1 h
    refine lv_iload_n hx hb dX0_sayingHas_10 rfl (lv_at hl 0 rfl) ?_
    refine lv_aload_n hx hb dX0_sayingHas_11 rfl (lv_at hl 1 rfl) ?_
    refine va_get (D := D) (ci := 0) (v := .ref a3) (C := RX0) (T := TX0) (N := 8) hx hb hts hinX0 hown hE.1 hP 0 rfl rfl 2 (by decide) (hts _ (List.mem_of_getElem? (i := 1) rfl)) (fun _ h9 => h9) rfl dX0_sayingHas_12 ?_
    refine va_alen (v := 40) hx hb hE.1 hP 3 0 rfl rfl rfl dX0_sayingHas_15 ?_
    refine lv_icmp_ge (tgt := 28) hx hb dX0_sayingHas_16 (by decide) (fun c_2 => ?_) (fun c_2 => ?_)
    · have h := ifp c_2 h
      refine lv_iconst (v := 0) hx hb dX0_sayingHas_28 (by decide) ?_
      exact eRi C0 h dX0_sayingHas_29
    · have h := ifn c_2 h
      refine lv_aload_n hx hb dX0_sayingHas_19 rfl (lv_at hl 1 rfl) ?_
      refine va_get (D := D) (ci := 0) (v := .ref a3) (C := RX0) (T := TX0) (N := 8) hx hb hts hinX0 hown hE.1 hP 0 rfl rfl 2 (by decide) (hts _ (List.mem_of_getElem? (i := 1) rfl)) (fun _ h9 => h9) rfl dX0_sayingHas_20 ?_
      refine lv_iload_n hx hb dX0_sayingHas_23 rfl (lv_at hl 0 rfl) ?_
      refine va_iald hx hb hE.1 hP 3 0 rfl rfl (in_ofN c_1 (n := 40) c_2 (by decide)) dX0_sayingHas_24 ?_
      refine lv_goto (tgt := 29) hx hb dX0_sayingHas_25 (by decide) ?_
      exact eRi C0 h dX0_sayingHas_29
def fX0_shipHas (sh : Nat → Int32) (v1 : Int32) (v2 : Int32) : Int32 := (fX4_numberAt 24 sh ((v1 * 4) + v2))
abbrev rmX0_shipHas : Room := { frames := 1, cells := 0, slots := 0, locals := 21 }
theorem pdX0_shipHas : (yX0_shipHas.cls = RX0 ∧ yX0_shipHas.cls ≠ "java/lang/invoke/MethodHandle" ∧ yX0_shipHas.cls ≠ "java/lang/invoke/VarHandle" ∧ (parseMethodDescriptor yX0_shipHas.desc).map (fun d => d.parameters.length) = some 2) := by decide +kernel
set_option maxHeartbeats 4000000 in
set_option maxRecDepth 100000 in
theorem tX0_shipHas (l : Launch) (D : va_G) (cI cS : ClassId) (a0 a1 a2 a3 a4 : Nat) (pl : Nat → Int32) (sp : Nat → Int32) (sy : Nat → Int32) (sh : Nat → Int32) (sc : Int32) (nc : Int32) (dy : Int32) (zz : Int32) (v1 : Int32) (v2 : Int32) (z0 : Int32) (h : fX0_shipHas sh v1 v2 = z0) : Met l yX0_shipHas wsX0_shipHas rmX0_shipHas (PZ D cI cS [.ref a0, .int v1, .int v2] (fun U => va_P D vwCl (wX0 cI cS a0 a1 a2 a3 a4 pl sp sy sh sc nc dy zz) U.heap)) (vp_Si (fun x => x = z0)) 0 0 (fun _ => False) := by
  refine Met.mk RX0 (by decide) rfl rfl (Nat.le_of_ble_eq_true rfl) ?_
  intro p e s m below meth c ls C0 hP hl
  have hl : lv_has ls 3 [(0, .ref a0), (1, .int v1), (2, .int v2)] := hl
  obtain ⟨hx, hb, hr, hml, hown, hts, hlk, hE⟩ := id C0
  have hinX0 : ∀ w ∈ u_ws RX0 TX0 8, w ∈ wsX0_shipHas := by decide +kernel
  rw [fX0_shipHas] at h
  refine lv_aload_n hx hb dX0_shipHas_0 rfl (lv_at hl 0 rfl) ?_
  refine va_get (D := D) (ci := 0) (v := .ref a4) (C := RX0) (T := TX0) (N := 8) hx hb hts hinX0 hown hE.1 hP 0 rfl rfl 3 (by decide) (hts _ (List.mem_of_getElem? (i := 1) rfl)) (fun _ h9 => h9) rfl dX0_shipHas_1 ?_
  refine lv_iload_n hx hb dX0_shipHas_4 rfl (lv_at hl 1 rfl) ?_
  refine lv_iconst (v := 4) hx hb dX0_shipHas_5 (by decide) ?_
  refine lv_imul hx hb dX0_shipHas_6 ?_
  refine lv_iload_n hx hb dX0_shipHas_7 rfl (lv_at hl 2 rfl) ?_
  refine lv_iadd hx hb dX0_shipHas_8 ?_
  refine kRi (rSN C0 (tX4_numberAt l D cI cS a4 24 sh ((v1 * 4) + v2) (by decide)) "VaguePort" ggX0_shipHas_X4_numberAt rfl ⟨rfl, rfl⟩ (List.mem_of_getElem? (i := 9) rfl) (List.mem_of_getElem? (i := 3) rfl) (List.mem_of_getElem? (i := 2) rfl) pdX4_numberAt rfl ⟨Nat.le_of_ble_eq_true rfl, Nat.le_of_ble_eq_true rfl⟩ (fun _ _ _ _ q => va_X.call q) (fun U hU hW _ => by rw [hU]; exact (hP.X hE 4 rfl).moved hW.alike) hl.1 rfl (Nat.le_of_ble_eq_true rfl) dX0_shipHas_9 ⟨Nat.zero_le _, Nat.zero_le _⟩) ?_
  exact eRi C0 h dX0_shipHas_12
def fX0_tellOfSaying (sy : Nat → Int32) (dy : Int32) (v1 : Int32) (v2 : Int32) : Int32 := (if v2 = 5 then (fX1_thickens (fX0_sayingHas sy v1 0) (fX0_sayingHas sy v1 2) (fX0_sayingHas sy v1 4)) else if v2 = 6 then (fX1_reaches (fX0_sayingHas sy v1 0)) else if v2 = 7 then (fX1_blurs (fX0_sayingHas sy v1 0) dy) else if v2 = 8 then (fX1_resists (fX0_sayingHas sy v1 0)) else (fX0_sayingHas sy v1 v2))
abbrev rmX0_tellOfSaying : Room := { frames := 1, cells := 0, slots := 0, locals := 25 }
theorem pdX0_tellOfSaying : (yX0_tellOfSaying.cls = RX0 ∧ yX0_tellOfSaying.cls ≠ "java/lang/invoke/MethodHandle" ∧ yX0_tellOfSaying.cls ≠ "java/lang/invoke/VarHandle" ∧ (parseMethodDescriptor yX0_tellOfSaying.desc).map (fun d => d.parameters.length) = some 2) := by decide +kernel
set_option maxHeartbeats 4000000 in
set_option maxRecDepth 100000 in
theorem tX0_tellOfSaying (l : Launch) (D : va_G) (cI cS : ClassId) (a0 a1 a2 a3 a4 : Nat) (pl : Nat → Int32) (sp : Nat → Int32) (sy : Nat → Int32) (sh : Nat → Int32) (sc : Int32) (nc : Int32) (dy : Int32) (zz : Int32) (v1 : Int32) (v2 : Int32) (z0 : Int32) (h : fX0_tellOfSaying sy dy v1 v2 = z0) : Met l yX0_tellOfSaying wsX0_tellOfSaying rmX0_tellOfSaying (PZ D cI cS [.ref a0, .int v1, .int v2] (fun U => va_P D vwCl (wX0 cI cS a0 a1 a2 a3 a4 pl sp sy sh sc nc dy zz) U.heap)) (vp_Si (fun x => x = z0)) 0 0 (fun _ => False) := by
  refine Met.mk RX0 (by decide) rfl rfl (Nat.le_of_ble_eq_true rfl) ?_
  intro p e s m below meth c ls C0 hP hl
  have hl : lv_has ls 4 [(0, .ref a0), (1, .int v1), (2, .int v2)] := hl
  obtain ⟨hx, hb, hr, hml, hown, hts, hlk, hE⟩ := id C0
  have hinX0 : ∀ w ∈ u_ws RX0 TX0 8, w ∈ wsX0_tellOfSaying := by decide +kernel
  rw [fX0_tellOfSaying] at h
  refine lv_aload_n hx hb dX0_tellOfSaying_0 rfl (lv_at hl 0 rfl) ?_
  refine lv_iload_n hx hb dX0_tellOfSaying_1 rfl (lv_at hl 1 rfl) ?_
  refine lv_iconst (v := 0) hx hb dX0_tellOfSaying_2 (by decide) ?_
  have hPc := hP.sub (ws' := (wX0 cI cS a0 a1 a2 a3 a4 pl sp sy sh sc nc dy zz)) [0, 1, 2, 3, 4] rfl
  refine kRi (rV C0 (tX0_sayingHas l D cI cS a0 a1 a2 a3 a4 pl sp sy sh sc nc dy zz v1 0 (fX0_sayingHas sy v1 0) rfl) RX0 gX0_tellOfSaying_X0_sayingHas rfl ⟨rfl, rfl⟩ pdX0_sayingHas rfl ⟨Nat.le_of_ble_eq_true rfl, Nat.le_of_ble_eq_true rfl⟩ (fun _ _ _ _ q => q) (va_recv hE.1 hPc (ci := 0) (q0 := 0) rfl rfl) (fun U hU _ _ => by rw [hU]; exact hPc) hl.1 rfl (Nat.le_of_ble_eq_true rfl) dX0_tellOfSaying_3 ⟨Nat.zero_le _, Nat.zero_le _⟩) ?_
  refine lv_istore_n (lv' := [(3, .int (fX0_sayingHas sy v1 0)), (0, .ref a0), (1, .int v1), (2, .int v2)]) hx hb dX0_tellOfSaying_6 rfl hl (by decide) rfl (fun ls hl => ?_)
  refine lv_iload_n hx hb dX0_tellOfSaying_7 rfl (lv_at hl 3 rfl) ?_
  by_cases c_1 : v2 = 5
  · have h := ifp c_1 h
    refine lv_tableIn (tgt := 40) hx hb dX0_tellOfSaying_8 (by rw [c_1]; decide) (by rw [c_1]; decide) (by rw [c_1]; rfl) (by decide) ?_
    refine lv_iload_n hx hb dX0_tellOfSaying_40 rfl (lv_at hl 0 rfl) ?_
    refine lv_aload_n hx hb dX0_tellOfSaying_41 rfl (lv_at hl 1 rfl) ?_
    refine lv_iload_n hx hb dX0_tellOfSaying_42 rfl (lv_at hl 2 rfl) ?_
    refine lv_iconst (v := 2) hx hb dX0_tellOfSaying_43 (by decide) ?_
    have hPc := hP.sub (ws' := (wX0 cI cS a0 a1 a2 a3 a4 pl sp sy sh sc nc dy zz)) [0, 1, 2, 3, 4] rfl
    refine kRi (rV C0 (tX0_sayingHas l D cI cS a0 a1 a2 a3 a4 pl sp sy sh sc nc dy zz v1 2 (fX0_sayingHas sy v1 2) rfl) RX0 gX0_tellOfSaying_X0_sayingHas rfl ⟨rfl, rfl⟩ pdX0_sayingHas rfl ⟨Nat.le_of_ble_eq_true rfl, Nat.le_of_ble_eq_true rfl⟩ (fun _ _ _ _ q => q) (va_recv hE.1 hPc (ci := 0) (q0 := 0) rfl rfl) (fun U hU _ _ => by rw [hU]; exact hPc) hl.1 rfl (Nat.le_of_ble_eq_true rfl) dX0_tellOfSaying_44 ⟨Nat.zero_le _, Nat.zero_le _⟩) ?_
    refine lv_aload_n hx hb dX0_tellOfSaying_47 rfl (lv_at hl 1 rfl) ?_
    refine lv_iload_n hx hb dX0_tellOfSaying_48 rfl (lv_at hl 2 rfl) ?_
    refine lv_iconst (v := 4) hx hb dX0_tellOfSaying_49 (by decide) ?_
    have hPc := hP.sub (ws' := (wX0 cI cS a0 a1 a2 a3 a4 pl sp sy sh sc nc dy zz)) [0, 1, 2, 3, 4] rfl
    refine kRi (rV C0 (tX0_sayingHas l D cI cS a0 a1 a2 a3 a4 pl sp sy sh sc nc dy zz v1 4 (fX0_sayingHas sy v1 4) rfl) RX0 gX0_tellOfSaying_X0_sayingHas rfl ⟨rfl, rfl⟩ pdX0_sayingHas rfl ⟨Nat.le_of_ble_eq_true rfl, Nat.le_of_ble_eq_true rfl⟩ (fun _ _ _ _ q => q) (va_recv hE.1 hPc (ci := 0) (q0 := 0) rfl rfl) (fun U hU _ _ => by rw [hU]; exact hPc) hl.1 rfl (Nat.le_of_ble_eq_true rfl) dX0_tellOfSaying_50 ⟨Nat.zero_le _, Nat.zero_le _⟩) ?_
    refine kRi (rS C0 (tX1_thickens l D cI cS (fX0_sayingHas sy v1 0) (fX0_sayingHas sy v1 2) (fX0_sayingHas sy v1 4) (fX1_thickens (fX0_sayingHas sy v1 0) (fX0_sayingHas sy v1 2) (fX0_sayingHas sy v1 4)) rfl) gX0_tellOfSaying_X1_thickens rfl ⟨rfl, rfl⟩ pdX1_thickens rfl ⟨Nat.le_of_ble_eq_true rfl, Nat.le_of_ble_eq_true rfl⟩ (fun _ _ _ _ q => q) (fun _ _ _ _ => vp0) hl.1 rfl (Nat.le_of_ble_eq_true rfl) dX0_tellOfSaying_53 ⟨Nat.zero_le _, Nat.zero_le _⟩) ?_
    exact eRi C0 h dX0_tellOfSaying_56
  have h := ifn c_1 h
  by_cases c_2 : v2 = 6
  · have h := ifp c_2 h
    refine lv_tableIn (tgt := 57) hx hb dX0_tellOfSaying_8 (by rw [c_2]; decide) (by rw [c_2]; decide) (by rw [c_2]; rfl) (by decide) ?_
    refine lv_iload_n hx hb dX0_tellOfSaying_57 rfl (lv_at hl 0 rfl) ?_
    refine kRi (rS C0 (tX1_reaches l D cI cS (fX0_sayingHas sy v1 0) (fX1_reaches (fX0_sayingHas sy v1 0)) rfl) gX0_tellOfSaying_X1_reaches rfl ⟨rfl, rfl⟩ pdX1_reaches rfl ⟨Nat.le_of_ble_eq_true rfl, Nat.le_of_ble_eq_true rfl⟩ (fun _ _ _ _ q => q) (fun _ _ _ _ => vp0) hl.1 rfl (Nat.le_of_ble_eq_true rfl) dX0_tellOfSaying_58 ⟨Nat.zero_le _, Nat.zero_le _⟩) ?_
    exact eRi C0 h dX0_tellOfSaying_61
  have h := ifn c_2 h
  by_cases c_3 : v2 = 7
  · have h := ifp c_3 h
    refine lv_tableIn (tgt := 62) hx hb dX0_tellOfSaying_8 (by rw [c_3]; decide) (by rw [c_3]; decide) (by rw [c_3]; rfl) (by decide) ?_
    refine lv_iload_n hx hb dX0_tellOfSaying_62 rfl (lv_at hl 0 rfl) ?_
    refine lv_aload_n hx hb dX0_tellOfSaying_63 rfl (lv_at hl 1 rfl) ?_
    refine va_get (D := D) (ci := 0) (v := .int dy) (C := RX0) (T := TX0) (N := 8) hx hb hts hinX0 hown hE.1 hP 0 rfl rfl 6 (by decide) (hts _ (List.mem_of_getElem? (i := 1) rfl)) (fun _ h9 => h9) rfl dX0_tellOfSaying_64 ?_
    refine kRi (rS C0 (tX1_blurs l D cI cS (fX0_sayingHas sy v1 0) dy (fX1_blurs (fX0_sayingHas sy v1 0) dy) rfl) gX0_tellOfSaying_X1_blurs rfl ⟨rfl, rfl⟩ pdX1_blurs rfl ⟨Nat.le_of_ble_eq_true rfl, Nat.le_of_ble_eq_true rfl⟩ (fun _ _ _ _ q => q) (fun _ _ _ _ => vp0) hl.1 rfl (Nat.le_of_ble_eq_true rfl) dX0_tellOfSaying_67 ⟨Nat.zero_le _, Nat.zero_le _⟩) ?_
    exact eRi C0 h dX0_tellOfSaying_70
  have h := ifn c_3 h
  by_cases c_4 : v2 = 8
  · have h := ifp c_4 h
    refine lv_tableIn (tgt := 71) hx hb dX0_tellOfSaying_8 (by rw [c_4]; decide) (by rw [c_4]; decide) (by rw [c_4]; rfl) (by decide) ?_
    refine lv_iload_n hx hb dX0_tellOfSaying_71 rfl (lv_at hl 0 rfl) ?_
    refine kRi (rS C0 (tX1_resists l D cI cS (fX0_sayingHas sy v1 0) (fX1_resists (fX0_sayingHas sy v1 0)) rfl) gX0_tellOfSaying_X1_resists rfl ⟨rfl, rfl⟩ pdX1_resists rfl ⟨Nat.le_of_ble_eq_true rfl, Nat.le_of_ble_eq_true rfl⟩ (fun _ _ _ _ q => q) (fun _ _ _ _ => vp0) hl.1 rfl (Nat.le_of_ble_eq_true rfl) dX0_tellOfSaying_72 ⟨Nat.zero_le _, Nat.zero_le _⟩) ?_
    exact eRi C0 h dX0_tellOfSaying_75
  have h := ifn c_4 h
  refine lv_tableOut (tgt := 76) hx hb dX0_tellOfSaying_8 (tb0 (tbS (k := 5) (by decide) c_1 (tbS (k := 6) (by decide) c_2 (tbS (k := 7) (by decide) c_3 (tbS (k := 8) (by decide) c_4 (tbE (by decide))))))) (by decide) ?_
  refine lv_aload_n hx hb dX0_tellOfSaying_76 rfl (lv_at hl 1 rfl) ?_
  refine lv_iload_n hx hb dX0_tellOfSaying_77 rfl (lv_at hl 2 rfl) ?_
  refine lv_iload_n hx hb dX0_tellOfSaying_78 rfl (lv_at hl 3 rfl) ?_
  have hPc := hP.sub (ws' := (wX0 cI cS a0 a1 a2 a3 a4 pl sp sy sh sc nc dy zz)) [0, 1, 2, 3, 4] rfl
  refine kRi (rV C0 (tX0_sayingHas l D cI cS a0 a1 a2 a3 a4 pl sp sy sh sc nc dy zz v1 v2 (fX0_sayingHas sy v1 v2) rfl) RX0 gX0_tellOfSaying_X0_sayingHas rfl ⟨rfl, rfl⟩ pdX0_sayingHas rfl ⟨Nat.le_of_ble_eq_true rfl, Nat.le_of_ble_eq_true rfl⟩ (fun _ _ _ _ q => q) (va_recv hE.1 hPc (ci := 0) (q0 := 0) rfl rfl) (fun U hU _ _ => by rw [hU]; exact hPc) hl.1 rfl (Nat.le_of_ble_eq_true rfl) dX0_tellOfSaying_79 ⟨Nat.zero_le _, Nat.zero_le _⟩) ?_
  exact eRi C0 h dX0_tellOfSaying_82
def fX0_isFinished (sy : Nat → Int32) (v1 : Int32) : Int32 := (if (fX0_sayingHas sy v1 3) = 1 then 1 else 0)
abbrev rmX0_isFinished : Room := { frames := 1, cells := 0, slots := 0, locals := 23 }
theorem pdX0_isFinished : (yX0_isFinished.cls = RX0 ∧ yX0_isFinished.cls ≠ "java/lang/invoke/MethodHandle" ∧ yX0_isFinished.cls ≠ "java/lang/invoke/VarHandle" ∧ (parseMethodDescriptor yX0_isFinished.desc).map (fun d => d.parameters.length) = some 1) := by decide +kernel
set_option maxHeartbeats 4000000 in
set_option maxRecDepth 100000 in
theorem tX0_isFinished (l : Launch) (D : va_G) (cI cS : ClassId) (a0 a1 a2 a3 a4 : Nat) (pl : Nat → Int32) (sp : Nat → Int32) (sy : Nat → Int32) (sh : Nat → Int32) (sc : Int32) (nc : Int32) (dy : Int32) (zz : Int32) (v1 : Int32) (z0 : Int32) (h : fX0_isFinished sy v1 = z0) : Met l yX0_isFinished wsX0_isFinished rmX0_isFinished (PZ D cI cS [.ref a0, .int v1] (fun U => va_P D vwCl (wX0 cI cS a0 a1 a2 a3 a4 pl sp sy sh sc nc dy zz) U.heap)) (vp_Si (fun x => x = z0)) 0 0 (fun _ => False) := by
  refine Met.mk RX0 (by decide) rfl rfl (Nat.le_of_ble_eq_true rfl) ?_
  intro p e s m below meth c ls C0 hP hl
  have hl : lv_has ls 2 [(0, .ref a0), (1, .int v1)] := hl
  obtain ⟨hx, hb, hr, hml, hown, hts, hlk, hE⟩ := id C0
  rw [fX0_isFinished] at h
  refine lv_aload_n hx hb dX0_isFinished_0 rfl (lv_at hl 0 rfl) ?_
  refine lv_iload_n hx hb dX0_isFinished_1 rfl (lv_at hl 1 rfl) ?_
  refine lv_iconst (v := 3) hx hb dX0_isFinished_2 (by decide) ?_
  have hPc := hP.sub (ws' := (wX0 cI cS a0 a1 a2 a3 a4 pl sp sy sh sc nc dy zz)) [0, 1, 2, 3, 4] rfl
  refine kRi (rV C0 (tX0_sayingHas l D cI cS a0 a1 a2 a3 a4 pl sp sy sh sc nc dy zz v1 3 (fX0_sayingHas sy v1 3) rfl) RX0 gX0_isFinished_X0_sayingHas rfl ⟨rfl, rfl⟩ pdX0_sayingHas rfl ⟨Nat.le_of_ble_eq_true rfl, Nat.le_of_ble_eq_true rfl⟩ (fun _ _ _ _ q => q) (va_recv hE.1 hPc (ci := 0) (q0 := 0) rfl rfl) (fun U hU _ _ => by rw [hU]; exact hPc) hl.1 rfl (Nat.le_of_ble_eq_true rfl) dX0_isFinished_3 ⟨Nat.zero_le _, Nat.zero_le _⟩) ?_
  refine lv_iconst (v := 1) hx hb dX0_isFinished_6 (by decide) ?_
  refine lv_icmp_ne (tgt := 14) hx hb dX0_isFinished_7 (by decide) (fun c_1 => ?_) (fun c_1 => ?_)
  · have h := ifn c_1 h
    refine lv_iconst (v := 0) hx hb dX0_isFinished_14 (by decide) ?_
    exact eRz C0 rfl h dX0_isFinished_15
  · have h := ifp c_1 h
    refine lv_iconst (v := 1) hx hb dX0_isFinished_10 (by decide) ?_
    refine lv_goto (tgt := 15) hx hb dX0_isFinished_11 (by decide) ?_
    exact eRz C0 rfl h dX0_isFinished_15
theorem zzX0_isFinished (sy : Nat → Int32) (v1 : Int32) : narrow .boolean (.int (fX0_isFinished sy v1)) = .int (fX0_isFinished sy v1) := by unfold fX0_isFinished; (repeat' split) <;> first | rfl | exact zzX0_hasSaying .. | exact zzX0_hasShip ..
def fX0_shareAt (sy : Nat → Int32) (v1 : Int32) (v2 : Int32) : Int32 := (if (if 0 ≤ (v2 - (fX0_sayingHas sy v1 1)) then v2 - (fX0_sayingHas sy v1 1) else 0 - (v2 - (fX0_sayingHas sy v1 1))) ≤ (fX1_reaches (fX0_sayingHas sy v1 0)) then ((fX1_thickens (fX0_sayingHas sy v1 0) (fX0_sayingHas sy v1 2) (fX0_sayingHas sy v1 4)) - ((if 0 ≤ (v2 - (fX0_sayingHas sy v1 1)) then v2 - (fX0_sayingHas sy v1 1) else 0 - (v2 - (fX0_sayingHas sy v1 1))) * (fX1_fades (fX0_sayingHas sy v1 0) (fX1_thickens (fX0_sayingHas sy v1 0) (fX0_sayingHas sy v1 2) (fX0_sayingHas sy v1 4))))) else 0)
abbrev rmX0_shareAt : Room := { frames := 1, cells := 0, slots := 0, locals := 25 }
theorem pdX0_shareAt : (yX0_shareAt.cls = RX0 ∧ yX0_shareAt.cls ≠ "java/lang/invoke/MethodHandle" ∧ yX0_shareAt.cls ≠ "java/lang/invoke/VarHandle" ∧ (parseMethodDescriptor yX0_shareAt.desc).map (fun d => d.parameters.length) = some 2) := by decide +kernel
set_option maxHeartbeats 4000000 in
set_option maxRecDepth 100000 in
theorem tX0_shareAt (l : Launch) (D : va_G) (cI cS : ClassId) (a0 a1 a2 a3 a4 : Nat) (pl : Nat → Int32) (sp : Nat → Int32) (sy : Nat → Int32) (sh : Nat → Int32) (sc : Int32) (nc : Int32) (dy : Int32) (zz : Int32) (v1 : Int32) (v2 : Int32) (z0 : Int32) (h : fX0_shareAt sy v1 v2 = z0) : Met l yX0_shareAt wsX0_shareAt rmX0_shareAt (PZ D cI cS [.ref a0, .int v1, .int v2] (fun U => va_P D vwCl (wX0 cI cS a0 a1 a2 a3 a4 pl sp sy sh sc nc dy zz) U.heap)) (vp_Si (fun x => x = z0)) 0 0 (fun _ => False) := by
  refine Met.mk RX0 (by decide) rfl rfl (Nat.le_of_ble_eq_true rfl) ?_
  intro p e s m below meth c ls C0 hP hl
  have hl : lv_has ls 6 [(0, .ref a0), (1, .int v1), (2, .int v2)] := hl
  obtain ⟨hx, hb, hr, hml, hown, hts, hlk, hE⟩ := id C0
  rw [fX0_shareAt] at h
  refine lv_aload_n hx hb dX0_shareAt_0 rfl (lv_at hl 0 rfl) ?_
  refine lv_iload_n hx hb dX0_shareAt_1 rfl (lv_at hl 1 rfl) ?_
  refine lv_iconst (v := 0) hx hb dX0_shareAt_2 (by decide) ?_
  have hPc := hP.sub (ws' := (wX0 cI cS a0 a1 a2 a3 a4 pl sp sy sh sc nc dy zz)) [0, 1, 2, 3, 4] rfl
  refine kRi (rV C0 (tX0_sayingHas l D cI cS a0 a1 a2 a3 a4 pl sp sy sh sc nc dy zz v1 0 (fX0_sayingHas sy v1 0) rfl) RX0 gX0_shareAt_X0_sayingHas rfl ⟨rfl, rfl⟩ pdX0_sayingHas rfl ⟨Nat.le_of_ble_eq_true rfl, Nat.le_of_ble_eq_true rfl⟩ (fun _ _ _ _ q => q) (va_recv hE.1 hPc (ci := 0) (q0 := 0) rfl rfl) (fun U hU _ _ => by rw [hU]; exact hPc) hl.1 rfl (Nat.le_of_ble_eq_true rfl) dX0_shareAt_3 ⟨Nat.zero_le _, Nat.zero_le _⟩) ?_
  refine lv_istore_n (lv' := [(3, .int (fX0_sayingHas sy v1 0)), (0, .ref a0), (1, .int v1), (2, .int v2)]) hx hb dX0_shareAt_6 rfl hl (by decide) rfl (fun ls hl => ?_)
  refine lv_iload_n hx hb dX0_shareAt_7 rfl (lv_at hl 3 rfl) ?_
  refine lv_aload_n hx hb dX0_shareAt_8 rfl (lv_at hl 1 rfl) ?_
  refine lv_iload_n hx hb dX0_shareAt_9 rfl (lv_at hl 2 rfl) ?_
  refine lv_iconst (v := 1) hx hb dX0_shareAt_10 (by decide) ?_
  have hPc := hP.sub (ws' := (wX0 cI cS a0 a1 a2 a3 a4 pl sp sy sh sc nc dy zz)) [0, 1, 2, 3, 4] rfl
  refine kRi (rV C0 (tX0_sayingHas l D cI cS a0 a1 a2 a3 a4 pl sp sy sh sc nc dy zz v1 1 (fX0_sayingHas sy v1 1) rfl) RX0 gX0_shareAt_X0_sayingHas rfl ⟨rfl, rfl⟩ pdX0_sayingHas rfl ⟨Nat.le_of_ble_eq_true rfl, Nat.le_of_ble_eq_true rfl⟩ (fun _ _ _ _ q => q) (va_recv hE.1 hPc (ci := 0) (q0 := 0) rfl rfl) (fun U hU _ _ => by rw [hU]; exact hPc) hl.1 rfl (Nat.le_of_ble_eq_true rfl) dX0_shareAt_11 ⟨Nat.zero_le _, Nat.zero_le _⟩) ?_
  refine lv_isub hx hb dX0_shareAt_14 ?_
  refine va_mabs hx hb (hml.trans hl.1.symm) hown (hts _ (List.mem_of_getElem? (i := 1) rfl)) (hts _ (List.mem_of_getElem? (i := 2) rfl)) (hts _ (List.mem_of_getElem? (i := 3) rfl)) (hts _ (List.mem_of_getElem? (i := 4) rfl)) (Nat.le_of_ble_eq_true rfl) (Nat.le_of_ble_eq_true rfl) (Nat.zero_le _) (Nat.zero_le _) dX0_shareAt_15 ?_
  refine lv_istore (lv' := [(4, .int (if 0 ≤ (v2 - (fX0_sayingHas sy v1 1)) then v2 - (fX0_sayingHas sy v1 1) else 0 - (v2 - (fX0_sayingHas sy v1 1)))), (3, .int (fX0_sayingHas sy v1 0)), (0, .ref a0), (1, .int v1), (2, .int v2)]) hx hb dX0_shareAt_18 hl (by decide) rfl (fun ls hl => ?_)
  refine lv_iload hx hb dX0_shareAt_20 (lv_at hl 0 rfl) ?_
  refine lv_iload_n hx hb dX0_shareAt_22 rfl (lv_at hl 1 rfl) ?_
  refine kRi (rS C0 (tX1_reaches l D cI cS (fX0_sayingHas sy v1 0) (fX1_reaches (fX0_sayingHas sy v1 0)) rfl) gX0_shareAt_X1_reaches rfl ⟨rfl, rfl⟩ pdX1_reaches rfl ⟨Nat.le_of_ble_eq_true rfl, Nat.le_of_ble_eq_true rfl⟩ (fun _ _ _ _ q => q) (fun _ _ _ _ => vp0) hl.1 rfl (Nat.le_of_ble_eq_true rfl) dX0_shareAt_23 ⟨Nat.zero_le _, Nat.zero_le _⟩) ?_
  refine lv_icmp_le (tgt := 31) hx hb dX0_shareAt_26 (by decide) (fun c_1 => ?_) (fun c_1 => ?_)
  · have h := ifp c_1 h
    refine lv_iload_n hx hb dX0_shareAt_31 rfl (lv_at hl 1 rfl) ?_
    refine lv_aload_n hx hb dX0_shareAt_32 rfl (lv_at hl 2 rfl) ?_
    refine lv_iload_n hx hb dX0_shareAt_33 rfl (lv_at hl 3 rfl) ?_
    refine lv_iconst (v := 2) hx hb dX0_shareAt_34 (by decide) ?_
    have hPc := hP.sub (ws' := (wX0 cI cS a0 a1 a2 a3 a4 pl sp sy sh sc nc dy zz)) [0, 1, 2, 3, 4] rfl
    refine kRi (rV C0 (tX0_sayingHas l D cI cS a0 a1 a2 a3 a4 pl sp sy sh sc nc dy zz v1 2 (fX0_sayingHas sy v1 2) rfl) RX0 gX0_shareAt_X0_sayingHas rfl ⟨rfl, rfl⟩ pdX0_sayingHas rfl ⟨Nat.le_of_ble_eq_true rfl, Nat.le_of_ble_eq_true rfl⟩ (fun _ _ _ _ q => q) (va_recv hE.1 hPc (ci := 0) (q0 := 0) rfl rfl) (fun U hU _ _ => by rw [hU]; exact hPc) hl.1 rfl (Nat.le_of_ble_eq_true rfl) dX0_shareAt_35 ⟨Nat.zero_le _, Nat.zero_le _⟩) ?_
    refine lv_aload_n hx hb dX0_shareAt_38 rfl (lv_at hl 2 rfl) ?_
    refine lv_iload_n hx hb dX0_shareAt_39 rfl (lv_at hl 3 rfl) ?_
    refine lv_iconst (v := 4) hx hb dX0_shareAt_40 (by decide) ?_
    have hPc := hP.sub (ws' := (wX0 cI cS a0 a1 a2 a3 a4 pl sp sy sh sc nc dy zz)) [0, 1, 2, 3, 4] rfl
    refine kRi (rV C0 (tX0_sayingHas l D cI cS a0 a1 a2 a3 a4 pl sp sy sh sc nc dy zz v1 4 (fX0_sayingHas sy v1 4) rfl) RX0 gX0_shareAt_X0_sayingHas rfl ⟨rfl, rfl⟩ pdX0_sayingHas rfl ⟨Nat.le_of_ble_eq_true rfl, Nat.le_of_ble_eq_true rfl⟩ (fun _ _ _ _ q => q) (va_recv hE.1 hPc (ci := 0) (q0 := 0) rfl rfl) (fun U hU _ _ => by rw [hU]; exact hPc) hl.1 rfl (Nat.le_of_ble_eq_true rfl) dX0_shareAt_41 ⟨Nat.zero_le _, Nat.zero_le _⟩) ?_
    refine kRi (rS C0 (tX1_thickens l D cI cS (fX0_sayingHas sy v1 0) (fX0_sayingHas sy v1 2) (fX0_sayingHas sy v1 4) (fX1_thickens (fX0_sayingHas sy v1 0) (fX0_sayingHas sy v1 2) (fX0_sayingHas sy v1 4)) rfl) gX0_shareAt_X1_thickens rfl ⟨rfl, rfl⟩ pdX1_thickens rfl ⟨Nat.le_of_ble_eq_true rfl, Nat.le_of_ble_eq_true rfl⟩ (fun _ _ _ _ q => q) (fun _ _ _ _ => vp0) hl.1 rfl (Nat.le_of_ble_eq_true rfl) dX0_shareAt_44 ⟨Nat.zero_le _, Nat.zero_le _⟩) ?_
    refine lv_istore (lv' := [(5, .int (fX1_thickens (fX0_sayingHas sy v1 0) (fX0_sayingHas sy v1 2) (fX0_sayingHas sy v1 4))), (4, .int (if 0 ≤ (v2 - (fX0_sayingHas sy v1 1)) then v2 - (fX0_sayingHas sy v1 1) else 0 - (v2 - (fX0_sayingHas sy v1 1)))), (3, .int (fX0_sayingHas sy v1 0)), (0, .ref a0), (1, .int v1), (2, .int v2)]) hx hb dX0_shareAt_47 hl (by decide) rfl (fun ls hl => ?_)
    refine lv_iload hx hb dX0_shareAt_49 (lv_at hl 0 rfl) ?_
    refine lv_iload hx hb dX0_shareAt_51 (lv_at hl 1 rfl) ?_
    refine lv_iload_n hx hb dX0_shareAt_53 rfl (lv_at hl 2 rfl) ?_
    refine lv_iload hx hb dX0_shareAt_54 (lv_at hl 0 rfl) ?_
    refine kRi (rS C0 (tX1_fades l D cI cS (fX0_sayingHas sy v1 0) (fX1_thickens (fX0_sayingHas sy v1 0) (fX0_sayingHas sy v1 2) (fX0_sayingHas sy v1 4)) (fX1_fades (fX0_sayingHas sy v1 0) (fX1_thickens (fX0_sayingHas sy v1 0) (fX0_sayingHas sy v1 2) (fX0_sayingHas sy v1 4))) rfl) gX0_shareAt_X1_fades rfl ⟨rfl, rfl⟩ pdX1_fades rfl ⟨Nat.le_of_ble_eq_true rfl, Nat.le_of_ble_eq_true rfl⟩ (fun _ _ _ _ q => q) (fun _ _ _ _ => vp0) hl.1 rfl (Nat.le_of_ble_eq_true rfl) dX0_shareAt_56 ⟨Nat.zero_le _, Nat.zero_le _⟩) ?_
    refine lv_imul hx hb dX0_shareAt_59 ?_
    refine lv_isub hx hb dX0_shareAt_60 ?_
    exact eRi C0 h dX0_shareAt_61
  · have h := ifn c_1 h
    refine lv_iconst (v := 0) hx hb dX0_shareAt_29 (by decide) ?_
    exact eRi C0 h dX0_shareAt_30
def fX0_thickAt_4 (sy : Nat → Int32) (sc : Int32) (v1 : Int32) : Nat → Int32 → Int32 → Option (Int32)
  | 0, _, _ => none
  | n + 1, v2, v3 => (if sc ≤ v3 then some (if 0 < v2 then v2 else 0) else (if (fX0_isFinished sy v3) = 0 then fX0_thickAt_4 sy sc v1 n (v2 + (fX0_shareAt sy v3 v1)) (v3 + 1) else fX0_thickAt_4 sy sc v1 n v2 (v3 + 1)))
def fX0_thickAt (F : Nat) (sy : Nat → Int32) (sc : Int32) (v1 : Int32) : Option (Int32) := fX0_thickAt_4 sy sc v1 F 0 0
abbrev rmX0_thickAt : Room := { frames := 2, cells := 0, slots := 0, locals := 50 }
theorem pdX0_thickAt : (yX0_thickAt.cls = RX0 ∧ yX0_thickAt.cls ≠ "java/lang/invoke/MethodHandle" ∧ yX0_thickAt.cls ≠ "java/lang/invoke/VarHandle" ∧ (parseMethodDescriptor yX0_thickAt.desc).map (fun d => d.parameters.length) = some 1) := by decide +kernel
set_option maxHeartbeats 4000000 in
set_option maxRecDepth 100000 in
theorem lX0_thickAt_4 {p : Program} {l : Launch} {e : Env} {s : State} {m : MethodId} {av : Array Value} {below : List Frame} {meth : Method} {c : Code} {D : va_G} {cI cS : ClassId} {a0 a1 a2 a3 a4 : Nat} (C0 : CX p s m av meth c RX0 cX0_thickAt 4 (some .int) wsX0_thickAt D cI cS) (F : Nat) (pl : Nat → Int32) (sp : Nat → Int32) (sy : Nat → Int32) (sh : Nat → Int32) (sc : Int32) (nc : Int32) (dy : Int32) (zz : Int32) (v1 : Int32) (z0 : Int32) (hP : va_P D vwCl (wX0 cI cS a0 a1 a2 a3 a4 pl sp sy sh sc nc dy zz) s.heap) : ∀ (n : Nat) (v2 : Int32) (v3 : Int32), ∀ (ls : Array Slot), lv_has ls 4 [(0, .ref a0), (1, .int v1), (2, .int v2), (3, .int v3)] → fX0_thickAt_4 sy sc v1 n v2 v3 = some z0 → W p l e rmX0_thickAt s m av below meth c s.heap [] 0 0 (MQ below (vp_Si (fun x => x = z0)) av s 0 0 (fun _ => False)) (F0 m 4 ls []) := by
  obtain ⟨hx, hb, hr, hml, hown, hts, hlk, hE⟩ := id C0
  have hinX0 : ∀ w ∈ u_ws RX0 TX0 8, w ∈ wsX0_thickAt := by decide +kernel
  intro n
  induction n with
  | zero =>
    intro v2 v3 ls hl h
    cases (show none = some z0 from h)
  | succ n ih =>
    intro v2 v3 ls hl h
    rw [fX0_thickAt_4] at h
    refine lv_iload_n hx hb dX0_thickAt_4 rfl (lv_at hl 3 rfl) ?_
    refine lv_aload_n hx hb dX0_thickAt_5 rfl (lv_at hl 0 rfl) ?_
    refine va_get (D := D) (ci := 0) (v := .int sc) (C := RX0) (T := TX0) (N := 8) hx hb hts hinX0 hown hE.1 hP 0 rfl rfl 4 (by decide) (hts _ (List.mem_of_getElem? (i := 1) rfl)) (fun _ h9 => h9) rfl dX0_thickAt_6 ?_
    refine lv_icmp_ge (tgt := 35) hx hb dX0_thickAt_9 (by decide) (fun c_1 => ?_) (fun c_1 => ?_)
    · have h := ifp c_1 h
      refine lv_iconst (v := 0) hx hb dX0_thickAt_35 (by decide) ?_
      refine lv_iload_n hx hb dX0_thickAt_36 rfl (lv_at hl 2 rfl) ?_
      refine va_mmax hx hb (hml.trans hl.1.symm) hown (hts _ (List.mem_of_getElem? (i := 2) rfl)) (hts _ (List.mem_of_getElem? (i := 3) rfl)) (hts _ (List.mem_of_getElem? (i := 4) rfl)) (hts _ (List.mem_of_getElem? (i := 5) rfl)) (Nat.le_of_ble_eq_true rfl) (Nat.le_of_ble_eq_true rfl) (Nat.zero_le _) (Nat.zero_le _) dX0_thickAt_37 ?_
      exact eRi C0 (Option.some.inj h) dX0_thickAt_40
    · have h := ifn c_1 h
      refine lv_aload_n hx hb dX0_thickAt_12 rfl (lv_at hl 0 rfl) ?_
      refine lv_iload_n hx hb dX0_thickAt_13 rfl (lv_at hl 3 rfl) ?_
      have hPc := hP.sub (ws' := (wX0 cI cS a0 a1 a2 a3 a4 pl sp sy sh sc nc dy zz)) [0, 1, 2, 3, 4] rfl
      refine kRi (rV C0 (tX0_isFinished l D cI cS a0 a1 a2 a3 a4 pl sp sy sh sc nc dy zz v3 (fX0_isFinished sy v3) rfl) RX0 gX0_thickAt_X0_isFinished rfl ⟨rfl, rfl⟩ pdX0_isFinished rfl ⟨Nat.le_of_ble_eq_true rfl, Nat.le_of_ble_eq_true rfl⟩ (fun _ _ _ _ q => q) (va_recv hE.1 hPc (ci := 0) (q0 := 0) rfl rfl) (fun U hU _ _ => by rw [hU]; exact hPc) hl.1 rfl (Nat.le_of_ble_eq_true rfl) dX0_thickAt_14 ⟨Nat.zero_le _, Nat.zero_le _⟩) ?_
      refine lv_if_ne (tgt := 29) hx hb dX0_thickAt_17 (by decide) (fun c_2 => ?_) (fun c_2 => ?_)
      · have h := ifn c_2 h
        refine lv_iinc (v := v3 + 1) (lv' := [(3, .int (v3 + 1)), (0, .ref a0), (1, .int v1), (2, .int v2)]) hx hb dX0_thickAt_29 hl (k := 3) rfl rfl (by decide) rfl (fun ls hl => ?_)
        refine lv_goto (tgt := 4) hx hb dX0_thickAt_32 (by decide) ?_
        exact ih v2 (v3 + 1) _ (lv_sub hl [1, 2, 3, 0] rfl) h
      · have h := ifp c_2 h
        refine lv_iload_n hx hb dX0_thickAt_20 rfl (lv_at hl 2 rfl) ?_
        refine lv_aload_n hx hb dX0_thickAt_21 rfl (lv_at hl 0 rfl) ?_
        refine lv_iload_n hx hb dX0_thickAt_22 rfl (lv_at hl 3 rfl) ?_
        refine lv_iload_n hx hb dX0_thickAt_23 rfl (lv_at hl 1 rfl) ?_
        have hPc := hP.sub (ws' := (wX0 cI cS a0 a1 a2 a3 a4 pl sp sy sh sc nc dy zz)) [0, 1, 2, 3, 4] rfl
        refine kRi (rV C0 (tX0_shareAt l D cI cS a0 a1 a2 a3 a4 pl sp sy sh sc nc dy zz v3 v1 (fX0_shareAt sy v3 v1) rfl) RX0 gX0_thickAt_X0_shareAt rfl ⟨rfl, rfl⟩ pdX0_shareAt rfl ⟨Nat.le_of_ble_eq_true rfl, Nat.le_of_ble_eq_true rfl⟩ (fun _ _ _ _ q => q) (va_recv hE.1 hPc (ci := 0) (q0 := 0) rfl rfl) (fun U hU _ _ => by rw [hU]; exact hPc) hl.1 rfl (Nat.le_of_ble_eq_true rfl) dX0_thickAt_24 ⟨Nat.zero_le _, Nat.zero_le _⟩) ?_
        refine lv_iadd hx hb dX0_thickAt_27 ?_
        refine lv_istore_n (lv' := [(2, .int (v2 + (fX0_shareAt sy v3 v1))), (0, .ref a0), (1, .int v1), (3, .int v3)]) hx hb dX0_thickAt_28 rfl hl (by decide) rfl (fun ls hl => ?_)
        refine lv_iinc (v := v3 + 1) (lv' := [(3, .int (v3 + 1)), (2, .int (v2 + (fX0_shareAt sy v3 v1))), (0, .ref a0), (1, .int v1)]) hx hb dX0_thickAt_29 hl (k := 3) rfl rfl (by decide) rfl (fun ls hl => ?_)
        refine lv_goto (tgt := 4) hx hb dX0_thickAt_32 (by decide) ?_
        exact ih (v2 + (fX0_shareAt sy v3 v1)) (v3 + 1) _ (lv_sub hl [2, 3, 1, 0] rfl) h
set_option maxHeartbeats 4000000 in
set_option maxRecDepth 100000 in
theorem tX0_thickAt (l : Launch) (D : va_G) (cI cS : ClassId) (F : Nat) (a0 a1 a2 a3 a4 : Nat) (pl : Nat → Int32) (sp : Nat → Int32) (sy : Nat → Int32) (sh : Nat → Int32) (sc : Int32) (nc : Int32) (dy : Int32) (zz : Int32) (v1 : Int32) (z0 : Int32) (h : fX0_thickAt F sy sc v1 = some z0) : Met l yX0_thickAt wsX0_thickAt rmX0_thickAt (PZ D cI cS [.ref a0, .int v1] (fun U => va_P D vwCl (wX0 cI cS a0 a1 a2 a3 a4 pl sp sy sh sc nc dy zz) U.heap)) (vp_Si (fun x => x = z0)) 0 0 (fun _ => False) := by
  refine Met.mk RX0 (by decide) rfl rfl (Nat.le_of_ble_eq_true rfl) ?_
  intro p e s m below meth c ls C0 hP hl
  have hl : lv_has ls 4 [(0, .ref a0), (1, .int v1)] := hl
  obtain ⟨hx, hb, hr, hml, hown, hts, hlk, hE⟩ := id C0
  have hinX0 : ∀ w ∈ u_ws RX0 TX0 8, w ∈ wsX0_thickAt := by decide +kernel
  rw [fX0_thickAt] at h
  refine lv_iconst (v := 0) hx hb dX0_thickAt_0 (by decide) ?_
  refine lv_istore_n (lv' := [(2, .int 0), (0, .ref a0), (1, .int v1)]) hx hb dX0_thickAt_1 rfl hl (by decide) rfl (fun ls hl => ?_)
  refine lv_iconst (v := 0) hx hb dX0_thickAt_2 (by decide) ?_
  refine lv_istore_n (lv' := [(3, .int 0), (2, .int 0), (0, .ref a0), (1, .int v1)]) hx hb dX0_thickAt_3 rfl hl (by decide) rfl (fun ls hl => ?_)
  exact lX0_thickAt_4 (l := l) (e := e) (below := below) C0 F pl sp sy sh sc nc dy zz v1 z0 hP F 0 0 _ (lv_sub hl [2, 3, 1, 0] rfl) h
def fX0_isInPort (sh : Nat → Int32) (v1 : Int32) : Int32 := (if (fX0_shipHas sh v1 0) = 15 then 1 else 0)
abbrev rmX0_isInPort : Room := { frames := 2, cells := 0, slots := 0, locals := 43 }
theorem pdX0_isInPort : (yX0_isInPort.cls = RX0 ∧ yX0_isInPort.cls ≠ "java/lang/invoke/MethodHandle" ∧ yX0_isInPort.cls ≠ "java/lang/invoke/VarHandle" ∧ (parseMethodDescriptor yX0_isInPort.desc).map (fun d => d.parameters.length) = some 1) := by decide +kernel
set_option maxHeartbeats 4000000 in
set_option maxRecDepth 100000 in
theorem tX0_isInPort (l : Launch) (D : va_G) (cI cS : ClassId) (a0 a1 a2 a3 a4 : Nat) (pl : Nat → Int32) (sp : Nat → Int32) (sy : Nat → Int32) (sh : Nat → Int32) (sc : Int32) (nc : Int32) (dy : Int32) (zz : Int32) (v1 : Int32) (z0 : Int32) (h : fX0_isInPort sh v1 = z0) : Met l yX0_isInPort wsX0_isInPort rmX0_isInPort (PZ D cI cS [.ref a0, .int v1] (fun U => va_P D vwCl (wX0 cI cS a0 a1 a2 a3 a4 pl sp sy sh sc nc dy zz) U.heap)) (vp_Si (fun x => x = z0)) 0 0 (fun _ => False) := by
  refine Met.mk RX0 (by decide) rfl rfl (Nat.le_of_ble_eq_true rfl) ?_
  intro p e s m below meth c ls C0 hP hl
  have hl : lv_has ls 2 [(0, .ref a0), (1, .int v1)] := hl
  obtain ⟨hx, hb, hr, hml, hown, hts, hlk, hE⟩ := id C0
  rw [fX0_isInPort] at h
  refine lv_aload_n hx hb dX0_isInPort_0 rfl (lv_at hl 0 rfl) ?_
  refine lv_iload_n hx hb dX0_isInPort_1 rfl (lv_at hl 1 rfl) ?_
  refine lv_iconst (v := 0) hx hb dX0_isInPort_2 (by decide) ?_
  have hPc := hP.sub (ws' := (wX0 cI cS a0 a1 a2 a3 a4 pl sp sy sh sc nc dy zz)) [0, 1, 2, 3, 4] rfl
  refine kRi (rV C0 (tX0_shipHas l D cI cS a0 a1 a2 a3 a4 pl sp sy sh sc nc dy zz v1 0 (fX0_shipHas sh v1 0) rfl) RX0 gX0_isInPort_X0_shipHas rfl ⟨rfl, rfl⟩ pdX0_shipHas rfl ⟨Nat.le_of_ble_eq_true rfl, Nat.le_of_ble_eq_true rfl⟩ (fun _ _ _ _ q => q) (va_recv hE.1 hPc (ci := 0) (q0 := 0) rfl rfl) (fun U hU _ _ => by rw [hU]; exact hPc) hl.1 rfl (Nat.le_of_ble_eq_true rfl) dX0_isInPort_3 ⟨Nat.zero_le _, Nat.zero_le _⟩) ?_
  refine lv_bipush (v := 15) hx hb dX0_isInPort_6 (by decide) ?_
  refine lv_icmp_ne (tgt := 15) hx hb dX0_isInPort_8 (by decide) (fun c_1 => ?_) (fun c_1 => ?_)
  · have h := ifn c_1 h
    refine lv_iconst (v := 0) hx hb dX0_isInPort_15 (by decide) ?_
    exact eRz C0 rfl h dX0_isInPort_16
  · have h := ifp c_1 h
    refine lv_iconst (v := 1) hx hb dX0_isInPort_11 (by decide) ?_
    refine lv_goto (tgt := 16) hx hb dX0_isInPort_12 (by decide) ?_
    exact eRz C0 rfl h dX0_isInPort_16
theorem zzX0_isInPort (sh : Nat → Int32) (v1 : Int32) : narrow .boolean (.int (fX0_isInPort sh v1)) = .int (fX0_isInPort sh v1) := by unfold fX0_isInPort; (repeat' split) <;> first | rfl | exact zzX0_hasSaying .. | exact zzX0_hasShip .. | exact zzX0_isFinished ..
def fX0_goesOnAt (F : Nat) (sy : Nat → Int32) (sh : Nat → Int32) (sc : Int32) (v1 : Int32) (v2 : Int32) : Option (Int32) := (if v2 = 15 then some 0 else Option.bind (fX0_thickAt F sy sc v2) (fun z_2 => (if (fX0_shipHas sh v1 1) < z_2 then some 0 else some 1)))
abbrev rmX0_goesOnAt : Room := { frames := 3, cells := 0, slots := 0, locals := 73 }
theorem pdX0_goesOnAt : (yX0_goesOnAt.cls = RX0 ∧ yX0_goesOnAt.cls ≠ "java/lang/invoke/MethodHandle" ∧ yX0_goesOnAt.cls ≠ "java/lang/invoke/VarHandle" ∧ (parseMethodDescriptor yX0_goesOnAt.desc).map (fun d => d.parameters.length) = some 2) := by decide +kernel
set_option maxHeartbeats 4000000 in
set_option maxRecDepth 100000 in
theorem tX0_goesOnAt (l : Launch) (D : va_G) (cI cS : ClassId) (F : Nat) (a0 a1 a2 a3 a4 : Nat) (pl : Nat → Int32) (sp : Nat → Int32) (sy : Nat → Int32) (sh : Nat → Int32) (sc : Int32) (nc : Int32) (dy : Int32) (zz : Int32) (v1 : Int32) (v2 : Int32) (z0 : Int32) (h : fX0_goesOnAt F sy sh sc v1 v2 = some z0) : Met l yX0_goesOnAt wsX0_goesOnAt rmX0_goesOnAt (PZ D cI cS [.ref a0, .int v1, .int v2] (fun U => va_P D vwCl (wX0 cI cS a0 a1 a2 a3 a4 pl sp sy sh sc nc dy zz) U.heap)) (vp_Si (fun x => x = z0)) 0 0 (fun _ => False) := by
  refine Met.mk RX0 (by decide) rfl rfl (Nat.le_of_ble_eq_true rfl) ?_
  intro p e s m below meth c ls C0 hP hl
  have hl : lv_has ls 3 [(0, .ref a0), (1, .int v1), (2, .int v2)] := hl
  obtain ⟨hx, hb, hr, hml, hown, hts, hlk, hE⟩ := id C0
  rw [fX0_goesOnAt] at h
  refine lv_iload_n hx hb dX0_goesOnAt_0 rfl (lv_at hl 2 rfl) ?_
  refine lv_bipush (v := 15) hx hb dX0_goesOnAt_1 (by decide) ?_
  refine lv_icmp_eq (tgt := 24) hx hb dX0_goesOnAt_3 (by decide) (fun c_1 => ?_) (fun c_1 => ?_)
  · have h := ifp c_1 h
    refine lv_iconst (v := 0) hx hb dX0_goesOnAt_24 (by decide) ?_
    exact eRz C0 rfl (Option.some.inj h) dX0_goesOnAt_25
  · have h := ifn c_1 h
    refine lv_aload_n hx hb dX0_goesOnAt_6 rfl (lv_at hl 0 rfl) ?_
    refine lv_iload_n hx hb dX0_goesOnAt_7 rfl (lv_at hl 1 rfl) ?_
    refine lv_iconst (v := 1) hx hb dX0_goesOnAt_8 (by decide) ?_
    have hPc := hP.sub (ws' := (wX0 cI cS a0 a1 a2 a3 a4 pl sp sy sh sc nc dy zz)) [0, 1, 2, 3, 4] rfl
    refine kRi (rV C0 (tX0_shipHas l D cI cS a0 a1 a2 a3 a4 pl sp sy sh sc nc dy zz v1 1 (fX0_shipHas sh v1 1) rfl) RX0 gX0_goesOnAt_X0_shipHas rfl ⟨rfl, rfl⟩ pdX0_shipHas rfl ⟨Nat.le_of_ble_eq_true rfl, Nat.le_of_ble_eq_true rfl⟩ (fun _ _ _ _ q => q) (va_recv hE.1 hPc (ci := 0) (q0 := 0) rfl rfl) (fun U hU _ _ => by rw [hU]; exact hPc) hl.1 rfl (Nat.le_of_ble_eq_true rfl) dX0_goesOnAt_9 ⟨Nat.zero_le _, Nat.zero_le _⟩) ?_
    refine lv_aload_n hx hb dX0_goesOnAt_12 rfl (lv_at hl 0 rfl) ?_
    refine lv_iload_n hx hb dX0_goesOnAt_13 rfl (lv_at hl 2 rfl) ?_
    obtain ⟨z_2, e_3, h⟩ := bds h
    have hPc := hP.sub (ws' := (wX0 cI cS a0 a1 a2 a3 a4 pl sp sy sh sc nc dy zz)) [0, 1, 2, 3, 4] rfl
    refine kRi (rV C0 (tX0_thickAt l D cI cS F a0 a1 a2 a3 a4 pl sp sy sh sc nc dy zz v2 z_2 e_3) RX0 gX0_goesOnAt_X0_thickAt rfl ⟨rfl, rfl⟩ pdX0_thickAt rfl ⟨Nat.le_of_ble_eq_true rfl, Nat.le_of_ble_eq_true rfl⟩ (fun _ _ _ _ q => q) (va_recv hE.1 hPc (ci := 0) (q0 := 0) rfl rfl) (fun U hU _ _ => by rw [hU]; exact hPc) hl.1 rfl (Nat.le_of_ble_eq_true rfl) dX0_goesOnAt_14 ⟨Nat.zero_le _, Nat.zero_le _⟩) ?_
    refine lv_icmp_lt (tgt := 24) hx hb dX0_goesOnAt_17 (by decide) (fun c_4 => ?_) (fun c_4 => ?_)
    · have h := ifp c_4 h
      refine lv_iconst (v := 0) hx hb dX0_goesOnAt_24 (by decide) ?_
      exact eRz C0 rfl (Option.some.inj h) dX0_goesOnAt_25
    · have h := ifn c_4 h
      refine lv_iconst (v := 1) hx hb dX0_goesOnAt_20 (by decide) ?_
      refine lv_goto (tgt := 25) hx hb dX0_goesOnAt_21 (by decide) ?_
      exact eRz C0 rfl (Option.some.inj h) dX0_goesOnAt_25
def fX0_sail (F : Nat) (sy : Nat → Int32) (sh : Nat → Int32) (sc : Int32) (v1 : Int32) : Option ((Nat → Int32)) := Option.bind (fX0_thickAt F sy sc (fX0_shipHas sh v1 0)) (fun z_1 => (if (fX0_shipHas sh v1 1) < z_1 then some (fX0_setOfShip sh v1 3 (if ((fX0_shipHas sh v1 3) + 1) < 9999 then (fX0_shipHas sh v1 3) + 1 else 9999)) else some (fX0_setOfShip sh v1 0 (if ((fX0_shipHas sh v1 0) + (fX0_shipHas sh v1 2)) < 15 then (fX0_shipHas sh v1 0) + (fX0_shipHas sh v1 2) else 15))))
abbrev rmX0_sail : Room := { frames := 3, cells := 0, slots := 0, locals := 73 }
theorem pdX0_sail : (yX0_sail.cls = RX0 ∧ yX0_sail.cls ≠ "java/lang/invoke/MethodHandle" ∧ yX0_sail.cls ≠ "java/lang/invoke/VarHandle" ∧ (parseMethodDescriptor yX0_sail.desc).map (fun d => d.parameters.length) = some 1) := by decide +kernel
set_option maxHeartbeats 4000000 in
set_option maxRecDepth 100000 in
theorem tX0_sail (l : Launch) (D : va_G) (cI cS : ClassId) (F : Nat) (a0 a1 a2 a3 a4 : Nat) (pl : Nat → Int32) (sp : Nat → Int32) (sy : Nat → Int32) (sh : Nat → Int32) (sc : Int32) (nc : Int32) (dy : Int32) (zz : Int32) (v1 : Int32) (z0 : Nat → Int32) (h : fX0_sail F sy sh sc v1 = some z0) (hD0 : va_D (fun _ => True) (wX0 cI cS a0 a1 a2 a3 a4 pl sp sy sh sc nc dy zz)) : Met l yX0_sail wsX0_sail rmX0_sail (PZ D cI cS [.ref a0, .int v1] (fun U => va_P D vwCl (wX0 cI cS a0 a1 a2 a3 a4 pl sp sy sh sc nc dy zz) U.heap)) (qV D (wX0 cI cS a0 a1 a2 a3 a4 pl sp sy sh sc nc dy zz) (wX0 cI cS a0 a1 a2 a3 a4 pl sp sy z0 sc nc dy zz)) 0 0 (wA (wX0 cI cS a0 a1 a2 a3 a4 pl sp sy sh sc nc dy zz)) := by
  refine Met.mk RX0 (by decide) rfl rfl (Nat.le_of_ble_eq_true rfl) ?_
  intro p e s m below meth c ls C0 hP hl
  have hl : lv_has ls 4 [(0, .ref a0), (1, .int v1)] := hl
  obtain ⟨hx, hb, hr, hml, hown, hts, hlk, hE⟩ := id C0
  have hD : ∀ W : va_W, W.map Prod.fst = [a0, a1, a2, a3, a4] → va_D (wA (wX0 cI cS a0 a1 a2 a3 a4 pl sp sy sh sc nc dy zz)) W := fun W hW => hD0.own.re hW
  have hS : va_S (wA (wX0 cI cS a0 a1 a2 a3 a4 pl sp sy sh sc nc dy zz)) s.heap s.heap [] := va_S.rf
  have hP : va_P D vwCl (wX0 cI cS a0 a1 a2 a3 a4 pl sp sy sh sc nc dy zz) s.heap := hP
  rw [fX0_sail] at h
  refine lv_aload_n hx hb dX0_sail_0 rfl (lv_at hl 0 rfl) ?_
  refine lv_iload_n hx hb dX0_sail_1 rfl (lv_at hl 1 rfl) ?_
  refine lv_iconst (v := 0) hx hb dX0_sail_2 (by decide) ?_
  have hPc := hP.sub (ws' := (wX0 cI cS a0 a1 a2 a3 a4 pl sp sy sh sc nc dy zz)) [0, 1, 2, 3, 4] rfl
  refine kRi (rV C0 (tX0_shipHas l D cI cS a0 a1 a2 a3 a4 pl sp sy sh sc nc dy zz v1 0 (fX0_shipHas sh v1 0) rfl) RX0 gX0_sail_X0_shipHas rfl ⟨rfl, rfl⟩ pdX0_shipHas rfl ⟨Nat.le_of_ble_eq_true rfl, Nat.le_of_ble_eq_true rfl⟩ (fun _ _ _ _ q => q) (va_recv hE.1 hPc (ci := 0) (q0 := 0) rfl rfl) (fun U hU _ _ => by rw [hU]; exact hPc) hl.1 rfl (Nat.le_of_ble_eq_true rfl) dX0_sail_3 ⟨Nat.zero_le _, Nat.zero_le _⟩) ?_
  refine lv_istore_n (lv' := [(2, .int (fX0_shipHas sh v1 0)), (0, .ref a0), (1, .int v1)]) hx hb dX0_sail_6 rfl hl (by decide) rfl (fun ls hl => ?_)
  refine lv_aload_n hx hb dX0_sail_7 rfl (lv_at hl 1 rfl) ?_
  refine lv_iload_n hx hb dX0_sail_8 rfl (lv_at hl 2 rfl) ?_
  refine lv_iconst (v := 1) hx hb dX0_sail_9 (by decide) ?_
  have hPc := hP.sub (ws' := (wX0 cI cS a0 a1 a2 a3 a4 pl sp sy sh sc nc dy zz)) [0, 1, 2, 3, 4] rfl
  refine kRi (rV C0 (tX0_shipHas l D cI cS a0 a1 a2 a3 a4 pl sp sy sh sc nc dy zz v1 1 (fX0_shipHas sh v1 1) rfl) RX0 gX0_sail_X0_shipHas rfl ⟨rfl, rfl⟩ pdX0_shipHas rfl ⟨Nat.le_of_ble_eq_true rfl, Nat.le_of_ble_eq_true rfl⟩ (fun _ _ _ _ q => q) (va_recv hE.1 hPc (ci := 0) (q0 := 0) rfl rfl) (fun U hU _ _ => by rw [hU]; exact hPc) hl.1 rfl (Nat.le_of_ble_eq_true rfl) dX0_sail_10 ⟨Nat.zero_le _, Nat.zero_le _⟩) ?_
  refine lv_aload_n hx hb dX0_sail_13 rfl (lv_at hl 1 rfl) ?_
  refine lv_iload_n hx hb dX0_sail_14 rfl (lv_at hl 0 rfl) ?_
  obtain ⟨z_1, e_2, h⟩ := bds h
  have hPc := hP.sub (ws' := (wX0 cI cS a0 a1 a2 a3 a4 pl sp sy sh sc nc dy zz)) [0, 1, 2, 3, 4] rfl
  refine kRi (rV C0 (tX0_thickAt l D cI cS F a0 a1 a2 a3 a4 pl sp sy sh sc nc dy zz (fX0_shipHas sh v1 0) z_1 e_2) RX0 gX0_sail_X0_thickAt rfl ⟨rfl, rfl⟩ pdX0_thickAt rfl ⟨Nat.le_of_ble_eq_true rfl, Nat.le_of_ble_eq_true rfl⟩ (fun _ _ _ _ q => q) (va_recv hE.1 hPc (ci := 0) (q0 := 0) rfl rfl) (fun U hU _ _ => by rw [hU]; exact hPc) hl.1 rfl (Nat.le_of_ble_eq_true rfl) dX0_sail_15 ⟨Nat.zero_le _, Nat.zero_le _⟩) ?_
  refine lv_icmp_lt (tgt := 43) hx hb dX0_sail_18 (by decide) (fun c_3 => ?_) (fun c_3 => ?_)
  · have h := ifp c_3 h
    refine lv_aload_n hx hb dX0_sail_43 rfl (lv_at hl 1 rfl) ?_
    refine lv_iload_n hx hb dX0_sail_44 rfl (lv_at hl 2 rfl) ?_
    refine lv_iconst (v := 3) hx hb dX0_sail_45 (by decide) ?_
    have hPc := hP.sub (ws' := (wX0 cI cS a0 a1 a2 a3 a4 pl sp sy sh sc nc dy zz)) [0, 1, 2, 3, 4] rfl
    refine kRi (rV C0 (tX0_shipHas l D cI cS a0 a1 a2 a3 a4 pl sp sy sh sc nc dy zz v1 3 (fX0_shipHas sh v1 3) rfl) RX0 gX0_sail_X0_shipHas rfl ⟨rfl, rfl⟩ pdX0_shipHas rfl ⟨Nat.le_of_ble_eq_true rfl, Nat.le_of_ble_eq_true rfl⟩ (fun _ _ _ _ q => q) (va_recv hE.1 hPc (ci := 0) (q0 := 0) rfl rfl) (fun U hU _ _ => by rw [hU]; exact hPc) hl.1 rfl (Nat.le_of_ble_eq_true rfl) dX0_sail_46 ⟨Nat.zero_le _, Nat.zero_le _⟩) ?_
    refine lv_istore_n (lv' := [(3, .int (fX0_shipHas sh v1 3)), (2, .int (fX0_shipHas sh v1 0)), (0, .ref a0), (1, .int v1)]) hx hb dX0_sail_49 rfl hl (by decide) rfl (fun ls hl => ?_)
    refine lv_aload_n hx hb dX0_sail_50 rfl (lv_at hl 2 rfl) ?_
    refine lv_iload_n hx hb dX0_sail_51 rfl (lv_at hl 3 rfl) ?_
    refine lv_iconst (v := 3) hx hb dX0_sail_52 (by decide) ?_
    refine lv_sipush (v := 9999) hx hb dX0_sail_53 (by decide) ?_
    refine lv_iload_n hx hb dX0_sail_56 rfl (lv_at hl 0 rfl) ?_
    refine lv_iconst (v := 1) hx hb dX0_sail_57 (by decide) ?_
    refine lv_iadd hx hb dX0_sail_58 ?_
    refine va_mmin hx hb (hml.trans hl.1.symm) hown (hts _ (List.mem_of_getElem? (i := 1) rfl)) (hts _ (List.mem_of_getElem? (i := 2) rfl)) (hts _ (List.mem_of_getElem? (i := 3) rfl)) (hts _ (List.mem_of_getElem? (i := 4) rfl)) (Nat.le_of_ble_eq_true rfl) (Nat.le_of_ble_eq_true rfl) (Nat.zero_le _) (Nat.zero_le _) dX0_sail_59 ?_
    have hPc := hP.sub (ws' := (wX0 cI cS a0 a1 a2 a3 a4 pl sp sy sh sc nc dy zz)) [0, 1, 2, 3, 4] rfl
    refine kMv (wf' := (wX0 cI cS a0 a1 a2 a3 a4 pl sp sy (fX0_setOfShip sh v1 3 (if ((fX0_shipHas sh v1 3) + 1) < 9999 then (fX0_shipHas sh v1 3) + 1 else 9999)) sc nc dy zz)) [0, 1, 2, 3, 4] [some 0, some 1, some 2, some 3, some 4] (rV C0 (tX0_setOfShip l D cI cS a0 a1 a2 a3 a4 pl sp sy sh sc nc dy zz v1 3 (if ((fX0_shipHas sh v1 3) + 1) < 9999 then (fX0_shipHas sh v1 3) + 1 else 9999) (fX0_setOfShip sh v1 3 (if ((fX0_shipHas sh v1 3) + 1) < 9999 then (fX0_shipHas sh v1 3) + 1 else 9999)) rfl (((hD (wX0 cI cS a0 a1 a2 a3 a4 pl sp sy sh sc nc dy zz) rfl).sub [0, 1, 2, 3, 4] (by decide) rfl).weaken (fun _ _ _ _ => trivial))) RX0 gX0_sail_X0_setOfShip rfl ⟨rfl, rfl⟩ pdX0_setOfShip rfl ⟨Nat.le_of_ble_eq_true rfl, Nat.le_of_ble_eq_true rfl⟩ (fun _ _ _ _ q => q) (va_recv hE.1 hPc (ci := 0) (q0 := 0) rfl rfl) (fun U hU _ _ => by rw [hU]; exact hPc) hl.1 rfl (Nat.le_of_ble_eq_true rfl) dX0_sail_62 ⟨Nat.zero_le _, Nat.zero_le _⟩) hP (hD _ rfl) hS rfl rfl rfl (fun H locs hP hS => ?_)
    obtain rfl := Option.some.inj h
    exact eMv C0 hP hS rfl dX0_sail_65
  · have h := ifn c_3 h
    refine lv_aload_n hx hb dX0_sail_21 rfl (lv_at hl 1 rfl) ?_
    refine lv_iload_n hx hb dX0_sail_22 rfl (lv_at hl 2 rfl) ?_
    refine lv_iconst (v := 0) hx hb dX0_sail_23 (by decide) ?_
    refine lv_bipush (v := 15) hx hb dX0_sail_24 (by decide) ?_
    refine lv_iload_n hx hb dX0_sail_26 rfl (lv_at hl 0 rfl) ?_
    refine lv_aload_n hx hb dX0_sail_27 rfl (lv_at hl 1 rfl) ?_
    refine lv_iload_n hx hb dX0_sail_28 rfl (lv_at hl 2 rfl) ?_
    refine lv_iconst (v := 2) hx hb dX0_sail_29 (by decide) ?_
    have hPc := hP.sub (ws' := (wX0 cI cS a0 a1 a2 a3 a4 pl sp sy sh sc nc dy zz)) [0, 1, 2, 3, 4] rfl
    refine kRi (rV C0 (tX0_shipHas l D cI cS a0 a1 a2 a3 a4 pl sp sy sh sc nc dy zz v1 2 (fX0_shipHas sh v1 2) rfl) RX0 gX0_sail_X0_shipHas rfl ⟨rfl, rfl⟩ pdX0_shipHas rfl ⟨Nat.le_of_ble_eq_true rfl, Nat.le_of_ble_eq_true rfl⟩ (fun _ _ _ _ q => q) (va_recv hE.1 hPc (ci := 0) (q0 := 0) rfl rfl) (fun U hU _ _ => by rw [hU]; exact hPc) hl.1 rfl (Nat.le_of_ble_eq_true rfl) dX0_sail_30 ⟨Nat.zero_le _, Nat.zero_le _⟩) ?_
    refine lv_iadd hx hb dX0_sail_33 ?_
    refine va_mmin hx hb (hml.trans hl.1.symm) hown (hts _ (List.mem_of_getElem? (i := 1) rfl)) (hts _ (List.mem_of_getElem? (i := 2) rfl)) (hts _ (List.mem_of_getElem? (i := 3) rfl)) (hts _ (List.mem_of_getElem? (i := 4) rfl)) (Nat.le_of_ble_eq_true rfl) (Nat.le_of_ble_eq_true rfl) (Nat.zero_le _) (Nat.zero_le _) dX0_sail_34 ?_
    have hPc := hP.sub (ws' := (wX0 cI cS a0 a1 a2 a3 a4 pl sp sy sh sc nc dy zz)) [0, 1, 2, 3, 4] rfl
    refine kMv (wf' := (wX0 cI cS a0 a1 a2 a3 a4 pl sp sy (fX0_setOfShip sh v1 0 (if ((fX0_shipHas sh v1 0) + (fX0_shipHas sh v1 2)) < 15 then (fX0_shipHas sh v1 0) + (fX0_shipHas sh v1 2) else 15)) sc nc dy zz)) [0, 1, 2, 3, 4] [some 0, some 1, some 2, some 3, some 4] (rV C0 (tX0_setOfShip l D cI cS a0 a1 a2 a3 a4 pl sp sy sh sc nc dy zz v1 0 (if ((fX0_shipHas sh v1 0) + (fX0_shipHas sh v1 2)) < 15 then (fX0_shipHas sh v1 0) + (fX0_shipHas sh v1 2) else 15) (fX0_setOfShip sh v1 0 (if ((fX0_shipHas sh v1 0) + (fX0_shipHas sh v1 2)) < 15 then (fX0_shipHas sh v1 0) + (fX0_shipHas sh v1 2) else 15)) rfl (((hD (wX0 cI cS a0 a1 a2 a3 a4 pl sp sy sh sc nc dy zz) rfl).sub [0, 1, 2, 3, 4] (by decide) rfl).weaken (fun _ _ _ _ => trivial))) RX0 gX0_sail_X0_setOfShip rfl ⟨rfl, rfl⟩ pdX0_setOfShip rfl ⟨Nat.le_of_ble_eq_true rfl, Nat.le_of_ble_eq_true rfl⟩ (fun _ _ _ _ q => q) (va_recv hE.1 hPc (ci := 0) (q0 := 0) rfl rfl) (fun U hU _ _ => by rw [hU]; exact hPc) hl.1 rfl (Nat.le_of_ble_eq_true rfl) dX0_sail_37 ⟨Nat.zero_le _, Nat.zero_le _⟩) hP (hD _ rfl) hS rfl rfl rfl (fun H locs hP hS => ?_)
    refine lv_goto (tgt := 65) hx hb dX0_sail_40 (by decide) ?_
    obtain rfl := Option.some.inj h
    exact eMv C0 hP hS rfl dX0_sail_65
def fX0_finishByList (sy : Nat → Int32) (sc : Int32) (v1 : Int32) : (Nat → Int32) := (if (fX0_hasSaying sc v1) = 0 then sy else (if (fX0_isFinished sy v1) = 0 then (if (fX1_resists (fX0_sayingHas sy v1 0)) < (fX0_sayingHas sy v1 2) then (fX0_setOfSaying sy v1 2 ((fX0_sayingHas sy v1 2) / 2)) else (fX0_setOfSaying sy v1 3 1)) else sy))
abbrev rmX0_finishByList : Room := { frames := 2, cells := 0, slots := 0, locals := 45 }
theorem pdX0_finishByList : (yX0_finishByList.cls = RX0 ∧ yX0_finishByList.cls ≠ "java/lang/invoke/MethodHandle" ∧ yX0_finishByList.cls ≠ "java/lang/invoke/VarHandle" ∧ (parseMethodDescriptor yX0_finishByList.desc).map (fun d => d.parameters.length) = some 1) := by decide +kernel
set_option maxHeartbeats 4000000 in
set_option maxRecDepth 100000 in
theorem tX0_finishByList (l : Launch) (D : va_G) (cI cS : ClassId) (a0 a1 a2 a3 a4 : Nat) (pl : Nat → Int32) (sp : Nat → Int32) (sy : Nat → Int32) (sh : Nat → Int32) (sc : Int32) (nc : Int32) (dy : Int32) (zz : Int32) (v1 : Int32) (z0 : Nat → Int32) (h : fX0_finishByList sy sc v1 = z0) (hD0 : va_D (fun _ => True) (wX0 cI cS a0 a1 a2 a3 a4 pl sp sy sh sc nc dy zz)) : Met l yX0_finishByList wsX0_finishByList rmX0_finishByList (PZ D cI cS [.ref a0, .int v1] (fun U => va_P D vwCl (wX0 cI cS a0 a1 a2 a3 a4 pl sp sy sh sc nc dy zz) U.heap)) (qV D (wX0 cI cS a0 a1 a2 a3 a4 pl sp sy sh sc nc dy zz) (wX0 cI cS a0 a1 a2 a3 a4 pl sp z0 sh sc nc dy zz)) 0 0 (wA (wX0 cI cS a0 a1 a2 a3 a4 pl sp sy sh sc nc dy zz)) := by
  refine Met.mk RX0 (by decide) rfl rfl (Nat.le_of_ble_eq_true rfl) ?_
  intro p e s m below meth c ls C0 hP hl
  have hl : lv_has ls 3 [(0, .ref a0), (1, .int v1)] := hl
  obtain ⟨hx, hb, hr, hml, hown, hts, hlk, hE⟩ := id C0
  have hD : ∀ W : va_W, W.map Prod.fst = [a0, a1, a2, a3, a4] → va_D (wA (wX0 cI cS a0 a1 a2 a3 a4 pl sp sy sh sc nc dy zz)) W := fun W hW => hD0.own.re hW
  have hS : va_S (wA (wX0 cI cS a0 a1 a2 a3 a4 pl sp sy sh sc nc dy zz)) s.heap s.heap [] := va_S.rf
  have hP : va_P D vwCl (wX0 cI cS a0 a1 a2 a3 a4 pl sp sy sh sc nc dy zz) s.heap := hP
  rw [fX0_finishByList] at h
  refine lv_aload_n hx hb dX0_finishByList_0 rfl (lv_at hl 0 rfl) ?_
  refine lv_iload_n hx hb dX0_finishByList_1 rfl (lv_at hl 1 rfl) ?_
  have hPc := hP.sub (ws' := (wX0 cI cS a0 a1 a2 a3 a4 pl sp sy sh sc nc dy zz)) [0, 1, 2, 3, 4] rfl
  refine kRi (rV C0 (tX0_hasSaying l D cI cS a0 a1 a2 a3 a4 pl sp sy sh sc nc dy zz v1 (fX0_hasSaying sc v1) rfl) RX0 gX0_finishByList_X0_hasSaying rfl ⟨rfl, rfl⟩ pdX0_hasSaying rfl ⟨Nat.le_of_ble_eq_true rfl, Nat.le_of_ble_eq_true rfl⟩ (fun _ _ _ _ q => q) (va_recv hE.1 hPc (ci := 0) (q0 := 0) rfl rfl) (fun U hU _ _ => by rw [hU]; exact hPc) hl.1 rfl (Nat.le_of_ble_eq_true rfl) dX0_finishByList_2 ⟨Nat.zero_le _, Nat.zero_le _⟩) ?_
  refine lv_if_eq (tgt := 16) hx hb dX0_finishByList_5 (by decide) (fun c_1 => ?_) (fun c_1 => ?_)
  · have h := ifp c_1 h
    subst h
    exact eMv C0 hP hS rfl dX0_finishByList_16
  · have h := ifn c_1 h
    refine lv_aload_n hx hb dX0_finishByList_8 rfl (lv_at hl 0 rfl) ?_
    refine lv_iload_n hx hb dX0_finishByList_9 rfl (lv_at hl 1 rfl) ?_
    have hPc := hP.sub (ws' := (wX0 cI cS a0 a1 a2 a3 a4 pl sp sy sh sc nc dy zz)) [0, 1, 2, 3, 4] rfl
    refine kRi (rV C0 (tX0_isFinished l D cI cS a0 a1 a2 a3 a4 pl sp sy sh sc nc dy zz v1 (fX0_isFinished sy v1) rfl) RX0 gX0_finishByList_X0_isFinished rfl ⟨rfl, rfl⟩ pdX0_isFinished rfl ⟨Nat.le_of_ble_eq_true rfl, Nat.le_of_ble_eq_true rfl⟩ (fun _ _ _ _ q => q) (va_recv hE.1 hPc (ci := 0) (q0 := 0) rfl rfl) (fun U hU _ _ => by rw [hU]; exact hPc) hl.1 rfl (Nat.le_of_ble_eq_true rfl) dX0_finishByList_10 ⟨Nat.zero_le _, Nat.zero_le _⟩) ?_
    refine lv_if_eq (tgt := 17) hx hb dX0_finishByList_13 (by decide) (fun c_2 => ?_) (fun c_2 => ?_)
    · have h := ifp c_2 h
      refine lv_aload_n hx hb dX0_finishByList_17 rfl (lv_at hl 0 rfl) ?_
      refine lv_iload_n hx hb dX0_finishByList_18 rfl (lv_at hl 1 rfl) ?_
      refine lv_iconst (v := 2) hx hb dX0_finishByList_19 (by decide) ?_
      have hPc := hP.sub (ws' := (wX0 cI cS a0 a1 a2 a3 a4 pl sp sy sh sc nc dy zz)) [0, 1, 2, 3, 4] rfl
      refine kRi (rV C0 (tX0_sayingHas l D cI cS a0 a1 a2 a3 a4 pl sp sy sh sc nc dy zz v1 2 (fX0_sayingHas sy v1 2) rfl) RX0 gX0_finishByList_X0_sayingHas rfl ⟨rfl, rfl⟩ pdX0_sayingHas rfl ⟨Nat.le_of_ble_eq_true rfl, Nat.le_of_ble_eq_true rfl⟩ (fun _ _ _ _ q => q) (va_recv hE.1 hPc (ci := 0) (q0 := 0) rfl rfl) (fun U hU _ _ => by rw [hU]; exact hPc) hl.1 rfl (Nat.le_of_ble_eq_true rfl) dX0_finishByList_20 ⟨Nat.zero_le _, Nat.zero_le _⟩) ?_
      refine lv_istore_n (lv' := [(2, .int (fX0_sayingHas sy v1 2)), (0, .ref a0), (1, .int v1)]) hx hb dX0_finishByList_23 rfl hl (by decide) rfl (fun ls hl => ?_)
      refine lv_iload_n hx hb dX0_finishByList_24 rfl (lv_at hl 0 rfl) ?_
      refine lv_aload_n hx hb dX0_finishByList_25 rfl (lv_at hl 1 rfl) ?_
      refine lv_iload_n hx hb dX0_finishByList_26 rfl (lv_at hl 2 rfl) ?_
      refine lv_iconst (v := 0) hx hb dX0_finishByList_27 (by decide) ?_
      have hPc := hP.sub (ws' := (wX0 cI cS a0 a1 a2 a3 a4 pl sp sy sh sc nc dy zz)) [0, 1, 2, 3, 4] rfl
      refine kRi (rV C0 (tX0_sayingHas l D cI cS a0 a1 a2 a3 a4 pl sp sy sh sc nc dy zz v1 0 (fX0_sayingHas sy v1 0) rfl) RX0 gX0_finishByList_X0_sayingHas rfl ⟨rfl, rfl⟩ pdX0_sayingHas rfl ⟨Nat.le_of_ble_eq_true rfl, Nat.le_of_ble_eq_true rfl⟩ (fun _ _ _ _ q => q) (va_recv hE.1 hPc (ci := 0) (q0 := 0) rfl rfl) (fun U hU _ _ => by rw [hU]; exact hPc) hl.1 rfl (Nat.le_of_ble_eq_true rfl) dX0_finishByList_28 ⟨Nat.zero_le _, Nat.zero_le _⟩) ?_
      refine kRi (rS C0 (tX1_resists l D cI cS (fX0_sayingHas sy v1 0) (fX1_resists (fX0_sayingHas sy v1 0)) rfl) gX0_finishByList_X1_resists rfl ⟨rfl, rfl⟩ pdX1_resists rfl ⟨Nat.le_of_ble_eq_true rfl, Nat.le_of_ble_eq_true rfl⟩ (fun _ _ _ _ q => q) (fun _ _ _ _ => vp0) hl.1 rfl (Nat.le_of_ble_eq_true rfl) dX0_finishByList_31 ⟨Nat.zero_le _, Nat.zero_le _⟩) ?_
      refine lv_icmp_gt (tgt := 47) hx hb dX0_finishByList_34 (by decide) (fun c_3 => ?_) (fun c_3 => ?_)
      · have h := ifp c_3 h
        refine lv_aload_n hx hb dX0_finishByList_47 rfl (lv_at hl 1 rfl) ?_
        refine lv_iload_n hx hb dX0_finishByList_48 rfl (lv_at hl 2 rfl) ?_
        refine lv_iconst (v := 2) hx hb dX0_finishByList_49 (by decide) ?_
        refine lv_iload_n hx hb dX0_finishByList_50 rfl (lv_at hl 0 rfl) ?_
        refine lv_iconst (v := 2) hx hb dX0_finishByList_51 (by decide) ?_
        refine lv_idiv hx hb dX0_finishByList_52 (by decide) ?_
        have hPc := hP.sub (ws' := (wX0 cI cS a0 a1 a2 a3 a4 pl sp sy sh sc nc dy zz)) [0, 1, 2, 3, 4] rfl
        refine kMv (wf' := (wX0 cI cS a0 a1 a2 a3 a4 pl sp (fX0_setOfSaying sy v1 2 ((fX0_sayingHas sy v1 2) / 2)) sh sc nc dy zz)) [0, 1, 2, 3, 4] [some 0, some 1, some 2, some 3, some 4] (rV C0 (tX0_setOfSaying l D cI cS a0 a1 a2 a3 a4 pl sp sy sh sc nc dy zz v1 2 ((fX0_sayingHas sy v1 2) / 2) (fX0_setOfSaying sy v1 2 ((fX0_sayingHas sy v1 2) / 2)) rfl (((hD (wX0 cI cS a0 a1 a2 a3 a4 pl sp sy sh sc nc dy zz) rfl).sub [0, 1, 2, 3, 4] (by decide) rfl).weaken (fun _ _ _ _ => trivial))) RX0 gX0_finishByList_X0_setOfSaying rfl ⟨rfl, rfl⟩ pdX0_setOfSaying rfl ⟨Nat.le_of_ble_eq_true rfl, Nat.le_of_ble_eq_true rfl⟩ (fun _ _ _ _ q => q) (va_recv hE.1 hPc (ci := 0) (q0 := 0) rfl rfl) (fun U hU _ _ => by rw [hU]; exact hPc) hl.1 rfl (Nat.le_of_ble_eq_true rfl) dX0_finishByList_53 ⟨Nat.zero_le _, Nat.zero_le _⟩) hP (hD _ rfl) hS rfl rfl rfl (fun H locs hP hS => ?_)
        subst h
        exact eMv C0 hP hS rfl dX0_finishByList_56
      · have h := ifn c_3 h
        refine lv_aload_n hx hb dX0_finishByList_37 rfl (lv_at hl 1 rfl) ?_
        refine lv_iload_n hx hb dX0_finishByList_38 rfl (lv_at hl 2 rfl) ?_
        refine lv_iconst (v := 3) hx hb dX0_finishByList_39 (by decide) ?_
        refine lv_iconst (v := 1) hx hb dX0_finishByList_40 (by decide) ?_
        have hPc := hP.sub (ws' := (wX0 cI cS a0 a1 a2 a3 a4 pl sp sy sh sc nc dy zz)) [0, 1, 2, 3, 4] rfl
        refine kMv (wf' := (wX0 cI cS a0 a1 a2 a3 a4 pl sp (fX0_setOfSaying sy v1 3 1) sh sc nc dy zz)) [0, 1, 2, 3, 4] [some 0, some 1, some 2, some 3, some 4] (rV C0 (tX0_setOfSaying l D cI cS a0 a1 a2 a3 a4 pl sp sy sh sc nc dy zz v1 3 1 (fX0_setOfSaying sy v1 3 1) rfl (((hD (wX0 cI cS a0 a1 a2 a3 a4 pl sp sy sh sc nc dy zz) rfl).sub [0, 1, 2, 3, 4] (by decide) rfl).weaken (fun _ _ _ _ => trivial))) RX0 gX0_finishByList_X0_setOfSaying rfl ⟨rfl, rfl⟩ pdX0_setOfSaying rfl ⟨Nat.le_of_ble_eq_true rfl, Nat.le_of_ble_eq_true rfl⟩ (fun _ _ _ _ q => q) (va_recv hE.1 hPc (ci := 0) (q0 := 0) rfl rfl) (fun U hU _ _ => by rw [hU]; exact hPc) hl.1 rfl (Nat.le_of_ble_eq_true rfl) dX0_finishByList_41 ⟨Nat.zero_le _, Nat.zero_le _⟩) hP (hD _ rfl) hS rfl rfl rfl (fun H locs hP hS => ?_)
        refine lv_goto (tgt := 56) hx hb dX0_finishByList_44 (by decide) ?_
        subst h
        exact eMv C0 hP hS rfl dX0_finishByList_56
    · have h := ifn c_2 h
      subst h
      exact eMv C0 hP hS rfl dX0_finishByList_16
def fX0_blur (sy : Nat → Int32) (dy : Int32) (v1 : Int32) : (Nat → Int32) := (fX0_setOfSaying (fX0_setOfSaying sy v1 2 (if 0 < (if ((fX0_sayingHas sy v1 2) + (fX1_blurs (fX0_sayingHas sy v1 0) dy)) < 99 then (fX0_sayingHas sy v1 2) + (fX1_blurs (fX0_sayingHas sy v1 0) dy) else 99) then (if ((fX0_sayingHas sy v1 2) + (fX1_blurs (fX0_sayingHas sy v1 0) dy)) < 99 then (fX0_sayingHas sy v1 2) + (fX1_blurs (fX0_sayingHas sy v1 0) dy) else 99) else 0)) v1 4 (if ((fX0_sayingHas (fX0_setOfSaying sy v1 2 (if 0 < (if ((fX0_sayingHas sy v1 2) + (fX1_blurs (fX0_sayingHas sy v1 0) dy)) < 99 then (fX0_sayingHas sy v1 2) + (fX1_blurs (fX0_sayingHas sy v1 0) dy) else 99) then (if ((fX0_sayingHas sy v1 2) + (fX1_blurs (fX0_sayingHas sy v1 0) dy)) < 99 then (fX0_sayingHas sy v1 2) + (fX1_blurs (fX0_sayingHas sy v1 0) dy) else 99) else 0)) v1 4) + 1) < 9999 then (fX0_sayingHas (fX0_setOfSaying sy v1 2 (if 0 < (if ((fX0_sayingHas sy v1 2) + (fX1_blurs (fX0_sayingHas sy v1 0) dy)) < 99 then (fX0_sayingHas sy v1 2) + (fX1_blurs (fX0_sayingHas sy v1 0) dy) else 99) then (if ((fX0_sayingHas sy v1 2) + (fX1_blurs (fX0_sayingHas sy v1 0) dy)) < 99 then (fX0_sayingHas sy v1 2) + (fX1_blurs (fX0_sayingHas sy v1 0) dy) else 99) else 0)) v1 4) + 1 else 9999))
abbrev rmX0_blur : Room := { frames := 2, cells := 0, slots := 0, locals := 45 }
theorem pdX0_blur : (yX0_blur.cls = RX0 ∧ yX0_blur.cls ≠ "java/lang/invoke/MethodHandle" ∧ yX0_blur.cls ≠ "java/lang/invoke/VarHandle" ∧ (parseMethodDescriptor yX0_blur.desc).map (fun d => d.parameters.length) = some 1) := by decide +kernel
set_option maxHeartbeats 4000000 in
set_option maxRecDepth 100000 in
theorem tX0_blur (l : Launch) (D : va_G) (cI cS : ClassId) (a0 a1 a2 a3 a4 : Nat) (pl : Nat → Int32) (sp : Nat → Int32) (sy : Nat → Int32) (sh : Nat → Int32) (sc : Int32) (nc : Int32) (dy : Int32) (zz : Int32) (v1 : Int32) (z0 : Nat → Int32) (h : fX0_blur sy dy v1 = z0) (hD0 : va_D (fun _ => True) (wX0 cI cS a0 a1 a2 a3 a4 pl sp sy sh sc nc dy zz)) : Met l yX0_blur wsX0_blur rmX0_blur (PZ D cI cS [.ref a0, .int v1] (fun U => va_P D vwCl (wX0 cI cS a0 a1 a2 a3 a4 pl sp sy sh sc nc dy zz) U.heap)) (qV D (wX0 cI cS a0 a1 a2 a3 a4 pl sp sy sh sc nc dy zz) (wX0 cI cS a0 a1 a2 a3 a4 pl sp z0 sh sc nc dy zz)) 0 0 (wA (wX0 cI cS a0 a1 a2 a3 a4 pl sp sy sh sc nc dy zz)) := by
  refine Met.mk RX0 (by decide) rfl rfl (Nat.le_of_ble_eq_true rfl) ?_
  intro p e s m below meth c ls C0 hP hl
  have hl : lv_has ls 4 [(0, .ref a0), (1, .int v1)] := hl
  obtain ⟨hx, hb, hr, hml, hown, hts, hlk, hE⟩ := id C0
  have hinX0 : ∀ w ∈ u_ws RX0 TX0 8, w ∈ wsX0_blur := by decide +kernel
  have hD : ∀ W : va_W, W.map Prod.fst = [a0, a1, a2, a3, a4] → va_D (wA (wX0 cI cS a0 a1 a2 a3 a4 pl sp sy sh sc nc dy zz)) W := fun W hW => hD0.own.re hW
  have hS : va_S (wA (wX0 cI cS a0 a1 a2 a3 a4 pl sp sy sh sc nc dy zz)) s.heap s.heap [] := va_S.rf
  have hP : va_P D vwCl (wX0 cI cS a0 a1 a2 a3 a4 pl sp sy sh sc nc dy zz) s.heap := hP
  rw [fX0_blur] at h
  refine lv_aload_n hx hb dX0_blur_0 rfl (lv_at hl 0 rfl) ?_
  refine lv_iload_n hx hb dX0_blur_1 rfl (lv_at hl 1 rfl) ?_
  refine lv_iconst (v := 2) hx hb dX0_blur_2 (by decide) ?_
  have hPc := hP.sub (ws' := (wX0 cI cS a0 a1 a2 a3 a4 pl sp sy sh sc nc dy zz)) [0, 1, 2, 3, 4] rfl
  refine kRi (rV C0 (tX0_sayingHas l D cI cS a0 a1 a2 a3 a4 pl sp sy sh sc nc dy zz v1 2 (fX0_sayingHas sy v1 2) rfl) RX0 gX0_blur_X0_sayingHas rfl ⟨rfl, rfl⟩ pdX0_sayingHas rfl ⟨Nat.le_of_ble_eq_true rfl, Nat.le_of_ble_eq_true rfl⟩ (fun _ _ _ _ q => q) (va_recv hE.1 hPc (ci := 0) (q0 := 0) rfl rfl) (fun U hU _ _ => by rw [hU]; exact hPc) hl.1 rfl (Nat.le_of_ble_eq_true rfl) dX0_blur_3 ⟨Nat.zero_le _, Nat.zero_le _⟩) ?_
  refine lv_aload_n hx hb dX0_blur_6 rfl (lv_at hl 0 rfl) ?_
  refine lv_iload_n hx hb dX0_blur_7 rfl (lv_at hl 1 rfl) ?_
  refine lv_iconst (v := 0) hx hb dX0_blur_8 (by decide) ?_
  have hPc := hP.sub (ws' := (wX0 cI cS a0 a1 a2 a3 a4 pl sp sy sh sc nc dy zz)) [0, 1, 2, 3, 4] rfl
  refine kRi (rV C0 (tX0_sayingHas l D cI cS a0 a1 a2 a3 a4 pl sp sy sh sc nc dy zz v1 0 (fX0_sayingHas sy v1 0) rfl) RX0 gX0_blur_X0_sayingHas rfl ⟨rfl, rfl⟩ pdX0_sayingHas rfl ⟨Nat.le_of_ble_eq_true rfl, Nat.le_of_ble_eq_true rfl⟩ (fun _ _ _ _ q => q) (va_recv hE.1 hPc (ci := 0) (q0 := 0) rfl rfl) (fun U hU _ _ => by rw [hU]; exact hPc) hl.1 rfl (Nat.le_of_ble_eq_true rfl) dX0_blur_9 ⟨Nat.zero_le _, Nat.zero_le _⟩) ?_
  refine lv_aload_n hx hb dX0_blur_12 rfl (lv_at hl 0 rfl) ?_
  refine va_get (D := D) (ci := 0) (v := .int dy) (C := RX0) (T := TX0) (N := 8) hx hb hts hinX0 hown hE.1 hP 0 rfl rfl 6 (by decide) (hts _ (List.mem_of_getElem? (i := 1) rfl)) (fun _ h9 => h9) rfl dX0_blur_13 ?_
  refine kRi (rS C0 (tX1_blurs l D cI cS (fX0_sayingHas sy v1 0) dy (fX1_blurs (fX0_sayingHas sy v1 0) dy) rfl) gX0_blur_X1_blurs rfl ⟨rfl, rfl⟩ pdX1_blurs rfl ⟨Nat.le_of_ble_eq_true rfl, Nat.le_of_ble_eq_true rfl⟩ (fun _ _ _ _ q => q) (fun _ _ _ _ => vp0) hl.1 rfl (Nat.le_of_ble_eq_true rfl) dX0_blur_16 ⟨Nat.zero_le _, Nat.zero_le _⟩) ?_
  refine lv_iadd hx hb dX0_blur_19 ?_
  refine lv_istore_n (lv' := [(2, .int ((fX0_sayingHas sy v1 2) + (fX1_blurs (fX0_sayingHas sy v1 0) dy))), (0, .ref a0), (1, .int v1)]) hx hb dX0_blur_20 rfl hl (by decide) rfl (fun ls hl => ?_)
  refine lv_aload_n hx hb dX0_blur_21 rfl (lv_at hl 1 rfl) ?_
  refine lv_iload_n hx hb dX0_blur_22 rfl (lv_at hl 2 rfl) ?_
  refine lv_iconst (v := 2) hx hb dX0_blur_23 (by decide) ?_
  refine lv_iconst (v := 0) hx hb dX0_blur_24 (by decide) ?_
  refine lv_bipush (v := 99) hx hb dX0_blur_25 (by decide) ?_
  refine lv_iload_n hx hb dX0_blur_27 rfl (lv_at hl 0 rfl) ?_
  refine va_mmin hx hb (hml.trans hl.1.symm) hown (hts _ (List.mem_of_getElem? (i := 2) rfl)) (hts _ (List.mem_of_getElem? (i := 3) rfl)) (hts _ (List.mem_of_getElem? (i := 4) rfl)) (hts _ (List.mem_of_getElem? (i := 5) rfl)) (Nat.le_of_ble_eq_true rfl) (Nat.le_of_ble_eq_true rfl) (Nat.zero_le _) (Nat.zero_le _) dX0_blur_28 ?_
  refine va_mmax hx hb (hml.trans hl.1.symm) hown (hts _ (List.mem_of_getElem? (i := 6) rfl)) (hts _ (List.mem_of_getElem? (i := 7) rfl)) (hts _ (List.mem_of_getElem? (i := 4) rfl)) (hts _ (List.mem_of_getElem? (i := 8) rfl)) (Nat.le_of_ble_eq_true rfl) (Nat.le_of_ble_eq_true rfl) (Nat.zero_le _) (Nat.zero_le _) dX0_blur_31 ?_
  have hPc := hP.sub (ws' := (wX0 cI cS a0 a1 a2 a3 a4 pl sp sy sh sc nc dy zz)) [0, 1, 2, 3, 4] rfl
  refine kMv (wf' := (wX0 cI cS a0 a1 a2 a3 a4 pl sp (fX0_setOfSaying sy v1 2 (if 0 < (if ((fX0_sayingHas sy v1 2) + (fX1_blurs (fX0_sayingHas sy v1 0) dy)) < 99 then (fX0_sayingHas sy v1 2) + (fX1_blurs (fX0_sayingHas sy v1 0) dy) else 99) then (if ((fX0_sayingHas sy v1 2) + (fX1_blurs (fX0_sayingHas sy v1 0) dy)) < 99 then (fX0_sayingHas sy v1 2) + (fX1_blurs (fX0_sayingHas sy v1 0) dy) else 99) else 0)) sh sc nc dy zz)) [0, 1, 2, 3, 4] [some 0, some 1, some 2, some 3, some 4] (rV C0 (tX0_setOfSaying l D cI cS a0 a1 a2 a3 a4 pl sp sy sh sc nc dy zz v1 2 (if 0 < (if ((fX0_sayingHas sy v1 2) + (fX1_blurs (fX0_sayingHas sy v1 0) dy)) < 99 then (fX0_sayingHas sy v1 2) + (fX1_blurs (fX0_sayingHas sy v1 0) dy) else 99) then (if ((fX0_sayingHas sy v1 2) + (fX1_blurs (fX0_sayingHas sy v1 0) dy)) < 99 then (fX0_sayingHas sy v1 2) + (fX1_blurs (fX0_sayingHas sy v1 0) dy) else 99) else 0) (fX0_setOfSaying sy v1 2 (if 0 < (if ((fX0_sayingHas sy v1 2) + (fX1_blurs (fX0_sayingHas sy v1 0) dy)) < 99 then (fX0_sayingHas sy v1 2) + (fX1_blurs (fX0_sayingHas sy v1 0) dy) else 99) then (if ((fX0_sayingHas sy v1 2) + (fX1_blurs (fX0_sayingHas sy v1 0) dy)) < 99 then (fX0_sayingHas sy v1 2) + (fX1_blurs (fX0_sayingHas sy v1 0) dy) else 99) else 0)) rfl (((hD (wX0 cI cS a0 a1 a2 a3 a4 pl sp sy sh sc nc dy zz) rfl).sub [0, 1, 2, 3, 4] (by decide) rfl).weaken (fun _ _ _ _ => trivial))) RX0 gX0_blur_X0_setOfSaying rfl ⟨rfl, rfl⟩ pdX0_setOfSaying rfl ⟨Nat.le_of_ble_eq_true rfl, Nat.le_of_ble_eq_true rfl⟩ (fun _ _ _ _ q => q) (va_recv hE.1 hPc (ci := 0) (q0 := 0) rfl rfl) (fun U hU _ _ => by rw [hU]; exact hPc) hl.1 rfl (Nat.le_of_ble_eq_true rfl) dX0_blur_34 ⟨Nat.zero_le _, Nat.zero_le _⟩) hP (hD _ rfl) hS rfl rfl rfl (fun H locs hP hS => ?_)
  refine lv_aload_n hx hb dX0_blur_37 rfl (lv_at hl 1 rfl) ?_
  refine lv_iload_n hx hb dX0_blur_38 rfl (lv_at hl 2 rfl) ?_
  refine lv_iconst (v := 4) hx hb dX0_blur_39 (by decide) ?_
  have hPc := hP.sub (ws' := (wX0 cI cS a0 a1 a2 a3 a4 pl sp (fX0_setOfSaying sy v1 2 (if 0 < (if ((fX0_sayingHas sy v1 2) + (fX1_blurs (fX0_sayingHas sy v1 0) dy)) < 99 then (fX0_sayingHas sy v1 2) + (fX1_blurs (fX0_sayingHas sy v1 0) dy) else 99) then (if ((fX0_sayingHas sy v1 2) + (fX1_blurs (fX0_sayingHas sy v1 0) dy)) < 99 then (fX0_sayingHas sy v1 2) + (fX1_blurs (fX0_sayingHas sy v1 0) dy) else 99) else 0)) sh sc nc dy zz)) [0, 1, 2, 3, 4] rfl
  refine kRi (rV C0 (tX0_sayingHas l D cI cS a0 a1 a2 a3 a4 pl sp (fX0_setOfSaying sy v1 2 (if 0 < (if ((fX0_sayingHas sy v1 2) + (fX1_blurs (fX0_sayingHas sy v1 0) dy)) < 99 then (fX0_sayingHas sy v1 2) + (fX1_blurs (fX0_sayingHas sy v1 0) dy) else 99) then (if ((fX0_sayingHas sy v1 2) + (fX1_blurs (fX0_sayingHas sy v1 0) dy)) < 99 then (fX0_sayingHas sy v1 2) + (fX1_blurs (fX0_sayingHas sy v1 0) dy) else 99) else 0)) sh sc nc dy zz v1 4 (fX0_sayingHas (fX0_setOfSaying sy v1 2 (if 0 < (if ((fX0_sayingHas sy v1 2) + (fX1_blurs (fX0_sayingHas sy v1 0) dy)) < 99 then (fX0_sayingHas sy v1 2) + (fX1_blurs (fX0_sayingHas sy v1 0) dy) else 99) then (if ((fX0_sayingHas sy v1 2) + (fX1_blurs (fX0_sayingHas sy v1 0) dy)) < 99 then (fX0_sayingHas sy v1 2) + (fX1_blurs (fX0_sayingHas sy v1 0) dy) else 99) else 0)) v1 4) rfl) RX0 gX0_blur_X0_sayingHas rfl ⟨rfl, rfl⟩ pdX0_sayingHas rfl ⟨Nat.le_of_ble_eq_true rfl, Nat.le_of_ble_eq_true rfl⟩ (fun _ _ _ _ q => q) (va_recv hE.1 hPc (ci := 0) (q0 := 0) rfl rfl) (fun U hU _ _ => by rw [hU]; exact hPc) hl.1 rfl (Nat.le_of_ble_eq_true rfl) dX0_blur_40 ⟨Nat.zero_le _, Nat.zero_le _⟩) ?_
  refine lv_istore_n (lv' := [(3, .int (fX0_sayingHas (fX0_setOfSaying sy v1 2 (if 0 < (if ((fX0_sayingHas sy v1 2) + (fX1_blurs (fX0_sayingHas sy v1 0) dy)) < 99 then (fX0_sayingHas sy v1 2) + (fX1_blurs (fX0_sayingHas sy v1 0) dy) else 99) then (if ((fX0_sayingHas sy v1 2) + (fX1_blurs (fX0_sayingHas sy v1 0) dy)) < 99 then (fX0_sayingHas sy v1 2) + (fX1_blurs (fX0_sayingHas sy v1 0) dy) else 99) else 0)) v1 4)), (2, .int ((fX0_sayingHas sy v1 2) + (fX1_blurs (fX0_sayingHas sy v1 0) dy))), (0, .ref a0), (1, .int v1)]) hx hb dX0_blur_43 rfl hl (by decide) rfl (fun ls hl => ?_)
  refine lv_aload_n hx hb dX0_blur_44 rfl (lv_at hl 2 rfl) ?_
  refine lv_iload_n hx hb dX0_blur_45 rfl (lv_at hl 3 rfl) ?_
  refine lv_iconst (v := 4) hx hb dX0_blur_46 (by decide) ?_
  refine lv_sipush (v := 9999) hx hb dX0_blur_47 (by decide) ?_
  refine lv_iload_n hx hb dX0_blur_50 rfl (lv_at hl 0 rfl) ?_
  refine lv_iconst (v := 1) hx hb dX0_blur_51 (by decide) ?_
  refine lv_iadd hx hb dX0_blur_52 ?_
  refine va_mmin hx hb (hml.trans hl.1.symm) hown (hts _ (List.mem_of_getElem? (i := 2) rfl)) (hts _ (List.mem_of_getElem? (i := 3) rfl)) (hts _ (List.mem_of_getElem? (i := 4) rfl)) (hts _ (List.mem_of_getElem? (i := 5) rfl)) (Nat.le_of_ble_eq_true rfl) (Nat.le_of_ble_eq_true rfl) (Nat.zero_le _) (Nat.zero_le _) dX0_blur_53 ?_
  have hPc := hP.sub (ws' := (wX0 cI cS a0 a1 a2 a3 a4 pl sp (fX0_setOfSaying sy v1 2 (if 0 < (if ((fX0_sayingHas sy v1 2) + (fX1_blurs (fX0_sayingHas sy v1 0) dy)) < 99 then (fX0_sayingHas sy v1 2) + (fX1_blurs (fX0_sayingHas sy v1 0) dy) else 99) then (if ((fX0_sayingHas sy v1 2) + (fX1_blurs (fX0_sayingHas sy v1 0) dy)) < 99 then (fX0_sayingHas sy v1 2) + (fX1_blurs (fX0_sayingHas sy v1 0) dy) else 99) else 0)) sh sc nc dy zz)) [0, 1, 2, 3, 4] rfl
  refine kMv (wf' := (wX0 cI cS a0 a1 a2 a3 a4 pl sp (fX0_setOfSaying (fX0_setOfSaying sy v1 2 (if 0 < (if ((fX0_sayingHas sy v1 2) + (fX1_blurs (fX0_sayingHas sy v1 0) dy)) < 99 then (fX0_sayingHas sy v1 2) + (fX1_blurs (fX0_sayingHas sy v1 0) dy) else 99) then (if ((fX0_sayingHas sy v1 2) + (fX1_blurs (fX0_sayingHas sy v1 0) dy)) < 99 then (fX0_sayingHas sy v1 2) + (fX1_blurs (fX0_sayingHas sy v1 0) dy) else 99) else 0)) v1 4 (if ((fX0_sayingHas (fX0_setOfSaying sy v1 2 (if 0 < (if ((fX0_sayingHas sy v1 2) + (fX1_blurs (fX0_sayingHas sy v1 0) dy)) < 99 then (fX0_sayingHas sy v1 2) + (fX1_blurs (fX0_sayingHas sy v1 0) dy) else 99) then (if ((fX0_sayingHas sy v1 2) + (fX1_blurs (fX0_sayingHas sy v1 0) dy)) < 99 then (fX0_sayingHas sy v1 2) + (fX1_blurs (fX0_sayingHas sy v1 0) dy) else 99) else 0)) v1 4) + 1) < 9999 then (fX0_sayingHas (fX0_setOfSaying sy v1 2 (if 0 < (if ((fX0_sayingHas sy v1 2) + (fX1_blurs (fX0_sayingHas sy v1 0) dy)) < 99 then (fX0_sayingHas sy v1 2) + (fX1_blurs (fX0_sayingHas sy v1 0) dy) else 99) then (if ((fX0_sayingHas sy v1 2) + (fX1_blurs (fX0_sayingHas sy v1 0) dy)) < 99 then (fX0_sayingHas sy v1 2) + (fX1_blurs (fX0_sayingHas sy v1 0) dy) else 99) else 0)) v1 4) + 1 else 9999)) sh sc nc dy zz)) [0, 1, 2, 3, 4] [some 0, some 1, some 2, some 3, some 4] (rV C0 (tX0_setOfSaying l D cI cS a0 a1 a2 a3 a4 pl sp (fX0_setOfSaying sy v1 2 (if 0 < (if ((fX0_sayingHas sy v1 2) + (fX1_blurs (fX0_sayingHas sy v1 0) dy)) < 99 then (fX0_sayingHas sy v1 2) + (fX1_blurs (fX0_sayingHas sy v1 0) dy) else 99) then (if ((fX0_sayingHas sy v1 2) + (fX1_blurs (fX0_sayingHas sy v1 0) dy)) < 99 then (fX0_sayingHas sy v1 2) + (fX1_blurs (fX0_sayingHas sy v1 0) dy) else 99) else 0)) sh sc nc dy zz v1 4 (if ((fX0_sayingHas (fX0_setOfSaying sy v1 2 (if 0 < (if ((fX0_sayingHas sy v1 2) + (fX1_blurs (fX0_sayingHas sy v1 0) dy)) < 99 then (fX0_sayingHas sy v1 2) + (fX1_blurs (fX0_sayingHas sy v1 0) dy) else 99) then (if ((fX0_sayingHas sy v1 2) + (fX1_blurs (fX0_sayingHas sy v1 0) dy)) < 99 then (fX0_sayingHas sy v1 2) + (fX1_blurs (fX0_sayingHas sy v1 0) dy) else 99) else 0)) v1 4) + 1) < 9999 then (fX0_sayingHas (fX0_setOfSaying sy v1 2 (if 0 < (if ((fX0_sayingHas sy v1 2) + (fX1_blurs (fX0_sayingHas sy v1 0) dy)) < 99 then (fX0_sayingHas sy v1 2) + (fX1_blurs (fX0_sayingHas sy v1 0) dy) else 99) then (if ((fX0_sayingHas sy v1 2) + (fX1_blurs (fX0_sayingHas sy v1 0) dy)) < 99 then (fX0_sayingHas sy v1 2) + (fX1_blurs (fX0_sayingHas sy v1 0) dy) else 99) else 0)) v1 4) + 1 else 9999) (fX0_setOfSaying (fX0_setOfSaying sy v1 2 (if 0 < (if ((fX0_sayingHas sy v1 2) + (fX1_blurs (fX0_sayingHas sy v1 0) dy)) < 99 then (fX0_sayingHas sy v1 2) + (fX1_blurs (fX0_sayingHas sy v1 0) dy) else 99) then (if ((fX0_sayingHas sy v1 2) + (fX1_blurs (fX0_sayingHas sy v1 0) dy)) < 99 then (fX0_sayingHas sy v1 2) + (fX1_blurs (fX0_sayingHas sy v1 0) dy) else 99) else 0)) v1 4 (if ((fX0_sayingHas (fX0_setOfSaying sy v1 2 (if 0 < (if ((fX0_sayingHas sy v1 2) + (fX1_blurs (fX0_sayingHas sy v1 0) dy)) < 99 then (fX0_sayingHas sy v1 2) + (fX1_blurs (fX0_sayingHas sy v1 0) dy) else 99) then (if ((fX0_sayingHas sy v1 2) + (fX1_blurs (fX0_sayingHas sy v1 0) dy)) < 99 then (fX0_sayingHas sy v1 2) + (fX1_blurs (fX0_sayingHas sy v1 0) dy) else 99) else 0)) v1 4) + 1) < 9999 then (fX0_sayingHas (fX0_setOfSaying sy v1 2 (if 0 < (if ((fX0_sayingHas sy v1 2) + (fX1_blurs (fX0_sayingHas sy v1 0) dy)) < 99 then (fX0_sayingHas sy v1 2) + (fX1_blurs (fX0_sayingHas sy v1 0) dy) else 99) then (if ((fX0_sayingHas sy v1 2) + (fX1_blurs (fX0_sayingHas sy v1 0) dy)) < 99 then (fX0_sayingHas sy v1 2) + (fX1_blurs (fX0_sayingHas sy v1 0) dy) else 99) else 0)) v1 4) + 1 else 9999)) rfl (((hD (wX0 cI cS a0 a1 a2 a3 a4 pl sp (fX0_setOfSaying sy v1 2 (if 0 < (if ((fX0_sayingHas sy v1 2) + (fX1_blurs (fX0_sayingHas sy v1 0) dy)) < 99 then (fX0_sayingHas sy v1 2) + (fX1_blurs (fX0_sayingHas sy v1 0) dy) else 99) then (if ((fX0_sayingHas sy v1 2) + (fX1_blurs (fX0_sayingHas sy v1 0) dy)) < 99 then (fX0_sayingHas sy v1 2) + (fX1_blurs (fX0_sayingHas sy v1 0) dy) else 99) else 0)) sh sc nc dy zz) rfl).sub [0, 1, 2, 3, 4] (by decide) rfl).weaken (fun _ _ _ _ => trivial))) RX0 gX0_blur_X0_setOfSaying rfl ⟨rfl, rfl⟩ pdX0_setOfSaying rfl ⟨Nat.le_of_ble_eq_true rfl, Nat.le_of_ble_eq_true rfl⟩ (fun _ _ _ _ q => q) (va_recv hE.1 hPc (ci := 0) (q0 := 0) rfl rfl) (fun U hU _ _ => by rw [hU]; exact hPc) hl.1 rfl (Nat.le_of_ble_eq_true rfl) dX0_blur_56 ⟨Nat.zero_le _, Nat.zero_le _⟩) hP (hD _ rfl) hS rfl rfl rfl (fun H locs hP hS => ?_)
  subst h
  exact eMv C0 hP hS rfl dX0_blur_59
def fX0_passDays_10 (F : Nat) (k : (Nat → Int32) → Option ((Nat → Int32) × (Nat → Int32) × Int32)) (sy : Nat → Int32) (sc : Int32) (nc : Int32) (v2 : Int32) : Nat → Int32 → (Nat → Int32) → Option ((Nat → Int32) × (Nat → Int32) × Int32)
  | 0, _, _ => none
  | n + 1, v4, sh => (if nc ≤ v4 then k sh else (if ((v2 >>> (v4 &&& 31)) &&& 1) = 1 then (if (fX0_isInPort sh v4) = 0 then Option.bind (fX0_sail F sy sh sc v4) (fun z_5 => fX0_passDays_10 F k sy sc nc v2 n (v4 + 1) z_5) else fX0_passDays_10 F k sy sc nc v2 n (v4 + 1) sh) else fX0_passDays_10 F k sy sc nc v2 n (v4 + 1) sh))
def fX0_passDays_65 (k : (Nat → Int32) → Option ((Nat → Int32) × (Nat → Int32) × Int32)) (sc : Int32) (dy : Int32) : Nat → Int32 → (Nat → Int32) → Option ((Nat → Int32) × (Nat → Int32) × Int32)
  | 0, _, _ => none
  | n + 1, v4, sy => (if sc ≤ v4 then k sy else (if (fX0_isFinished sy v4) = 0 then fX0_passDays_65 k sc dy n (v4 + 1) (fX0_blur sy dy v4) else fX0_passDays_65 k sc dy n (v4 + 1) sy))
def fX0_passDays_2 (F : Nat) (pl : Nat → Int32) (sc : Int32) (nc : Int32) (v1 : Int32) (v2 : Int32) : Nat → Int32 → (Nat → Int32) → (Nat → Int32) → Int32 → Option ((Nat → Int32) × (Nat → Int32) × Int32)
  | 0, _, _, _, _ => none
  | n + 1, v3, sy, sh, dy => (if v1 ≤ v3 then some (sy, sh, dy) else fX0_passDays_10 F (fun sh__7 => fX0_passDays_65 (fun sy__10 => fX0_passDays_2 F pl sc nc v1 v2 n (v3 + 1) sy__10 sh__7 (if (dy + 1) < 99999 then dy + 1 else 99999)) sc dy F 0 (fX0_finishByList sy sc (fX0_placeAt pl (fX0_placeOfDay dy)))) sy sc nc v2 F 0 sh)
def fX0_passDays (F : Nat) (pl : Nat → Int32) (sy : Nat → Int32) (sh : Nat → Int32) (sc : Int32) (nc : Int32) (dy : Int32) (v1 : Int32) (v2 : Int32) : Option ((Nat → Int32) × (Nat → Int32) × Int32) := fX0_passDays_2 F pl sc nc v1 v2 F 0 sy sh dy
abbrev rmX0_passDays : Room := { frames := 4, cells := 0, slots := 0, locals := 96 }
theorem pdX0_passDays : (yX0_passDays.cls = RX0 ∧ yX0_passDays.cls ≠ "java/lang/invoke/MethodHandle" ∧ yX0_passDays.cls ≠ "java/lang/invoke/VarHandle" ∧ (parseMethodDescriptor yX0_passDays.desc).map (fun d => d.parameters.length) = some 2) := by decide +kernel
set_option maxHeartbeats 4000000 in
set_option maxRecDepth 100000 in
theorem lX0_passDays_10 {p : Program} {l : Launch} {e : Env} {s : State} {m : MethodId} {av : Array Value} {below : List Frame} {meth : Method} {c : Code} {D : va_G} {cI cS : ClassId} {a0 a1 a2 a3 a4 : Nat} {W0 : va_W} (C0 : CX p s m av meth c RX0 cX0_passDays 5 none wsX0_passDays D cI cS) (F : Nat) (k : (Nat → Int32) → Option ((Nat → Int32) × (Nat → Int32) × Int32)) (pl : Nat → Int32) (sp : Nat → Int32) (sy : Nat → Int32) (sc : Int32) (nc : Int32) (dy : Int32) (zz : Int32) (v1 : Int32) (v2 : Int32) (v3 : Int32) (z0 : Nat → Int32) (z1 : Nat → Int32) (z2 : Int32) (hD : ∀ W : va_W, W.map Prod.fst = [a0, a1, a2, a3, a4] → va_D (wA W0) W) (kk : ∀ (sh : Nat → Int32) (H : Heap) (locs : List Loc), va_P D vwCl (wX0 cI cS a0 a1 a2 a3 a4 pl sp sy sh sc nc dy zz) H → va_S (wA W0) s.heap H locs → ∀ (ls : Array Slot), lv_has ls 5 [(0, .ref a0), (1, .int v1), (2, .int v2), (3, .int v3)] → k sh = some (z0, z1, z2) → W p l e rmX0_passDays s m av below meth c H locs 0 0 (MQ below (qV D W0 (wX0 cI cS a0 a1 a2 a3 a4 pl sp z0 z1 sc nc z2 zz)) av s 0 0 (wA W0)) (F0 m 50 ls [])) : ∀ (n : Nat) (v4 : Int32) (sh : Nat → Int32) (H : Heap) (locs : List Loc), va_P D vwCl (wX0 cI cS a0 a1 a2 a3 a4 pl sp sy sh sc nc dy zz) H → va_S (wA W0) s.heap H locs → ∀ (ls : Array Slot), lv_has ls 5 [(0, .ref a0), (1, .int v1), (2, .int v2), (3, .int v3), (4, .int v4)] → fX0_passDays_10 F k sy sc nc v2 n v4 sh = some (z0, z1, z2) → W p l e rmX0_passDays s m av below meth c H locs 0 0 (MQ below (qV D W0 (wX0 cI cS a0 a1 a2 a3 a4 pl sp z0 z1 sc nc z2 zz)) av s 0 0 (wA W0)) (F0 m 10 ls []) := by
  obtain ⟨hx, hb, hr, hml, hown, hts, hlk, hE⟩ := id C0
  have hinX0 : ∀ w ∈ u_ws RX0 TX0 8, w ∈ wsX0_passDays := by decide +kernel
  intro n
  induction n with
  | zero =>
    intro v4 sh H locs hP hS ls hl h
    cases (show none = some (z0, z1, z2) from h)
  | succ n ih =>
    intro v4 sh H locs hP hS ls hl h
    rw [fX0_passDays_10] at h
    refine lv_iload hx hb dX0_passDays_10 (lv_at hl 4 rfl) ?_
    refine lv_aload_n hx hb dX0_passDays_12 rfl (lv_at hl 0 rfl) ?_
    refine va_get (D := D) (ci := 0) (v := .int nc) (C := RX0) (T := TX0) (N := 8) hx hb hts hinX0 hown hE.1 hP 0 rfl rfl 5 (by decide) (hts _ (List.mem_of_getElem? (i := 1) rfl)) (fun _ h9 => h9) rfl dX0_passDays_13 ?_
    refine lv_icmp_ge (tgt := 50) hx hb dX0_passDays_16 (by decide) (fun c_2 => ?_) (fun c_2 => ?_)
    · have h := ifp c_2 h
      exact kk sh _ _ hP hS _ (lv_sub hl [0, 1, 2, 3] rfl) h
    · have h := ifn c_2 h
      refine lv_iload_n hx hb dX0_passDays_19 rfl (lv_at hl 2 rfl) ?_
      refine lv_iload hx hb dX0_passDays_20 (lv_at hl 4 rfl) ?_
      refine lv_ishr hx hb dX0_passDays_22 ?_
      refine lv_iconst (v := 1) hx hb dX0_passDays_23 (by decide) ?_
      refine lv_iand hx hb dX0_passDays_24 ?_
      refine lv_iconst (v := 1) hx hb dX0_passDays_25 (by decide) ?_
      refine lv_icmp_ne (tgt := 44) hx hb dX0_passDays_26 (by decide) (fun c_3 => ?_) (fun c_3 => ?_)
      · have h := ifn c_3 h
        refine lv_iinc (v := v4 + 1) (lv' := [(4, .int (v4 + 1)), (0, .ref a0), (1, .int v1), (2, .int v2), (3, .int v3)]) hx hb dX0_passDays_44 hl (k := 4) rfl rfl (by decide) rfl (fun ls hl => ?_)
        refine lv_goto (tgt := 10) hx hb dX0_passDays_47 (by decide) ?_
        exact ih (v4 + 1) sh _ _ hP hS _ (lv_sub hl [1, 2, 3, 4, 0] rfl) h
      · have h := ifp c_3 h
        refine lv_aload_n hx hb dX0_passDays_29 rfl (lv_at hl 0 rfl) ?_
        refine lv_iload hx hb dX0_passDays_30 (lv_at hl 4 rfl) ?_
        have hPc := hP.sub (ws' := (wX0 cI cS a0 a1 a2 a3 a4 pl sp sy sh sc nc dy zz)) [0, 1, 2, 3, 4] rfl
        refine kRi (rV C0 (tX0_isInPort l D cI cS a0 a1 a2 a3 a4 pl sp sy sh sc nc dy zz v4 (fX0_isInPort sh v4) rfl) RX0 gX0_passDays_X0_isInPort rfl ⟨rfl, rfl⟩ pdX0_isInPort rfl ⟨Nat.le_of_ble_eq_true rfl, Nat.le_of_ble_eq_true rfl⟩ (fun _ _ _ _ q => q) (va_recv hE.1 hPc (ci := 0) (q0 := 0) rfl rfl) (fun U hU _ _ => by rw [hU]; exact hPc) hl.1 rfl (Nat.le_of_ble_eq_true rfl) dX0_passDays_32 ⟨Nat.zero_le _, Nat.zero_le _⟩) ?_
        refine lv_if_ne (tgt := 44) hx hb dX0_passDays_35 (by decide) (fun c_4 => ?_) (fun c_4 => ?_)
        · have h := ifn c_4 h
          refine lv_iinc (v := v4 + 1) (lv' := [(4, .int (v4 + 1)), (0, .ref a0), (1, .int v1), (2, .int v2), (3, .int v3)]) hx hb dX0_passDays_44 hl (k := 4) rfl rfl (by decide) rfl (fun ls hl => ?_)
          refine lv_goto (tgt := 10) hx hb dX0_passDays_47 (by decide) ?_
          exact ih (v4 + 1) sh _ _ hP hS _ (lv_sub hl [1, 2, 3, 4, 0] rfl) h
        · have h := ifp c_4 h
          refine lv_aload_n hx hb dX0_passDays_38 rfl (lv_at hl 0 rfl) ?_
          refine lv_iload hx hb dX0_passDays_39 (lv_at hl 4 rfl) ?_
          obtain ⟨z_5, e_6, h⟩ := bds h
          have hPc := hP.sub (ws' := (wX0 cI cS a0 a1 a2 a3 a4 pl sp sy sh sc nc dy zz)) [0, 1, 2, 3, 4] rfl
          refine kMv (wf' := (wX0 cI cS a0 a1 a2 a3 a4 pl sp sy z_5 sc nc dy zz)) [0, 1, 2, 3, 4] [some 0, some 1, some 2, some 3, some 4] (rV C0 (tX0_sail l D cI cS F a0 a1 a2 a3 a4 pl sp sy sh sc nc dy zz v4 z_5 e_6 (((hD (wX0 cI cS a0 a1 a2 a3 a4 pl sp sy sh sc nc dy zz) rfl).sub [0, 1, 2, 3, 4] (by decide) rfl).weaken (fun _ _ _ _ => trivial))) RX0 gX0_passDays_X0_sail rfl ⟨rfl, rfl⟩ pdX0_sail rfl ⟨Nat.le_of_ble_eq_true rfl, Nat.le_of_ble_eq_true rfl⟩ (fun _ _ _ _ q => q) (va_recv hE.1 hPc (ci := 0) (q0 := 0) rfl rfl) (fun U hU _ _ => by rw [hU]; exact hPc) hl.1 rfl (Nat.le_of_ble_eq_true rfl) dX0_passDays_41 ⟨Nat.zero_le _, Nat.zero_le _⟩) hP (hD _ rfl) hS rfl rfl rfl (fun H locs hP hS => ?_)
          refine lv_iinc (v := v4 + 1) (lv' := [(4, .int (v4 + 1)), (0, .ref a0), (1, .int v1), (2, .int v2), (3, .int v3)]) hx hb dX0_passDays_44 hl (k := 4) rfl rfl (by decide) rfl (fun ls hl => ?_)
          refine lv_goto (tgt := 10) hx hb dX0_passDays_47 (by decide) ?_
          exact ih (v4 + 1) z_5 _ _ hP hS _ (lv_sub hl [1, 2, 3, 4, 0] rfl) h
set_option maxHeartbeats 4000000 in
set_option maxRecDepth 100000 in
theorem lX0_passDays_65 {p : Program} {l : Launch} {e : Env} {s : State} {m : MethodId} {av : Array Value} {below : List Frame} {meth : Method} {c : Code} {D : va_G} {cI cS : ClassId} {a0 a1 a2 a3 a4 : Nat} {W0 : va_W} (C0 : CX p s m av meth c RX0 cX0_passDays 5 none wsX0_passDays D cI cS) (F : Nat) (k : (Nat → Int32) → Option ((Nat → Int32) × (Nat → Int32) × Int32)) (pl : Nat → Int32) (sp : Nat → Int32) (sh : Nat → Int32) (sc : Int32) (nc : Int32) (dy : Int32) (zz : Int32) (v1 : Int32) (v2 : Int32) (v3 : Int32) (z0 : Nat → Int32) (z1 : Nat → Int32) (z2 : Int32) (hD : ∀ W : va_W, W.map Prod.fst = [a0, a1, a2, a3, a4] → va_D (wA W0) W) (kk : ∀ (sy : Nat → Int32) (H : Heap) (locs : List Loc), va_P D vwCl (wX0 cI cS a0 a1 a2 a3 a4 pl sp sy sh sc nc dy zz) H → va_S (wA W0) s.heap H locs → ∀ (ls : Array Slot), lv_has ls 5 [(0, .ref a0), (1, .int v1), (2, .int v2), (3, .int v3)] → k sy = some (z0, z1, z2) → W p l e rmX0_passDays s m av below meth c H locs 0 0 (MQ below (qV D W0 (wX0 cI cS a0 a1 a2 a3 a4 pl sp z0 z1 sc nc z2 zz)) av s 0 0 (wA W0)) (F0 m 95 ls [])) : ∀ (n : Nat) (v4 : Int32) (sy : Nat → Int32) (H : Heap) (locs : List Loc), va_P D vwCl (wX0 cI cS a0 a1 a2 a3 a4 pl sp sy sh sc nc dy zz) H → va_S (wA W0) s.heap H locs → ∀ (ls : Array Slot), lv_has ls 5 [(0, .ref a0), (1, .int v1), (2, .int v2), (3, .int v3), (4, .int v4)] → fX0_passDays_65 k sc dy n v4 sy = some (z0, z1, z2) → W p l e rmX0_passDays s m av below meth c H locs 0 0 (MQ below (qV D W0 (wX0 cI cS a0 a1 a2 a3 a4 pl sp z0 z1 sc nc z2 zz)) av s 0 0 (wA W0)) (F0 m 65 ls []) := by
  obtain ⟨hx, hb, hr, hml, hown, hts, hlk, hE⟩ := id C0
  have hinX0 : ∀ w ∈ u_ws RX0 TX0 8, w ∈ wsX0_passDays := by decide +kernel
  intro n
  induction n with
  | zero =>
    intro v4 sy H locs hP hS ls hl h
    cases (show none = some (z0, z1, z2) from h)
  | succ n ih =>
    intro v4 sy H locs hP hS ls hl h
    rw [fX0_passDays_65] at h
    refine lv_iload hx hb dX0_passDays_65 (lv_at hl 4 rfl) ?_
    refine lv_aload_n hx hb dX0_passDays_67 rfl (lv_at hl 0 rfl) ?_
    refine va_get (D := D) (ci := 0) (v := .int sc) (C := RX0) (T := TX0) (N := 8) hx hb hts hinX0 hown hE.1 hP 0 rfl rfl 4 (by decide) (hts _ (List.mem_of_getElem? (i := 2) rfl)) (fun _ h9 => h9) rfl dX0_passDays_68 ?_
    refine lv_icmp_ge (tgt := 95) hx hb dX0_passDays_71 (by decide) (fun c_8 => ?_) (fun c_8 => ?_)
    · have h := ifp c_8 h
      exact kk sy _ _ hP hS _ (lv_sub hl [0, 1, 2, 3] rfl) h
    · have h := ifn c_8 h
      refine lv_aload_n hx hb dX0_passDays_74 rfl (lv_at hl 0 rfl) ?_
      refine lv_iload hx hb dX0_passDays_75 (lv_at hl 4 rfl) ?_
      have hPc := hP.sub (ws' := (wX0 cI cS a0 a1 a2 a3 a4 pl sp sy sh sc nc dy zz)) [0, 1, 2, 3, 4] rfl
      refine kRi (rV C0 (tX0_isFinished l D cI cS a0 a1 a2 a3 a4 pl sp sy sh sc nc dy zz v4 (fX0_isFinished sy v4) rfl) RX0 gX0_passDays_X0_isFinished rfl ⟨rfl, rfl⟩ pdX0_isFinished rfl ⟨Nat.le_of_ble_eq_true rfl, Nat.le_of_ble_eq_true rfl⟩ (fun _ _ _ _ q => q) (va_recv hE.1 hPc (ci := 0) (q0 := 0) rfl rfl) (fun U hU _ _ => by rw [hU]; exact hPc) hl.1 rfl (Nat.le_of_ble_eq_true rfl) dX0_passDays_77 ⟨Nat.zero_le _, Nat.zero_le _⟩) ?_
      refine lv_if_ne (tgt := 89) hx hb dX0_passDays_80 (by decide) (fun c_9 => ?_) (fun c_9 => ?_)
      · have h := ifn c_9 h
        refine lv_iinc (v := v4 + 1) (lv' := [(4, .int (v4 + 1)), (0, .ref a0), (1, .int v1), (2, .int v2), (3, .int v3)]) hx hb dX0_passDays_89 hl (k := 4) rfl rfl (by decide) rfl (fun ls hl => ?_)
        refine lv_goto (tgt := 65) hx hb dX0_passDays_92 (by decide) ?_
        exact ih (v4 + 1) sy _ _ hP hS _ (lv_sub hl [1, 2, 3, 4, 0] rfl) h
      · have h := ifp c_9 h
        refine lv_aload_n hx hb dX0_passDays_83 rfl (lv_at hl 0 rfl) ?_
        refine lv_iload hx hb dX0_passDays_84 (lv_at hl 4 rfl) ?_
        have hPc := hP.sub (ws' := (wX0 cI cS a0 a1 a2 a3 a4 pl sp sy sh sc nc dy zz)) [0, 1, 2, 3, 4] rfl
        refine kMv (wf' := (wX0 cI cS a0 a1 a2 a3 a4 pl sp (fX0_blur sy dy v4) sh sc nc dy zz)) [0, 1, 2, 3, 4] [some 0, some 1, some 2, some 3, some 4] (rV C0 (tX0_blur l D cI cS a0 a1 a2 a3 a4 pl sp sy sh sc nc dy zz v4 (fX0_blur sy dy v4) rfl (((hD (wX0 cI cS a0 a1 a2 a3 a4 pl sp sy sh sc nc dy zz) rfl).sub [0, 1, 2, 3, 4] (by decide) rfl).weaken (fun _ _ _ _ => trivial))) RX0 gX0_passDays_X0_blur rfl ⟨rfl, rfl⟩ pdX0_blur rfl ⟨Nat.le_of_ble_eq_true rfl, Nat.le_of_ble_eq_true rfl⟩ (fun _ _ _ _ q => q) (va_recv hE.1 hPc (ci := 0) (q0 := 0) rfl rfl) (fun U hU _ _ => by rw [hU]; exact hPc) hl.1 rfl (Nat.le_of_ble_eq_true rfl) dX0_passDays_86 ⟨Nat.zero_le _, Nat.zero_le _⟩) hP (hD _ rfl) hS rfl rfl rfl (fun H locs hP hS => ?_)
        refine lv_iinc (v := v4 + 1) (lv' := [(4, .int (v4 + 1)), (0, .ref a0), (1, .int v1), (2, .int v2), (3, .int v3)]) hx hb dX0_passDays_89 hl (k := 4) rfl rfl (by decide) rfl (fun ls hl => ?_)
        refine lv_goto (tgt := 65) hx hb dX0_passDays_92 (by decide) ?_
        exact ih (v4 + 1) (fX0_blur sy dy v4) _ _ hP hS _ (lv_sub hl [1, 2, 3, 4, 0] rfl) h
set_option maxHeartbeats 4000000 in
set_option maxRecDepth 100000 in
theorem lX0_passDays_2 {p : Program} {l : Launch} {e : Env} {s : State} {m : MethodId} {av : Array Value} {below : List Frame} {meth : Method} {c : Code} {D : va_G} {cI cS : ClassId} {a0 a1 a2 a3 a4 : Nat} {W0 : va_W} (C0 : CX p s m av meth c RX0 cX0_passDays 5 none wsX0_passDays D cI cS) (F : Nat) (pl : Nat → Int32) (sp : Nat → Int32) (sc : Int32) (nc : Int32) (zz : Int32) (v1 : Int32) (v2 : Int32) (z0 : Nat → Int32) (z1 : Nat → Int32) (z2 : Int32) (hD : ∀ W : va_W, W.map Prod.fst = [a0, a1, a2, a3, a4] → va_D (wA W0) W) : ∀ (n : Nat) (v3 : Int32) (sy : Nat → Int32) (sh : Nat → Int32) (dy : Int32) (H : Heap) (locs : List Loc), va_P D vwCl (wX0 cI cS a0 a1 a2 a3 a4 pl sp sy sh sc nc dy zz) H → va_S (wA W0) s.heap H locs → ∀ (ls : Array Slot), lv_has ls 5 [(0, .ref a0), (1, .int v1), (2, .int v2), (3, .int v3)] → fX0_passDays_2 F pl sc nc v1 v2 n v3 sy sh dy = some (z0, z1, z2) → W p l e rmX0_passDays s m av below meth c H locs 0 0 (MQ below (qV D W0 (wX0 cI cS a0 a1 a2 a3 a4 pl sp z0 z1 sc nc z2 zz)) av s 0 0 (wA W0)) (F0 m 2 ls []) := by
  obtain ⟨hx, hb, hr, hml, hown, hts, hlk, hE⟩ := id C0
  have hinX0 : ∀ w ∈ u_ws RX0 TX0 8, w ∈ wsX0_passDays := by decide +kernel
  intro n
  induction n with
  | zero =>
    intro v3 sy sh dy H locs hP hS ls hl h
    cases (show none = some (z0, z1, z2) from h)
  | succ n ih =>
    intro v3 sy sh dy H locs hP hS ls hl h
    rw [fX0_passDays_2] at h
    refine lv_iload_n hx hb dX0_passDays_2 rfl (lv_at hl 3 rfl) ?_
    refine lv_iload_n hx hb dX0_passDays_3 rfl (lv_at hl 1 rfl) ?_
    refine lv_icmp_ge (tgt := 116) hx hb dX0_passDays_4 (by decide) (fun c_1 => ?_) (fun c_1 => ?_)
    · have h := ifp c_1 h
      obtain ⟨q0, g0⟩ := Prod.mk.inj (Option.some.inj h)
      obtain ⟨q1, q2⟩ := Prod.mk.inj g0
      subst q0 q1 q2
      exact eMv C0 hP hS rfl dX0_passDays_116
    · have h := ifn c_1 h
      refine lv_iconst (v := 0) hx hb dX0_passDays_7 (by decide) ?_
      refine lv_istore (lv' := [(4, .int 0), (0, .ref a0), (1, .int v1), (2, .int v2), (3, .int v3)]) hx hb dX0_passDays_8 hl (by decide) rfl (fun ls hl => ?_)
      refine lX0_passDays_10 (l := l) (e := e) (below := below) C0 F _ pl sp sy sc nc dy zz v1 v2 v3 z0 z1 z2 hD (fun sh__7 H locs hP hS ls hl h => ?_) F 0 sh _ _ hP hS _ (lv_sub hl [1, 2, 3, 4, 0] rfl) h
      refine lv_aload_n hx hb dX0_passDays_50 rfl (lv_at hl 0 rfl) ?_
      refine lv_aload_n hx hb dX0_passDays_51 rfl (lv_at hl 0 rfl) ?_
      refine lv_aload_n hx hb dX0_passDays_52 rfl (lv_at hl 0 rfl) ?_
      have hPc := hP.sub (ws' := (wX0 cI cS a0 a1 a2 a3 a4 pl sp sy sh__7 sc nc dy zz)) [0, 1, 2, 3, 4] rfl
      refine kRi (rV C0 (tX0_placeOfDay l D cI cS a0 a1 a2 a3 a4 pl sp sy sh__7 sc nc dy zz  (fX0_placeOfDay dy) rfl) RX0 gX0_passDays_X0_placeOfDay rfl ⟨rfl, rfl⟩ pdX0_placeOfDay rfl ⟨Nat.le_of_ble_eq_true rfl, Nat.le_of_ble_eq_true rfl⟩ (fun _ _ _ _ q => q) (va_recv hE.1 hPc (ci := 0) (q0 := 0) rfl rfl) (fun U hU _ _ => by rw [hU]; exact hPc) hl.1 rfl (Nat.le_of_ble_eq_true rfl) dX0_passDays_53 ⟨Nat.zero_le _, Nat.zero_le _⟩) ?_
      have hPc := hP.sub (ws' := (wX0 cI cS a0 a1 a2 a3 a4 pl sp sy sh__7 sc nc dy zz)) [0, 1, 2, 3, 4] rfl
      refine kRi (rV C0 (tX0_placeAt l D cI cS a0 a1 a2 a3 a4 pl sp sy sh__7 sc nc dy zz (fX0_placeOfDay dy) (fX0_placeAt pl (fX0_placeOfDay dy)) rfl) RX0 gX0_passDays_X0_placeAt rfl ⟨rfl, rfl⟩ pdX0_placeAt rfl ⟨Nat.le_of_ble_eq_true rfl, Nat.le_of_ble_eq_true rfl⟩ (fun _ _ _ _ q => q) (va_recv hE.1 hPc (ci := 0) (q0 := 0) rfl rfl) (fun U hU _ _ => by rw [hU]; exact hPc) hl.1 rfl (Nat.le_of_ble_eq_true rfl) dX0_passDays_56 ⟨Nat.zero_le _, Nat.zero_le _⟩) ?_
      have hPc := hP.sub (ws' := (wX0 cI cS a0 a1 a2 a3 a4 pl sp sy sh__7 sc nc dy zz)) [0, 1, 2, 3, 4] rfl
      refine kMv (wf' := (wX0 cI cS a0 a1 a2 a3 a4 pl sp (fX0_finishByList sy sc (fX0_placeAt pl (fX0_placeOfDay dy))) sh__7 sc nc dy zz)) [0, 1, 2, 3, 4] [some 0, some 1, some 2, some 3, some 4] (rV C0 (tX0_finishByList l D cI cS a0 a1 a2 a3 a4 pl sp sy sh__7 sc nc dy zz (fX0_placeAt pl (fX0_placeOfDay dy)) (fX0_finishByList sy sc (fX0_placeAt pl (fX0_placeOfDay dy))) rfl (((hD (wX0 cI cS a0 a1 a2 a3 a4 pl sp sy sh__7 sc nc dy zz) rfl).sub [0, 1, 2, 3, 4] (by decide) rfl).weaken (fun _ _ _ _ => trivial))) RX0 gX0_passDays_X0_finishByList rfl ⟨rfl, rfl⟩ pdX0_finishByList rfl ⟨Nat.le_of_ble_eq_true rfl, Nat.le_of_ble_eq_true rfl⟩ (fun _ _ _ _ q => q) (va_recv hE.1 hPc (ci := 0) (q0 := 0) rfl rfl) (fun U hU _ _ => by rw [hU]; exact hPc) hl.1 rfl (Nat.le_of_ble_eq_true rfl) dX0_passDays_59 ⟨Nat.zero_le _, Nat.zero_le _⟩) hP (hD _ rfl) hS rfl rfl rfl (fun H locs hP hS => ?_)
      refine lv_iconst (v := 0) hx hb dX0_passDays_62 (by decide) ?_
      refine lv_istore (lv' := [(4, .int 0), (0, .ref a0), (1, .int v1), (2, .int v2), (3, .int v3)]) hx hb dX0_passDays_63 hl (by decide) rfl (fun ls hl => ?_)
      refine lX0_passDays_65 (l := l) (e := e) (below := below) C0 F _ pl sp sh__7 sc nc dy zz v1 v2 v3 z0 z1 z2 hD (fun sy__10 H locs hP hS ls hl h => ?_) F 0 (fX0_finishByList sy sc (fX0_placeAt pl (fX0_placeOfDay dy))) _ _ hP hS _ (lv_sub hl [1, 2, 3, 4, 0] rfl) h
      refine lv_aload_n hx hb dX0_passDays_95 rfl (lv_at hl 0 rfl) ?_
      refine lv_ldc (v := 99999) hx hb hown (hts _ (List.mem_of_getElem? (i := 3) rfl)) dX0_passDays_96 ?_
      refine lv_aload_n hx hb dX0_passDays_98 rfl (lv_at hl 0 rfl) ?_
      refine va_get (D := D) (ci := 0) (v := .int dy) (C := RX0) (T := TX0) (N := 8) hx hb hts hinX0 hown hE.1 hP 0 rfl rfl 6 (by decide) (hts _ (List.mem_of_getElem? (i := 4) rfl)) (fun _ h9 => h9) rfl dX0_passDays_99 ?_
      refine lv_iconst (v := 1) hx hb dX0_passDays_102 (by decide) ?_
      refine lv_iadd hx hb dX0_passDays_103 ?_
      refine va_mmin hx hb (hml.trans hl.1.symm) hown (hts _ (List.mem_of_getElem? (i := 5) rfl)) (hts _ (List.mem_of_getElem? (i := 6) rfl)) (hts _ (List.mem_of_getElem? (i := 7) rfl)) (hts _ (List.mem_of_getElem? (i := 8) rfl)) (Nat.le_of_ble_eq_true rfl) (Nat.le_of_ble_eq_true rfl) (Nat.zero_le _) (Nat.zero_le _) dX0_passDays_104 ?_
      refine va_put (D := D) (ci := 0) (v := .int (if (dy + 1) < 99999 then dy + 1 else 99999)) (ty := .int) (C := RX0) (T := TX0) (N := 8) hx hb hts hinX0 tyX0 tyX0_ok nmX0 hown hE.1 hP (hD _ rfl) hS 0 rfl rfl 6 (by decide) (hts _ (List.mem_of_getElem? (i := 4) rfl)) (fun _ h9 => h9) rfl (by decide +kernel) rfl rfl (Nat.le_of_ble_eq_true rfl) dX0_passDays_107 (fun H locs hP _ hS => ?_)
      have hP : va_P D vwCl (wX0 cI cS a0 a1 a2 a3 a4 pl sp sy__10 sh__7 sc nc (if (dy + 1) < 99999 then dy + 1 else 99999) zz) H := hP
      refine lv_iinc (v := v3 + 1) (lv' := [(3, .int (v3 + 1)), (0, .ref a0), (1, .int v1), (2, .int v2)]) hx hb dX0_passDays_110 hl (k := 3) rfl rfl (by decide) rfl (fun ls hl => ?_)
      refine lv_goto (tgt := 2) hx hb dX0_passDays_113 (by decide) ?_
      exact ih (v3 + 1) sy__10 sh__7 (if (dy + 1) < 99999 then dy + 1 else 99999) _ _ hP hS _ (lv_sub hl [1, 2, 3, 0] rfl) h
set_option maxHeartbeats 4000000 in
set_option maxRecDepth 100000 in
theorem tX0_passDays (l : Launch) (D : va_G) (cI cS : ClassId) (F : Nat) (a0 a1 a2 a3 a4 : Nat) (pl : Nat → Int32) (sp : Nat → Int32) (sy : Nat → Int32) (sh : Nat → Int32) (sc : Int32) (nc : Int32) (dy : Int32) (zz : Int32) (v1 : Int32) (v2 : Int32) (z0 : Nat → Int32) (z1 : Nat → Int32) (z2 : Int32) (h : fX0_passDays F pl sy sh sc nc dy v1 v2 = some (z0, z1, z2)) (hD0 : va_D (fun _ => True) (wX0 cI cS a0 a1 a2 a3 a4 pl sp sy sh sc nc dy zz)) : Met l yX0_passDays wsX0_passDays rmX0_passDays (PZ D cI cS [.ref a0, .int v1, .int v2] (fun U => va_P D vwCl (wX0 cI cS a0 a1 a2 a3 a4 pl sp sy sh sc nc dy zz) U.heap)) (qV D (wX0 cI cS a0 a1 a2 a3 a4 pl sp sy sh sc nc dy zz) (wX0 cI cS a0 a1 a2 a3 a4 pl sp z0 z1 sc nc z2 zz)) 0 0 (wA (wX0 cI cS a0 a1 a2 a3 a4 pl sp sy sh sc nc dy zz)) := by
  refine Met.mk RX0 (by decide) rfl rfl (Nat.le_of_ble_eq_true rfl) ?_
  intro p e s m below meth c ls C0 hP hl
  have hl : lv_has ls 5 [(0, .ref a0), (1, .int v1), (2, .int v2)] := hl
  obtain ⟨hx, hb, hr, hml, hown, hts, hlk, hE⟩ := id C0
  have hinX0 : ∀ w ∈ u_ws RX0 TX0 8, w ∈ wsX0_passDays := by decide +kernel
  have hD : ∀ W : va_W, W.map Prod.fst = [a0, a1, a2, a3, a4] → va_D (wA (wX0 cI cS a0 a1 a2 a3 a4 pl sp sy sh sc nc dy zz)) W := fun W hW => hD0.own.re hW
  have hS : va_S (wA (wX0 cI cS a0 a1 a2 a3 a4 pl sp sy sh sc nc dy zz)) s.heap s.heap [] := va_S.rf
  have hP : va_P D vwCl (wX0 cI cS a0 a1 a2 a3 a4 pl sp sy sh sc nc dy zz) s.heap := hP
  rw [fX0_passDays] at h
  refine lv_iconst (v := 0) hx hb dX0_passDays_0 (by decide) ?_
  refine lv_istore_n (lv' := [(3, .int 0), (0, .ref a0), (1, .int v1), (2, .int v2)]) hx hb dX0_passDays_1 rfl hl (by decide) rfl (fun ls hl => ?_)
  exact lX0_passDays_2 (l := l) (e := e) (below := below) C0 F pl sp sc nc zz v1 v2 z0 z1 z2 hD F 0 sy sh dy _ _ hP hS _ (lv_sub hl [1, 2, 3, 0] rfl) h
def fX0_draw (zz : Int32) : Int32 × Int32 := ((((zz * 1103515245) + 12345).toUInt32 >>> ((8 : Int32).toUInt32 &&& Int32.toUInt32 31)).toInt32, (zz * 1103515245) + 12345)
def fX0_draw_o0 (zz : Int32) : Int32 := (fX0_draw zz).1
def fX0_draw_o1 (zz : Int32) : Int32 := (fX0_draw zz).2
theorem eeX0_draw (zz : Int32) : fX0_draw zz = (fX0_draw_o0 zz, fX0_draw_o1 zz) := rfl
abbrev rmX0_draw : Room := { frames := 0, cells := 0, slots := 0, locals := 0 }
theorem pdX0_draw : (yX0_draw.cls = RX0 ∧ yX0_draw.cls ≠ "java/lang/invoke/MethodHandle" ∧ yX0_draw.cls ≠ "java/lang/invoke/VarHandle" ∧ (parseMethodDescriptor yX0_draw.desc).map (fun d => d.parameters.length) = some 0) := by decide +kernel
set_option maxHeartbeats 4000000 in
set_option maxRecDepth 100000 in
theorem tX0_draw (l : Launch) (D : va_G) (cI cS : ClassId) (a0 a1 a2 a3 a4 : Nat) (pl : Nat → Int32) (sp : Nat → Int32) (sy : Nat → Int32) (sh : Nat → Int32) (sc : Int32) (nc : Int32) (dy : Int32) (zz : Int32) (z0 : Int32) (z1 : Int32) (h : fX0_draw zz = (z0, z1)) (hD0 : va_D (fun _ => True) (wX0 cI cS a0 a1 a2 a3 a4 pl sp sy sh sc nc dy zz)) : Met l yX0_draw wsX0_draw rmX0_draw (PZ D cI cS [.ref a0] (fun U => va_P D vwCl (wX0 cI cS a0 a1 a2 a3 a4 pl sp sy sh sc nc dy zz) U.heap)) (qI D (wX0 cI cS a0 a1 a2 a3 a4 pl sp sy sh sc nc dy zz) (wX0 cI cS a0 a1 a2 a3 a4 pl sp sy sh sc nc dy z1) z0) 0 0 (wA (wX0 cI cS a0 a1 a2 a3 a4 pl sp sy sh sc nc dy zz)) := by
  refine Met.mk RX0 (by decide) rfl rfl (Nat.le_of_ble_eq_true rfl) ?_
  intro p e s m below meth c ls C0 hP hl
  have hl : lv_has ls 1 [(0, .ref a0)] := hl
  obtain ⟨hx, hb, hr, hml, hown, hts, hlk, hE⟩ := id C0
  have hinX0 : ∀ w ∈ u_ws RX0 TX0 8, w ∈ wsX0_draw := by decide +kernel
  have hD : ∀ W : va_W, W.map Prod.fst = [a0, a1, a2, a3, a4] → va_D (wA (wX0 cI cS a0 a1 a2 a3 a4 pl sp sy sh sc nc dy zz)) W := fun W hW => hD0.own.re hW
  have hS : va_S (wA (wX0 cI cS a0 a1 a2 a3 a4 pl sp sy sh sc nc dy zz)) s.heap s.heap [] := va_S.rf
  have hP : va_P D vwCl (wX0 cI cS a0 a1 a2 a3 a4 pl sp sy sh sc nc dy zz) s.heap := hP
  rw [fX0_draw] at h
  refine lv_aload_n hx hb dX0_draw_0 rfl (lv_at hl 0 rfl) ?_
  refine lv_aload_n hx hb dX0_draw_1 rfl (lv_at hl 0 rfl) ?_
  refine va_get (D := D) (ci := 0) (v := .int zz) (C := RX0) (T := TX0) (N := 8) hx hb hts hinX0 hown hE.1 hP 0 rfl rfl 7 (by decide) (hts _ (List.mem_of_getElem? (i := 1) rfl)) (fun _ h9 => h9) rfl dX0_draw_2 ?_
  refine lv_ldc (v := 1103515245) hx hb hown (hts _ (List.mem_of_getElem? (i := 2) rfl)) dX0_draw_5 ?_
  refine lv_imul hx hb dX0_draw_7 ?_
  refine lv_sipush (v := 12345) hx hb dX0_draw_8 (by decide) ?_
  refine lv_iadd hx hb dX0_draw_11 ?_
  refine va_put (D := D) (ci := 0) (v := .int ((zz * 1103515245) + 12345)) (ty := .int) (C := RX0) (T := TX0) (N := 8) hx hb hts hinX0 tyX0 tyX0_ok nmX0 hown hE.1 hP (hD _ rfl) hS 0 rfl rfl 7 (by decide) (hts _ (List.mem_of_getElem? (i := 1) rfl)) (fun _ h9 => h9) rfl (by decide +kernel) rfl rfl (Nat.le_of_ble_eq_true rfl) dX0_draw_12 (fun H locs hP _ hS => ?_)
  have hP : va_P D vwCl (wX0 cI cS a0 a1 a2 a3 a4 pl sp sy sh sc nc dy ((zz * 1103515245) + 12345)) H := hP
  refine lv_aload_n hx hb dX0_draw_15 rfl (lv_at hl 0 rfl) ?_
  refine va_get (D := D) (ci := 0) (v := .int ((zz * 1103515245) + 12345)) (C := RX0) (T := TX0) (N := 8) hx hb hts hinX0 hown hE.1 hP 0 rfl rfl 7 (by decide) (hts _ (List.mem_of_getElem? (i := 1) rfl)) (fun _ h9 => h9) rfl dX0_draw_16 ?_
  refine lv_bipush (v := 8) hx hb dX0_draw_19 (by decide) ?_
  refine lv_iushr (v := (((zz * 1103515245) + 12345).toUInt32 >>> ((8 : Int32).toUInt32 &&& Int32.toUInt32 31)).toInt32) hx hb dX0_draw_21 rfl ?_
  obtain ⟨q0, q1⟩ := Prod.mk.inj (h)
  subst q0 q1
  exact eMi C0 hP hS rfl rfl dX0_draw_22
def fX0_makeVaguer (sy : Nat → Int32) (sc : Int32) (v1 : Int32) : (Nat → Int32) := (if (fX0_hasSaying sc v1) = 0 then sy else (fX0_setOfSaying sy v1 2 (if ((fX0_sayingHas sy v1 2) + 5) < 99 then (fX0_sayingHas sy v1 2) + 5 else 99)))
abbrev rmX0_makeVaguer : Room := { frames := 2, cells := 0, slots := 0, locals := 45 }
theorem pdX0_makeVaguer : (yX0_makeVaguer.cls = RX0 ∧ yX0_makeVaguer.cls ≠ "java/lang/invoke/MethodHandle" ∧ yX0_makeVaguer.cls ≠ "java/lang/invoke/VarHandle" ∧ (parseMethodDescriptor yX0_makeVaguer.desc).map (fun d => d.parameters.length) = some 1) := by decide +kernel
set_option maxHeartbeats 4000000 in
set_option maxRecDepth 100000 in
theorem tX0_makeVaguer (l : Launch) (D : va_G) (cI cS : ClassId) (a0 a1 a2 a3 a4 : Nat) (pl : Nat → Int32) (sp : Nat → Int32) (sy : Nat → Int32) (sh : Nat → Int32) (sc : Int32) (nc : Int32) (dy : Int32) (zz : Int32) (v1 : Int32) (z0 : Nat → Int32) (h : fX0_makeVaguer sy sc v1 = z0) (hD0 : va_D (fun _ => True) (wX0 cI cS a0 a1 a2 a3 a4 pl sp sy sh sc nc dy zz)) : Met l yX0_makeVaguer wsX0_makeVaguer rmX0_makeVaguer (PZ D cI cS [.ref a0, .int v1] (fun U => va_P D vwCl (wX0 cI cS a0 a1 a2 a3 a4 pl sp sy sh sc nc dy zz) U.heap)) (qV D (wX0 cI cS a0 a1 a2 a3 a4 pl sp sy sh sc nc dy zz) (wX0 cI cS a0 a1 a2 a3 a4 pl sp z0 sh sc nc dy zz)) 0 0 (wA (wX0 cI cS a0 a1 a2 a3 a4 pl sp sy sh sc nc dy zz)) := by
  refine Met.mk RX0 (by decide) rfl rfl (Nat.le_of_ble_eq_true rfl) ?_
  intro p e s m below meth c ls C0 hP hl
  have hl : lv_has ls 3 [(0, .ref a0), (1, .int v1)] := hl
  obtain ⟨hx, hb, hr, hml, hown, hts, hlk, hE⟩ := id C0
  have hD : ∀ W : va_W, W.map Prod.fst = [a0, a1, a2, a3, a4] → va_D (wA (wX0 cI cS a0 a1 a2 a3 a4 pl sp sy sh sc nc dy zz)) W := fun W hW => hD0.own.re hW
  have hS : va_S (wA (wX0 cI cS a0 a1 a2 a3 a4 pl sp sy sh sc nc dy zz)) s.heap s.heap [] := va_S.rf
  have hP : va_P D vwCl (wX0 cI cS a0 a1 a2 a3 a4 pl sp sy sh sc nc dy zz) s.heap := hP
  rw [fX0_makeVaguer] at h
  refine lv_aload_n hx hb dX0_makeVaguer_0 rfl (lv_at hl 0 rfl) ?_
  refine lv_iload_n hx hb dX0_makeVaguer_1 rfl (lv_at hl 1 rfl) ?_
  have hPc := hP.sub (ws' := (wX0 cI cS a0 a1 a2 a3 a4 pl sp sy sh sc nc dy zz)) [0, 1, 2, 3, 4] rfl
  refine kRi (rV C0 (tX0_hasSaying l D cI cS a0 a1 a2 a3 a4 pl sp sy sh sc nc dy zz v1 (fX0_hasSaying sc v1) rfl) RX0 gX0_makeVaguer_X0_hasSaying rfl ⟨rfl, rfl⟩ pdX0_hasSaying rfl ⟨Nat.le_of_ble_eq_true rfl, Nat.le_of_ble_eq_true rfl⟩ (fun _ _ _ _ q => q) (va_recv hE.1 hPc (ci := 0) (q0 := 0) rfl rfl) (fun U hU _ _ => by rw [hU]; exact hPc) hl.1 rfl (Nat.le_of_ble_eq_true rfl) dX0_makeVaguer_2 ⟨Nat.zero_le _, Nat.zero_le _⟩) ?_
  refine lv_if_eq (tgt := 29) hx hb dX0_makeVaguer_5 (by decide) (fun c_1 => ?_) (fun c_1 => ?_)
  · have h := ifp c_1 h
    subst h
    exact eMv C0 hP hS rfl dX0_makeVaguer_29
  · have h := ifn c_1 h
    refine lv_aload_n hx hb dX0_makeVaguer_8 rfl (lv_at hl 0 rfl) ?_
    refine lv_iload_n hx hb dX0_makeVaguer_9 rfl (lv_at hl 1 rfl) ?_
    refine lv_iconst (v := 2) hx hb dX0_makeVaguer_10 (by decide) ?_
    have hPc := hP.sub (ws' := (wX0 cI cS a0 a1 a2 a3 a4 pl sp sy sh sc nc dy zz)) [0, 1, 2, 3, 4] rfl
    refine kRi (rV C0 (tX0_sayingHas l D cI cS a0 a1 a2 a3 a4 pl sp sy sh sc nc dy zz v1 2 (fX0_sayingHas sy v1 2) rfl) RX0 gX0_makeVaguer_X0_sayingHas rfl ⟨rfl, rfl⟩ pdX0_sayingHas rfl ⟨Nat.le_of_ble_eq_true rfl, Nat.le_of_ble_eq_true rfl⟩ (fun _ _ _ _ q => q) (va_recv hE.1 hPc (ci := 0) (q0 := 0) rfl rfl) (fun U hU _ _ => by rw [hU]; exact hPc) hl.1 rfl (Nat.le_of_ble_eq_true rfl) dX0_makeVaguer_11 ⟨Nat.zero_le _, Nat.zero_le _⟩) ?_
    refine lv_iconst (v := 5) hx hb dX0_makeVaguer_14 (by decide) ?_
    refine lv_iadd hx hb dX0_makeVaguer_15 ?_
    refine lv_istore_n (lv' := [(2, .int ((fX0_sayingHas sy v1 2) + 5)), (0, .ref a0), (1, .int v1)]) hx hb dX0_makeVaguer_16 rfl hl (by decide) rfl (fun ls hl => ?_)
    refine lv_aload_n hx hb dX0_makeVaguer_17 rfl (lv_at hl 1 rfl) ?_
    refine lv_iload_n hx hb dX0_makeVaguer_18 rfl (lv_at hl 2 rfl) ?_
    refine lv_iconst (v := 2) hx hb dX0_makeVaguer_19 (by decide) ?_
    refine lv_bipush (v := 99) hx hb dX0_makeVaguer_20 (by decide) ?_
    refine lv_iload_n hx hb dX0_makeVaguer_22 rfl (lv_at hl 0 rfl) ?_
    refine va_mmin hx hb (hml.trans hl.1.symm) hown (hts _ (List.mem_of_getElem? (i := 1) rfl)) (hts _ (List.mem_of_getElem? (i := 2) rfl)) (hts _ (List.mem_of_getElem? (i := 3) rfl)) (hts _ (List.mem_of_getElem? (i := 4) rfl)) (Nat.le_of_ble_eq_true rfl) (Nat.le_of_ble_eq_true rfl) (Nat.zero_le _) (Nat.zero_le _) dX0_makeVaguer_23 ?_
    have hPc := hP.sub (ws' := (wX0 cI cS a0 a1 a2 a3 a4 pl sp sy sh sc nc dy zz)) [0, 1, 2, 3, 4] rfl
    refine kMv (wf' := (wX0 cI cS a0 a1 a2 a3 a4 pl sp (fX0_setOfSaying sy v1 2 (if ((fX0_sayingHas sy v1 2) + 5) < 99 then (fX0_sayingHas sy v1 2) + 5 else 99)) sh sc nc dy zz)) [0, 1, 2, 3, 4] [some 0, some 1, some 2, some 3, some 4] (rV C0 (tX0_setOfSaying l D cI cS a0 a1 a2 a3 a4 pl sp sy sh sc nc dy zz v1 2 (if ((fX0_sayingHas sy v1 2) + 5) < 99 then (fX0_sayingHas sy v1 2) + 5 else 99) (fX0_setOfSaying sy v1 2 (if ((fX0_sayingHas sy v1 2) + 5) < 99 then (fX0_sayingHas sy v1 2) + 5 else 99)) rfl (((hD (wX0 cI cS a0 a1 a2 a3 a4 pl sp sy sh sc nc dy zz) rfl).sub [0, 1, 2, 3, 4] (by decide) rfl).weaken (fun _ _ _ _ => trivial))) RX0 gX0_makeVaguer_X0_setOfSaying rfl ⟨rfl, rfl⟩ pdX0_setOfSaying rfl ⟨Nat.le_of_ble_eq_true rfl, Nat.le_of_ble_eq_true rfl⟩ (fun _ _ _ _ q => q) (va_recv hE.1 hPc (ci := 0) (q0 := 0) rfl rfl) (fun U hU _ _ => by rw [hU]; exact hPc) hl.1 rfl (Nat.le_of_ble_eq_true rfl) dX0_makeVaguer_26 ⟨Nat.zero_le _, Nat.zero_le _⟩) hP (hD _ rfl) hS rfl rfl rfl (fun H locs hP hS => ?_)
    subst h
    exact eMv C0 hP hS rfl dX0_makeVaguer_29
def fX0_shipsInPort_4 (sh : Nat → Int32) (nc : Int32) : Nat → Int32 → Int32 → Option (Int32)
  | 0, _, _ => none
  | n + 1, v1, v2 => (if nc ≤ v2 then some v1 else (if (fX0_isInPort sh v2) = 0 then fX0_shipsInPort_4 sh nc n v1 (v2 + 1) else fX0_shipsInPort_4 sh nc n (v1 ||| (1 <<< (v2 &&& 31))) (v2 + 1)))
def fX0_shipsInPort (F : Nat) (sh : Nat → Int32) (nc : Int32) : Option (Int32) := fX0_shipsInPort_4 sh nc F 0 0
abbrev rmX0_shipsInPort : Room := { frames := 3, cells := 0, slots := 0, locals := 64 }
theorem pdX0_shipsInPort : (yX0_shipsInPort.cls = RX0 ∧ yX0_shipsInPort.cls ≠ "java/lang/invoke/MethodHandle" ∧ yX0_shipsInPort.cls ≠ "java/lang/invoke/VarHandle" ∧ (parseMethodDescriptor yX0_shipsInPort.desc).map (fun d => d.parameters.length) = some 0) := by decide +kernel
set_option maxHeartbeats 4000000 in
set_option maxRecDepth 100000 in
theorem lX0_shipsInPort_4 {p : Program} {l : Launch} {e : Env} {s : State} {m : MethodId} {av : Array Value} {below : List Frame} {meth : Method} {c : Code} {D : va_G} {cI cS : ClassId} {a0 a1 a2 a3 a4 : Nat} (C0 : CX p s m av meth c RX0 cX0_shipsInPort 3 (some .int) wsX0_shipsInPort D cI cS) (F : Nat) (pl : Nat → Int32) (sp : Nat → Int32) (sy : Nat → Int32) (sh : Nat → Int32) (sc : Int32) (nc : Int32) (dy : Int32) (zz : Int32) (z0 : Int32) (hP : va_P D vwCl (wX0 cI cS a0 a1 a2 a3 a4 pl sp sy sh sc nc dy zz) s.heap) : ∀ (n : Nat) (v1 : Int32) (v2 : Int32), ∀ (ls : Array Slot), lv_has ls 3 [(0, .ref a0), (1, .int v1), (2, .int v2)] → fX0_shipsInPort_4 sh nc n v1 v2 = some z0 → W p l e rmX0_shipsInPort s m av below meth c s.heap [] 0 0 (MQ below (vp_Si (fun x => x = z0)) av s 0 0 (fun _ => False)) (F0 m 4 ls []) := by
  obtain ⟨hx, hb, hr, hml, hown, hts, hlk, hE⟩ := id C0
  have hinX0 : ∀ w ∈ u_ws RX0 TX0 8, w ∈ wsX0_shipsInPort := by decide +kernel
  intro n
  induction n with
  | zero =>
    intro v1 v2 ls hl h
    cases (show none = some z0 from h)
  | succ n ih =>
    intro v1 v2 ls hl h
    rw [fX0_shipsInPort_4] at h
    refine lv_iload_n hx hb dX0_shipsInPort_4 rfl (lv_at hl 2 rfl) ?_
    refine lv_aload_n hx hb dX0_shipsInPort_5 rfl (lv_at hl 0 rfl) ?_
    refine va_get (D := D) (ci := 0) (v := .int nc) (C := RX0) (T := TX0) (N := 8) hx hb hts hinX0 hown hE.1 hP 0 rfl rfl 5 (by decide) (hts _ (List.mem_of_getElem? (i := 1) rfl)) (fun _ h9 => h9) rfl dX0_shipsInPort_6 ?_
    refine lv_icmp_ge (tgt := 32) hx hb dX0_shipsInPort_9 (by decide) (fun c_1 => ?_) (fun c_1 => ?_)
    · have h := ifp c_1 h
      refine lv_iload_n hx hb dX0_shipsInPort_32 rfl (lv_at hl 1 rfl) ?_
      exact eRi C0 (Option.some.inj h) dX0_shipsInPort_33
    · have h := ifn c_1 h
      refine lv_aload_n hx hb dX0_shipsInPort_12 rfl (lv_at hl 0 rfl) ?_
      refine lv_iload_n hx hb dX0_shipsInPort_13 rfl (lv_at hl 2 rfl) ?_
      have hPc := hP.sub (ws' := (wX0 cI cS a0 a1 a2 a3 a4 pl sp sy sh sc nc dy zz)) [0, 1, 2, 3, 4] rfl
      refine kRi (rV C0 (tX0_isInPort l D cI cS a0 a1 a2 a3 a4 pl sp sy sh sc nc dy zz v2 (fX0_isInPort sh v2) rfl) RX0 gX0_shipsInPort_X0_isInPort rfl ⟨rfl, rfl⟩ pdX0_isInPort rfl ⟨Nat.le_of_ble_eq_true rfl, Nat.le_of_ble_eq_true rfl⟩ (fun _ _ _ _ q => q) (va_recv hE.1 hPc (ci := 0) (q0 := 0) rfl rfl) (fun U hU _ _ => by rw [hU]; exact hPc) hl.1 rfl (Nat.le_of_ble_eq_true rfl) dX0_shipsInPort_14 ⟨Nat.zero_le _, Nat.zero_le _⟩) ?_
      refine lv_if_eq (tgt := 26) hx hb dX0_shipsInPort_17 (by decide) (fun c_2 => ?_) (fun c_2 => ?_)
      · have h := ifp c_2 h
        refine lv_iinc (v := v2 + 1) (lv' := [(2, .int (v2 + 1)), (0, .ref a0), (1, .int v1)]) hx hb dX0_shipsInPort_26 hl (k := 2) rfl rfl (by decide) rfl (fun ls hl => ?_)
        refine lv_goto (tgt := 4) hx hb dX0_shipsInPort_29 (by decide) ?_
        exact ih v1 (v2 + 1) _ (lv_sub hl [1, 2, 0] rfl) h
      · have h := ifn c_2 h
        refine lv_iload_n hx hb dX0_shipsInPort_20 rfl (lv_at hl 1 rfl) ?_
        refine lv_iconst (v := 1) hx hb dX0_shipsInPort_21 (by decide) ?_
        refine lv_iload_n hx hb dX0_shipsInPort_22 rfl (lv_at hl 2 rfl) ?_
        refine lv_ishl hx hb dX0_shipsInPort_23 ?_
        refine lv_ior hx hb dX0_shipsInPort_24 ?_
        refine lv_istore_n (lv' := [(1, .int (v1 ||| (1 <<< (v2 &&& 31)))), (0, .ref a0), (2, .int v2)]) hx hb dX0_shipsInPort_25 rfl hl (by decide) rfl (fun ls hl => ?_)
        refine lv_iinc (v := v2 + 1) (lv' := [(2, .int (v2 + 1)), (1, .int (v1 ||| (1 <<< (v2 &&& 31)))), (0, .ref a0)]) hx hb dX0_shipsInPort_26 hl (k := 2) rfl rfl (by decide) rfl (fun ls hl => ?_)
        refine lv_goto (tgt := 4) hx hb dX0_shipsInPort_29 (by decide) ?_
        exact ih (v1 ||| (1 <<< (v2 &&& 31))) (v2 + 1) _ (lv_sub hl [2, 1, 0] rfl) h
set_option maxHeartbeats 4000000 in
set_option maxRecDepth 100000 in
theorem tX0_shipsInPort (l : Launch) (D : va_G) (cI cS : ClassId) (F : Nat) (a0 a1 a2 a3 a4 : Nat) (pl : Nat → Int32) (sp : Nat → Int32) (sy : Nat → Int32) (sh : Nat → Int32) (sc : Int32) (nc : Int32) (dy : Int32) (zz : Int32) (z0 : Int32) (h : fX0_shipsInPort F sh nc = some z0) : Met l yX0_shipsInPort wsX0_shipsInPort rmX0_shipsInPort (PZ D cI cS [.ref a0] (fun U => va_P D vwCl (wX0 cI cS a0 a1 a2 a3 a4 pl sp sy sh sc nc dy zz) U.heap)) (vp_Si (fun x => x = z0)) 0 0 (fun _ => False) := by
  refine Met.mk RX0 (by decide) rfl rfl (Nat.le_of_ble_eq_true rfl) ?_
  intro p e s m below meth c ls C0 hP hl
  have hl : lv_has ls 3 [(0, .ref a0)] := hl
  obtain ⟨hx, hb, hr, hml, hown, hts, hlk, hE⟩ := id C0
  have hinX0 : ∀ w ∈ u_ws RX0 TX0 8, w ∈ wsX0_shipsInPort := by decide +kernel
  rw [fX0_shipsInPort] at h
  refine lv_iconst (v := 0) hx hb dX0_shipsInPort_0 (by decide) ?_
  refine lv_istore_n (lv' := [(1, .int 0), (0, .ref a0)]) hx hb dX0_shipsInPort_1 rfl hl (by decide) rfl (fun ls hl => ?_)
  refine lv_iconst (v := 0) hx hb dX0_shipsInPort_2 (by decide) ?_
  refine lv_istore_n (lv' := [(2, .int 0), (1, .int 0), (0, .ref a0)]) hx hb dX0_shipsInPort_3 rfl hl (by decide) rfl (fun ls hl => ?_)
  exact lX0_shipsInPort_4 (l := l) (e := e) (below := below) C0 F pl sp sy sh sc nc dy zz z0 hP F 0 0 _ (lv_sub hl [2, 1, 0] rfl) h
def fX0_couldAllLand_2 (sh : Nat → Int32) (nc : Int32) (v1 : Int32) : Nat → Int32 → Option (Int32)
  | 0, _ => none
  | n + 1, v2 => (if nc ≤ v2 then some 1 else (if 15 ≤ ((fX0_shipHas sh v2 0) + (v1 * (fX0_shipHas sh v2 2))) then fX0_couldAllLand_2 sh nc v1 n (v2 + 1) else some 0))
def fX0_couldAllLand (F : Nat) (sh : Nat → Int32) (nc : Int32) (v1 : Int32) : Option (Int32) := fX0_couldAllLand_2 sh nc v1 F 0
abbrev rmX0_couldAllLand : Room := { frames := 2, cells := 0, slots := 0, locals := 43 }
theorem pdX0_couldAllLand : (yX0_couldAllLand.cls = RX0 ∧ yX0_couldAllLand.cls ≠ "java/lang/invoke/MethodHandle" ∧ yX0_couldAllLand.cls ≠ "java/lang/invoke/VarHandle" ∧ (parseMethodDescriptor yX0_couldAllLand.desc).map (fun d => d.parameters.length) = some 1) := by decide +kernel
set_option maxHeartbeats 4000000 in
set_option maxRecDepth 100000 in
theorem lX0_couldAllLand_2 {p : Program} {l : Launch} {e : Env} {s : State} {m : MethodId} {av : Array Value} {below : List Frame} {meth : Method} {c : Code} {D : va_G} {cI cS : ClassId} {a0 a1 a2 a3 a4 : Nat} (C0 : CX p s m av meth c RX0 cX0_couldAllLand 3 (some .boolean) wsX0_couldAllLand D cI cS) (F : Nat) (pl : Nat → Int32) (sp : Nat → Int32) (sy : Nat → Int32) (sh : Nat → Int32) (sc : Int32) (nc : Int32) (dy : Int32) (zz : Int32) (v1 : Int32) (z0 : Int32) (hP : va_P D vwCl (wX0 cI cS a0 a1 a2 a3 a4 pl sp sy sh sc nc dy zz) s.heap) : ∀ (n : Nat) (v2 : Int32), ∀ (ls : Array Slot), lv_has ls 3 [(0, .ref a0), (1, .int v1), (2, .int v2)] → fX0_couldAllLand_2 sh nc v1 n v2 = some z0 → W p l e rmX0_couldAllLand s m av below meth c s.heap [] 0 0 (MQ below (vp_Si (fun x => x = z0)) av s 0 0 (fun _ => False)) (F0 m 2 ls []) := by
  obtain ⟨hx, hb, hr, hml, hown, hts, hlk, hE⟩ := id C0
  have hinX0 : ∀ w ∈ u_ws RX0 TX0 8, w ∈ wsX0_couldAllLand := by decide +kernel
  intro n
  induction n with
  | zero =>
    intro v2 ls hl h
    cases (show none = some z0 from h)
  | succ n ih =>
    intro v2 ls hl h
    rw [fX0_couldAllLand_2] at h
    refine lv_iload_n hx hb dX0_couldAllLand_2 rfl (lv_at hl 2 rfl) ?_
    refine lv_aload_n hx hb dX0_couldAllLand_3 rfl (lv_at hl 0 rfl) ?_
    refine va_get (D := D) (ci := 0) (v := .int nc) (C := RX0) (T := TX0) (N := 8) hx hb hts hinX0 hown hE.1 hP 0 rfl rfl 5 (by decide) (hts _ (List.mem_of_getElem? (i := 1) rfl)) (fun _ h9 => h9) rfl dX0_couldAllLand_4 ?_
    refine lv_icmp_ge (tgt := 38) hx hb dX0_couldAllLand_7 (by decide) (fun c_1 => ?_) (fun c_1 => ?_)
    · have h := ifp c_1 h
      refine lv_iconst (v := 1) hx hb dX0_couldAllLand_38 (by decide) ?_
      exact eRz C0 rfl (Option.some.inj h) dX0_couldAllLand_39
    · have h := ifn c_1 h
      refine lv_aload_n hx hb dX0_couldAllLand_10 rfl (lv_at hl 0 rfl) ?_
      refine lv_iload_n hx hb dX0_couldAllLand_11 rfl (lv_at hl 2 rfl) ?_
      refine lv_iconst (v := 0) hx hb dX0_couldAllLand_12 (by decide) ?_
      have hPc := hP.sub (ws' := (wX0 cI cS a0 a1 a2 a3 a4 pl sp sy sh sc nc dy zz)) [0, 1, 2, 3, 4] rfl
      refine kRi (rV C0 (tX0_shipHas l D cI cS a0 a1 a2 a3 a4 pl sp sy sh sc nc dy zz v2 0 (fX0_shipHas sh v2 0) rfl) RX0 gX0_couldAllLand_X0_shipHas rfl ⟨rfl, rfl⟩ pdX0_shipHas rfl ⟨Nat.le_of_ble_eq_true rfl, Nat.le_of_ble_eq_true rfl⟩ (fun _ _ _ _ q => q) (va_recv hE.1 hPc (ci := 0) (q0 := 0) rfl rfl) (fun U hU _ _ => by rw [hU]; exact hPc) hl.1 rfl (Nat.le_of_ble_eq_true rfl) dX0_couldAllLand_13 ⟨Nat.zero_le _, Nat.zero_le _⟩) ?_
      refine lv_iload_n hx hb dX0_couldAllLand_16 rfl (lv_at hl 1 rfl) ?_
      refine lv_aload_n hx hb dX0_couldAllLand_17 rfl (lv_at hl 0 rfl) ?_
      refine lv_iload_n hx hb dX0_couldAllLand_18 rfl (lv_at hl 2 rfl) ?_
      refine lv_iconst (v := 2) hx hb dX0_couldAllLand_19 (by decide) ?_
      have hPc := hP.sub (ws' := (wX0 cI cS a0 a1 a2 a3 a4 pl sp sy sh sc nc dy zz)) [0, 1, 2, 3, 4] rfl
      refine kRi (rV C0 (tX0_shipHas l D cI cS a0 a1 a2 a3 a4 pl sp sy sh sc nc dy zz v2 2 (fX0_shipHas sh v2 2) rfl) RX0 gX0_couldAllLand_X0_shipHas rfl ⟨rfl, rfl⟩ pdX0_shipHas rfl ⟨Nat.le_of_ble_eq_true rfl, Nat.le_of_ble_eq_true rfl⟩ (fun _ _ _ _ q => q) (va_recv hE.1 hPc (ci := 0) (q0 := 0) rfl rfl) (fun U hU _ _ => by rw [hU]; exact hPc) hl.1 rfl (Nat.le_of_ble_eq_true rfl) dX0_couldAllLand_20 ⟨Nat.zero_le _, Nat.zero_le _⟩) ?_
      refine lv_imul hx hb dX0_couldAllLand_23 ?_
      refine lv_iadd hx hb dX0_couldAllLand_24 ?_
      refine lv_bipush (v := 15) hx hb dX0_couldAllLand_25 (by decide) ?_
      refine lv_icmp_ge (tgt := 32) hx hb dX0_couldAllLand_27 (by decide) (fun c_2 => ?_) (fun c_2 => ?_)
      · have h := ifp c_2 h
        refine lv_iinc (v := v2 + 1) (lv' := [(2, .int (v2 + 1)), (0, .ref a0), (1, .int v1)]) hx hb dX0_couldAllLand_32 hl (k := 2) rfl rfl (by decide) rfl (fun ls hl => ?_)
        refine lv_goto (tgt := 2) hx hb dX0_couldAllLand_35 (by decide) ?_
        exact ih (v2 + 1) _ (lv_sub hl [1, 2, 0] rfl) h
      · have h := ifn c_2 h
        refine lv_iconst (v := 0) hx hb dX0_couldAllLand_30 (by decide) ?_
        exact eRz C0 rfl (Option.some.inj h) dX0_couldAllLand_31
set_option maxHeartbeats 4000000 in
set_option maxRecDepth 100000 in
theorem tX0_couldAllLand (l : Launch) (D : va_G) (cI cS : ClassId) (F : Nat) (a0 a1 a2 a3 a4 : Nat) (pl : Nat → Int32) (sp : Nat → Int32) (sy : Nat → Int32) (sh : Nat → Int32) (sc : Int32) (nc : Int32) (dy : Int32) (zz : Int32) (v1 : Int32) (z0 : Int32) (h : fX0_couldAllLand F sh nc v1 = some z0) : Met l yX0_couldAllLand wsX0_couldAllLand rmX0_couldAllLand (PZ D cI cS [.ref a0, .int v1] (fun U => va_P D vwCl (wX0 cI cS a0 a1 a2 a3 a4 pl sp sy sh sc nc dy zz) U.heap)) (vp_Si (fun x => x = z0)) 0 0 (fun _ => False) := by
  refine Met.mk RX0 (by decide) rfl rfl (Nat.le_of_ble_eq_true rfl) ?_
  intro p e s m below meth c ls C0 hP hl
  have hl : lv_has ls 3 [(0, .ref a0), (1, .int v1)] := hl
  obtain ⟨hx, hb, hr, hml, hown, hts, hlk, hE⟩ := id C0
  have hinX0 : ∀ w ∈ u_ws RX0 TX0 8, w ∈ wsX0_couldAllLand := by decide +kernel
  rw [fX0_couldAllLand] at h
  refine lv_iconst (v := 0) hx hb dX0_couldAllLand_0 (by decide) ?_
  refine lv_istore_n (lv' := [(2, .int 0), (0, .ref a0), (1, .int v1)]) hx hb dX0_couldAllLand_1 rfl hl (by decide) rfl (fun ls hl => ?_)
  exact lX0_couldAllLand_2 (l := l) (e := e) (below := below) C0 F pl sp sy sh sc nc dy zz v1 z0 hP F 0 _ (lv_sub hl [1, 2, 0] rfl) h
def fX0_shipsThatGoOn_4 (F : Nat) (sy : Nat → Int32) (sh : Nat → Int32) (sc : Int32) (nc : Int32) : Nat → Int32 → Int32 → Option (Int32)
  | 0, _, _ => none
  | n + 1, v1, v2 => (if nc ≤ v2 then some v1 else Option.bind (fX0_goesOnAt F sy sh sc v2 (fX0_shipHas sh v2 0)) (fun z_2 => (if z_2 = 0 then fX0_shipsThatGoOn_4 F sy sh sc nc n v1 (v2 + 1) else fX0_shipsThatGoOn_4 F sy sh sc nc n (v1 ||| (1 <<< (v2 &&& 31))) (v2 + 1))))
def fX0_shipsThatGoOn (F : Nat) (sy : Nat → Int32) (sh : Nat → Int32) (sc : Int32) (nc : Int32) : Option (Int32) := fX0_shipsThatGoOn_4 F sy sh sc nc F 0 0
abbrev rmX0_shipsThatGoOn : Room := { frames := 4, cells := 0, slots := 0, locals := 95 }
theorem pdX0_shipsThatGoOn : (yX0_shipsThatGoOn.cls = RX0 ∧ yX0_shipsThatGoOn.cls ≠ "java/lang/invoke/MethodHandle" ∧ yX0_shipsThatGoOn.cls ≠ "java/lang/invoke/VarHandle" ∧ (parseMethodDescriptor yX0_shipsThatGoOn.desc).map (fun d => d.parameters.length) = some 0) := by decide +kernel
set_option maxHeartbeats 4000000 in
set_option maxRecDepth 100000 in
theorem lX0_shipsThatGoOn_4 {p : Program} {l : Launch} {e : Env} {s : State} {m : MethodId} {av : Array Value} {below : List Frame} {meth : Method} {c : Code} {D : va_G} {cI cS : ClassId} {a0 a1 a2 a3 a4 : Nat} (C0 : CX p s m av meth c RX0 cX0_shipsThatGoOn 3 (some .int) wsX0_shipsThatGoOn D cI cS) (F : Nat) (pl : Nat → Int32) (sp : Nat → Int32) (sy : Nat → Int32) (sh : Nat → Int32) (sc : Int32) (nc : Int32) (dy : Int32) (zz : Int32) (z0 : Int32) (hP : va_P D vwCl (wX0 cI cS a0 a1 a2 a3 a4 pl sp sy sh sc nc dy zz) s.heap) : ∀ (n : Nat) (v1 : Int32) (v2 : Int32), ∀ (ls : Array Slot), lv_has ls 3 [(0, .ref a0), (1, .int v1), (2, .int v2)] → fX0_shipsThatGoOn_4 F sy sh sc nc n v1 v2 = some z0 → W p l e rmX0_shipsThatGoOn s m av below meth c s.heap [] 0 0 (MQ below (vp_Si (fun x => x = z0)) av s 0 0 (fun _ => False)) (F0 m 4 ls []) := by
  obtain ⟨hx, hb, hr, hml, hown, hts, hlk, hE⟩ := id C0
  have hinX0 : ∀ w ∈ u_ws RX0 TX0 8, w ∈ wsX0_shipsThatGoOn := by decide +kernel
  intro n
  induction n with
  | zero =>
    intro v1 v2 ls hl h
    cases (show none = some z0 from h)
  | succ n ih =>
    intro v1 v2 ls hl h
    rw [fX0_shipsThatGoOn_4] at h
    refine lv_iload_n hx hb dX0_shipsThatGoOn_4 rfl (lv_at hl 2 rfl) ?_
    refine lv_aload_n hx hb dX0_shipsThatGoOn_5 rfl (lv_at hl 0 rfl) ?_
    refine va_get (D := D) (ci := 0) (v := .int nc) (C := RX0) (T := TX0) (N := 8) hx hb hts hinX0 hown hE.1 hP 0 rfl rfl 5 (by decide) (hts _ (List.mem_of_getElem? (i := 1) rfl)) (fun _ h9 => h9) rfl dX0_shipsThatGoOn_6 ?_
    refine lv_icmp_ge (tgt := 38) hx hb dX0_shipsThatGoOn_9 (by decide) (fun c_1 => ?_) (fun c_1 => ?_)
    · have h := ifp c_1 h
      refine lv_iload_n hx hb dX0_shipsThatGoOn_38 rfl (lv_at hl 1 rfl) ?_
      exact eRi C0 (Option.some.inj h) dX0_shipsThatGoOn_39
    · have h := ifn c_1 h
      refine lv_aload_n hx hb dX0_shipsThatGoOn_12 rfl (lv_at hl 0 rfl) ?_
      refine lv_iload_n hx hb dX0_shipsThatGoOn_13 rfl (lv_at hl 2 rfl) ?_
      refine lv_aload_n hx hb dX0_shipsThatGoOn_14 rfl (lv_at hl 0 rfl) ?_
      refine lv_iload_n hx hb dX0_shipsThatGoOn_15 rfl (lv_at hl 2 rfl) ?_
      refine lv_iconst (v := 0) hx hb dX0_shipsThatGoOn_16 (by decide) ?_
      have hPc := hP.sub (ws' := (wX0 cI cS a0 a1 a2 a3 a4 pl sp sy sh sc nc dy zz)) [0, 1, 2, 3, 4] rfl
      refine kRi (rV C0 (tX0_shipHas l D cI cS a0 a1 a2 a3 a4 pl sp sy sh sc nc dy zz v2 0 (fX0_shipHas sh v2 0) rfl) RX0 gX0_shipsThatGoOn_X0_shipHas rfl ⟨rfl, rfl⟩ pdX0_shipHas rfl ⟨Nat.le_of_ble_eq_true rfl, Nat.le_of_ble_eq_true rfl⟩ (fun _ _ _ _ q => q) (va_recv hE.1 hPc (ci := 0) (q0 := 0) rfl rfl) (fun U hU _ _ => by rw [hU]; exact hPc) hl.1 rfl (Nat.le_of_ble_eq_true rfl) dX0_shipsThatGoOn_17 ⟨Nat.zero_le _, Nat.zero_le _⟩) ?_
      obtain ⟨z_2, e_3, h⟩ := bds h
      have hPc := hP.sub (ws' := (wX0 cI cS a0 a1 a2 a3 a4 pl sp sy sh sc nc dy zz)) [0, 1, 2, 3, 4] rfl
      refine kRi (rV C0 (tX0_goesOnAt l D cI cS F a0 a1 a2 a3 a4 pl sp sy sh sc nc dy zz v2 (fX0_shipHas sh v2 0) z_2 e_3) RX0 gX0_shipsThatGoOn_X0_goesOnAt rfl ⟨rfl, rfl⟩ pdX0_goesOnAt rfl ⟨Nat.le_of_ble_eq_true rfl, Nat.le_of_ble_eq_true rfl⟩ (fun _ _ _ _ q => q) (va_recv hE.1 hPc (ci := 0) (q0 := 0) rfl rfl) (fun U hU _ _ => by rw [hU]; exact hPc) hl.1 rfl (Nat.le_of_ble_eq_true rfl) dX0_shipsThatGoOn_20 ⟨Nat.zero_le _, Nat.zero_le _⟩) ?_
      refine lv_if_eq (tgt := 32) hx hb dX0_shipsThatGoOn_23 (by decide) (fun c_4 => ?_) (fun c_4 => ?_)
      · have h := ifp c_4 h
        refine lv_iinc (v := v2 + 1) (lv' := [(2, .int (v2 + 1)), (0, .ref a0), (1, .int v1)]) hx hb dX0_shipsThatGoOn_32 hl (k := 2) rfl rfl (by decide) rfl (fun ls hl => ?_)
        refine lv_goto (tgt := 4) hx hb dX0_shipsThatGoOn_35 (by decide) ?_
        exact ih v1 (v2 + 1) _ (lv_sub hl [1, 2, 0] rfl) h
      · have h := ifn c_4 h
        refine lv_iload_n hx hb dX0_shipsThatGoOn_26 rfl (lv_at hl 1 rfl) ?_
        refine lv_iconst (v := 1) hx hb dX0_shipsThatGoOn_27 (by decide) ?_
        refine lv_iload_n hx hb dX0_shipsThatGoOn_28 rfl (lv_at hl 2 rfl) ?_
        refine lv_ishl hx hb dX0_shipsThatGoOn_29 ?_
        refine lv_ior hx hb dX0_shipsThatGoOn_30 ?_
        refine lv_istore_n (lv' := [(1, .int (v1 ||| (1 <<< (v2 &&& 31)))), (0, .ref a0), (2, .int v2)]) hx hb dX0_shipsThatGoOn_31 rfl hl (by decide) rfl (fun ls hl => ?_)
        refine lv_iinc (v := v2 + 1) (lv' := [(2, .int (v2 + 1)), (1, .int (v1 ||| (1 <<< (v2 &&& 31)))), (0, .ref a0)]) hx hb dX0_shipsThatGoOn_32 hl (k := 2) rfl rfl (by decide) rfl (fun ls hl => ?_)
        refine lv_goto (tgt := 4) hx hb dX0_shipsThatGoOn_35 (by decide) ?_
        exact ih (v1 ||| (1 <<< (v2 &&& 31))) (v2 + 1) _ (lv_sub hl [2, 1, 0] rfl) h
set_option maxHeartbeats 4000000 in
set_option maxRecDepth 100000 in
theorem tX0_shipsThatGoOn (l : Launch) (D : va_G) (cI cS : ClassId) (F : Nat) (a0 a1 a2 a3 a4 : Nat) (pl : Nat → Int32) (sp : Nat → Int32) (sy : Nat → Int32) (sh : Nat → Int32) (sc : Int32) (nc : Int32) (dy : Int32) (zz : Int32) (z0 : Int32) (h : fX0_shipsThatGoOn F sy sh sc nc = some z0) : Met l yX0_shipsThatGoOn wsX0_shipsThatGoOn rmX0_shipsThatGoOn (PZ D cI cS [.ref a0] (fun U => va_P D vwCl (wX0 cI cS a0 a1 a2 a3 a4 pl sp sy sh sc nc dy zz) U.heap)) (vp_Si (fun x => x = z0)) 0 0 (fun _ => False) := by
  refine Met.mk RX0 (by decide) rfl rfl (Nat.le_of_ble_eq_true rfl) ?_
  intro p e s m below meth c ls C0 hP hl
  have hl : lv_has ls 3 [(0, .ref a0)] := hl
  obtain ⟨hx, hb, hr, hml, hown, hts, hlk, hE⟩ := id C0
  have hinX0 : ∀ w ∈ u_ws RX0 TX0 8, w ∈ wsX0_shipsThatGoOn := by decide +kernel
  rw [fX0_shipsThatGoOn] at h
  refine lv_iconst (v := 0) hx hb dX0_shipsThatGoOn_0 (by decide) ?_
  refine lv_istore_n (lv' := [(1, .int 0), (0, .ref a0)]) hx hb dX0_shipsThatGoOn_1 rfl hl (by decide) rfl (fun ls hl => ?_)
  refine lv_iconst (v := 0) hx hb dX0_shipsThatGoOn_2 (by decide) ?_
  refine lv_istore_n (lv' := [(2, .int 0), (1, .int 0), (0, .ref a0)]) hx hb dX0_shipsThatGoOn_3 rfl hl (by decide) rfl (fun ls hl => ?_)
  exact lX0_shipsThatGoOn_4 (l := l) (e := e) (below := below) C0 F pl sp sy sh sc nc dy zz z0 hP F 0 0 _ (lv_sub hl [2, 1, 0] rfl) h
def fX0_cellsWhereGoesOn_4 (F : Nat) (sy : Nat → Int32) (sh : Nat → Int32) (sc : Int32) (v1 : Int32) : Nat → Int32 → Int32 → Option (Int32)
  | 0, _, _ => none
  | n + 1, v2, v3 => (if 16 ≤ v3 then some v2 else Option.bind (fX0_goesOnAt F sy sh sc v1 v3) (fun z_2 => (if z_2 = 0 then fX0_cellsWhereGoesOn_4 F sy sh sc v1 n v2 (v3 + 1) else fX0_cellsWhereGoesOn_4 F sy sh sc v1 n (v2 + 1) (v3 + 1))))
def fX0_cellsWhereGoesOn (F : Nat) (sy : Nat → Int32) (sh : Nat → Int32) (sc : Int32) (v1 : Int32) : Option (Int32) := fX0_cellsWhereGoesOn_4 F sy sh sc v1 F 0 0
abbrev rmX0_cellsWhereGoesOn : Room := { frames := 4, cells := 0, slots := 0, locals := 95 }
theorem pdX0_cellsWhereGoesOn : (yX0_cellsWhereGoesOn.cls = RX0 ∧ yX0_cellsWhereGoesOn.cls ≠ "java/lang/invoke/MethodHandle" ∧ yX0_cellsWhereGoesOn.cls ≠ "java/lang/invoke/VarHandle" ∧ (parseMethodDescriptor yX0_cellsWhereGoesOn.desc).map (fun d => d.parameters.length) = some 1) := by decide +kernel
set_option maxHeartbeats 4000000 in
set_option maxRecDepth 100000 in
theorem lX0_cellsWhereGoesOn_4 {p : Program} {l : Launch} {e : Env} {s : State} {m : MethodId} {av : Array Value} {below : List Frame} {meth : Method} {c : Code} {D : va_G} {cI cS : ClassId} {a0 a1 a2 a3 a4 : Nat} (C0 : CX p s m av meth c RX0 cX0_cellsWhereGoesOn 4 (some .int) wsX0_cellsWhereGoesOn D cI cS) (F : Nat) (pl : Nat → Int32) (sp : Nat → Int32) (sy : Nat → Int32) (sh : Nat → Int32) (sc : Int32) (nc : Int32) (dy : Int32) (zz : Int32) (v1 : Int32) (z0 : Int32) (hP : va_P D vwCl (wX0 cI cS a0 a1 a2 a3 a4 pl sp sy sh sc nc dy zz) s.heap) : ∀ (n : Nat) (v2 : Int32) (v3 : Int32), ∀ (ls : Array Slot), lv_has ls 4 [(0, .ref a0), (1, .int v1), (2, .int v2), (3, .int v3)] → fX0_cellsWhereGoesOn_4 F sy sh sc v1 n v2 v3 = some z0 → W p l e rmX0_cellsWhereGoesOn s m av below meth c s.heap [] 0 0 (MQ below (vp_Si (fun x => x = z0)) av s 0 0 (fun _ => False)) (F0 m 4 ls []) := by
  obtain ⟨hx, hb, hr, hml, hown, hts, hlk, hE⟩ := id C0
  intro n
  induction n with
  | zero =>
    intro v2 v3 ls hl h
    cases (show none = some z0 from h)
  | succ n ih =>
    intro v2 v3 ls hl h
    rw [fX0_cellsWhereGoesOn_4] at h
    refine lv_iload_n hx hb dX0_cellsWhereGoesOn_4 rfl (lv_at hl 3 rfl) ?_
    refine lv_bipush (v := 16) hx hb dX0_cellsWhereGoesOn_5 (by decide) ?_
    refine lv_icmp_ge (tgt := 28) hx hb dX0_cellsWhereGoesOn_7 (by decide) (fun c_1 => ?_) (fun c_1 => ?_)
    · have h := ifp c_1 h
      refine lv_iload_n hx hb dX0_cellsWhereGoesOn_28 rfl (lv_at hl 2 rfl) ?_
      exact eRi C0 (Option.some.inj h) dX0_cellsWhereGoesOn_29
    · have h := ifn c_1 h
      refine lv_aload_n hx hb dX0_cellsWhereGoesOn_10 rfl (lv_at hl 0 rfl) ?_
      refine lv_iload_n hx hb dX0_cellsWhereGoesOn_11 rfl (lv_at hl 1 rfl) ?_
      refine lv_iload_n hx hb dX0_cellsWhereGoesOn_12 rfl (lv_at hl 3 rfl) ?_
      obtain ⟨z_2, e_3, h⟩ := bds h
      have hPc := hP.sub (ws' := (wX0 cI cS a0 a1 a2 a3 a4 pl sp sy sh sc nc dy zz)) [0, 1, 2, 3, 4] rfl
      refine kRi (rV C0 (tX0_goesOnAt l D cI cS F a0 a1 a2 a3 a4 pl sp sy sh sc nc dy zz v1 v3 z_2 e_3) RX0 gX0_cellsWhereGoesOn_X0_goesOnAt rfl ⟨rfl, rfl⟩ pdX0_goesOnAt rfl ⟨Nat.le_of_ble_eq_true rfl, Nat.le_of_ble_eq_true rfl⟩ (fun _ _ _ _ q => q) (va_recv hE.1 hPc (ci := 0) (q0 := 0) rfl rfl) (fun U hU _ _ => by rw [hU]; exact hPc) hl.1 rfl (Nat.le_of_ble_eq_true rfl) dX0_cellsWhereGoesOn_13 ⟨Nat.zero_le _, Nat.zero_le _⟩) ?_
      refine lv_if_eq (tgt := 22) hx hb dX0_cellsWhereGoesOn_16 (by decide) (fun c_4 => ?_) (fun c_4 => ?_)
      · have h := ifp c_4 h
        refine lv_iinc (v := v3 + 1) (lv' := [(3, .int (v3 + 1)), (0, .ref a0), (1, .int v1), (2, .int v2)]) hx hb dX0_cellsWhereGoesOn_22 hl (k := 3) rfl rfl (by decide) rfl (fun ls hl => ?_)
        refine lv_goto (tgt := 4) hx hb dX0_cellsWhereGoesOn_25 (by decide) ?_
        exact ih v2 (v3 + 1) _ (lv_sub hl [1, 2, 3, 0] rfl) h
      · have h := ifn c_4 h
        refine lv_iinc (v := v2 + 1) (lv' := [(2, .int (v2 + 1)), (0, .ref a0), (1, .int v1), (3, .int v3)]) hx hb dX0_cellsWhereGoesOn_19 hl (k := 2) rfl rfl (by decide) rfl (fun ls hl => ?_)
        refine lv_iinc (v := v3 + 1) (lv' := [(3, .int (v3 + 1)), (2, .int (v2 + 1)), (0, .ref a0), (1, .int v1)]) hx hb dX0_cellsWhereGoesOn_22 hl (k := 3) rfl rfl (by decide) rfl (fun ls hl => ?_)
        refine lv_goto (tgt := 4) hx hb dX0_cellsWhereGoesOn_25 (by decide) ?_
        exact ih (v2 + 1) (v3 + 1) _ (lv_sub hl [2, 3, 1, 0] rfl) h
set_option maxHeartbeats 4000000 in
set_option maxRecDepth 100000 in
theorem tX0_cellsWhereGoesOn (l : Launch) (D : va_G) (cI cS : ClassId) (F : Nat) (a0 a1 a2 a3 a4 : Nat) (pl : Nat → Int32) (sp : Nat → Int32) (sy : Nat → Int32) (sh : Nat → Int32) (sc : Int32) (nc : Int32) (dy : Int32) (zz : Int32) (v1 : Int32) (z0 : Int32) (h : fX0_cellsWhereGoesOn F sy sh sc v1 = some z0) : Met l yX0_cellsWhereGoesOn wsX0_cellsWhereGoesOn rmX0_cellsWhereGoesOn (PZ D cI cS [.ref a0, .int v1] (fun U => va_P D vwCl (wX0 cI cS a0 a1 a2 a3 a4 pl sp sy sh sc nc dy zz) U.heap)) (vp_Si (fun x => x = z0)) 0 0 (fun _ => False) := by
  refine Met.mk RX0 (by decide) rfl rfl (Nat.le_of_ble_eq_true rfl) ?_
  intro p e s m below meth c ls C0 hP hl
  have hl : lv_has ls 4 [(0, .ref a0), (1, .int v1)] := hl
  obtain ⟨hx, hb, hr, hml, hown, hts, hlk, hE⟩ := id C0
  rw [fX0_cellsWhereGoesOn] at h
  refine lv_iconst (v := 0) hx hb dX0_cellsWhereGoesOn_0 (by decide) ?_
  refine lv_istore_n (lv' := [(2, .int 0), (0, .ref a0), (1, .int v1)]) hx hb dX0_cellsWhereGoesOn_1 rfl hl (by decide) rfl (fun ls hl => ?_)
  refine lv_iconst (v := 0) hx hb dX0_cellsWhereGoesOn_2 (by decide) ?_
  refine lv_istore_n (lv' := [(3, .int 0), (2, .int 0), (0, .ref a0), (1, .int v1)]) hx hb dX0_cellsWhereGoesOn_3 rfl hl (by decide) rfl (fun ls hl => ?_)
  exact lX0_cellsWhereGoesOn_4 (l := l) (e := e) (below := below) C0 F pl sp sy sh sc nc dy zz v1 z0 hP F 0 0 _ (lv_sub hl [2, 3, 1, 0] rfl) h
def fX0_finishedSayings_4 (sy : Nat → Int32) (sc : Int32) : Nat → Int32 → Int32 → Option (Int32)
  | 0, _, _ => none
  | n + 1, v1, v2 => (if sc ≤ v2 then some v1 else (if (fX0_isFinished sy v2) = 0 then fX0_finishedSayings_4 sy sc n v1 (v2 + 1) else fX0_finishedSayings_4 sy sc n (v1 ||| (1 <<< (v2 &&& 31))) (v2 + 1)))
def fX0_finishedSayings (F : Nat) (sy : Nat → Int32) (sc : Int32) : Option (Int32) := fX0_finishedSayings_4 sy sc F 0 0
abbrev rmX0_finishedSayings : Room := { frames := 2, cells := 0, slots := 0, locals := 44 }
theorem pdX0_finishedSayings : (yX0_finishedSayings.cls = RX0 ∧ yX0_finishedSayings.cls ≠ "java/lang/invoke/MethodHandle" ∧ yX0_finishedSayings.cls ≠ "java/lang/invoke/VarHandle" ∧ (parseMethodDescriptor yX0_finishedSayings.desc).map (fun d => d.parameters.length) = some 0) := by decide +kernel
set_option maxHeartbeats 4000000 in
set_option maxRecDepth 100000 in
theorem lX0_finishedSayings_4 {p : Program} {l : Launch} {e : Env} {s : State} {m : MethodId} {av : Array Value} {below : List Frame} {meth : Method} {c : Code} {D : va_G} {cI cS : ClassId} {a0 a1 a2 a3 a4 : Nat} (C0 : CX p s m av meth c RX0 cX0_finishedSayings 3 (some .int) wsX0_finishedSayings D cI cS) (F : Nat) (pl : Nat → Int32) (sp : Nat → Int32) (sy : Nat → Int32) (sh : Nat → Int32) (sc : Int32) (nc : Int32) (dy : Int32) (zz : Int32) (z0 : Int32) (hP : va_P D vwCl (wX0 cI cS a0 a1 a2 a3 a4 pl sp sy sh sc nc dy zz) s.heap) : ∀ (n : Nat) (v1 : Int32) (v2 : Int32), ∀ (ls : Array Slot), lv_has ls 3 [(0, .ref a0), (1, .int v1), (2, .int v2)] → fX0_finishedSayings_4 sy sc n v1 v2 = some z0 → W p l e rmX0_finishedSayings s m av below meth c s.heap [] 0 0 (MQ below (vp_Si (fun x => x = z0)) av s 0 0 (fun _ => False)) (F0 m 4 ls []) := by
  obtain ⟨hx, hb, hr, hml, hown, hts, hlk, hE⟩ := id C0
  have hinX0 : ∀ w ∈ u_ws RX0 TX0 8, w ∈ wsX0_finishedSayings := by decide +kernel
  intro n
  induction n with
  | zero =>
    intro v1 v2 ls hl h
    cases (show none = some z0 from h)
  | succ n ih =>
    intro v1 v2 ls hl h
    rw [fX0_finishedSayings_4] at h
    refine lv_iload_n hx hb dX0_finishedSayings_4 rfl (lv_at hl 2 rfl) ?_
    refine lv_aload_n hx hb dX0_finishedSayings_5 rfl (lv_at hl 0 rfl) ?_
    refine va_get (D := D) (ci := 0) (v := .int sc) (C := RX0) (T := TX0) (N := 8) hx hb hts hinX0 hown hE.1 hP 0 rfl rfl 4 (by decide) (hts _ (List.mem_of_getElem? (i := 1) rfl)) (fun _ h9 => h9) rfl dX0_finishedSayings_6 ?_
    refine lv_icmp_ge (tgt := 32) hx hb dX0_finishedSayings_9 (by decide) (fun c_1 => ?_) (fun c_1 => ?_)
    · have h := ifp c_1 h
      refine lv_iload_n hx hb dX0_finishedSayings_32 rfl (lv_at hl 1 rfl) ?_
      exact eRi C0 (Option.some.inj h) dX0_finishedSayings_33
    · have h := ifn c_1 h
      refine lv_aload_n hx hb dX0_finishedSayings_12 rfl (lv_at hl 0 rfl) ?_
      refine lv_iload_n hx hb dX0_finishedSayings_13 rfl (lv_at hl 2 rfl) ?_
      have hPc := hP.sub (ws' := (wX0 cI cS a0 a1 a2 a3 a4 pl sp sy sh sc nc dy zz)) [0, 1, 2, 3, 4] rfl
      refine kRi (rV C0 (tX0_isFinished l D cI cS a0 a1 a2 a3 a4 pl sp sy sh sc nc dy zz v2 (fX0_isFinished sy v2) rfl) RX0 gX0_finishedSayings_X0_isFinished rfl ⟨rfl, rfl⟩ pdX0_isFinished rfl ⟨Nat.le_of_ble_eq_true rfl, Nat.le_of_ble_eq_true rfl⟩ (fun _ _ _ _ q => q) (va_recv hE.1 hPc (ci := 0) (q0 := 0) rfl rfl) (fun U hU _ _ => by rw [hU]; exact hPc) hl.1 rfl (Nat.le_of_ble_eq_true rfl) dX0_finishedSayings_14 ⟨Nat.zero_le _, Nat.zero_le _⟩) ?_
      refine lv_if_eq (tgt := 26) hx hb dX0_finishedSayings_17 (by decide) (fun c_2 => ?_) (fun c_2 => ?_)
      · have h := ifp c_2 h
        refine lv_iinc (v := v2 + 1) (lv' := [(2, .int (v2 + 1)), (0, .ref a0), (1, .int v1)]) hx hb dX0_finishedSayings_26 hl (k := 2) rfl rfl (by decide) rfl (fun ls hl => ?_)
        refine lv_goto (tgt := 4) hx hb dX0_finishedSayings_29 (by decide) ?_
        exact ih v1 (v2 + 1) _ (lv_sub hl [1, 2, 0] rfl) h
      · have h := ifn c_2 h
        refine lv_iload_n hx hb dX0_finishedSayings_20 rfl (lv_at hl 1 rfl) ?_
        refine lv_iconst (v := 1) hx hb dX0_finishedSayings_21 (by decide) ?_
        refine lv_iload_n hx hb dX0_finishedSayings_22 rfl (lv_at hl 2 rfl) ?_
        refine lv_ishl hx hb dX0_finishedSayings_23 ?_
        refine lv_ior hx hb dX0_finishedSayings_24 ?_
        refine lv_istore_n (lv' := [(1, .int (v1 ||| (1 <<< (v2 &&& 31)))), (0, .ref a0), (2, .int v2)]) hx hb dX0_finishedSayings_25 rfl hl (by decide) rfl (fun ls hl => ?_)
        refine lv_iinc (v := v2 + 1) (lv' := [(2, .int (v2 + 1)), (1, .int (v1 ||| (1 <<< (v2 &&& 31)))), (0, .ref a0)]) hx hb dX0_finishedSayings_26 hl (k := 2) rfl rfl (by decide) rfl (fun ls hl => ?_)
        refine lv_goto (tgt := 4) hx hb dX0_finishedSayings_29 (by decide) ?_
        exact ih (v1 ||| (1 <<< (v2 &&& 31))) (v2 + 1) _ (lv_sub hl [2, 1, 0] rfl) h
set_option maxHeartbeats 4000000 in
set_option maxRecDepth 100000 in
theorem tX0_finishedSayings (l : Launch) (D : va_G) (cI cS : ClassId) (F : Nat) (a0 a1 a2 a3 a4 : Nat) (pl : Nat → Int32) (sp : Nat → Int32) (sy : Nat → Int32) (sh : Nat → Int32) (sc : Int32) (nc : Int32) (dy : Int32) (zz : Int32) (z0 : Int32) (h : fX0_finishedSayings F sy sc = some z0) : Met l yX0_finishedSayings wsX0_finishedSayings rmX0_finishedSayings (PZ D cI cS [.ref a0] (fun U => va_P D vwCl (wX0 cI cS a0 a1 a2 a3 a4 pl sp sy sh sc nc dy zz) U.heap)) (vp_Si (fun x => x = z0)) 0 0 (fun _ => False) := by
  refine Met.mk RX0 (by decide) rfl rfl (Nat.le_of_ble_eq_true rfl) ?_
  intro p e s m below meth c ls C0 hP hl
  have hl : lv_has ls 3 [(0, .ref a0)] := hl
  obtain ⟨hx, hb, hr, hml, hown, hts, hlk, hE⟩ := id C0
  have hinX0 : ∀ w ∈ u_ws RX0 TX0 8, w ∈ wsX0_finishedSayings := by decide +kernel
  rw [fX0_finishedSayings] at h
  refine lv_iconst (v := 0) hx hb dX0_finishedSayings_0 (by decide) ?_
  refine lv_istore_n (lv' := [(1, .int 0), (0, .ref a0)]) hx hb dX0_finishedSayings_1 rfl hl (by decide) rfl (fun ls hl => ?_)
  refine lv_iconst (v := 0) hx hb dX0_finishedSayings_2 (by decide) ?_
  refine lv_istore_n (lv' := [(2, .int 0), (1, .int 0), (0, .ref a0)]) hx hb dX0_finishedSayings_3 rfl hl (by decide) rfl (fun ls hl => ?_)
  exact lX0_finishedSayings_4 (l := l) (e := e) (below := below) C0 F pl sp sy sh sc nc dy zz z0 hP F 0 0 _ (lv_sub hl [2, 1, 0] rfl) h
def fX0_vagueTogether_4 (sy : Nat → Int32) (sc : Int32) : Nat → Int32 → Int32 → Option (Int32)
  | 0, _, _ => none
  | n + 1, v1, v2 => (if sc ≤ v2 then some v1 else (if (fX0_isFinished sy v2) = 0 then fX0_vagueTogether_4 sy sc n (v1 + (fX0_sayingHas sy v2 2)) (v2 + 1) else fX0_vagueTogether_4 sy sc n v1 (v2 + 1)))
def fX0_vagueTogether (F : Nat) (sy : Nat → Int32) (sc : Int32) : Option (Int32) := fX0_vagueTogether_4 sy sc F 0 0
abbrev rmX0_vagueTogether : Room := { frames := 2, cells := 0, slots := 0, locals := 44 }
theorem pdX0_vagueTogether : (yX0_vagueTogether.cls = RX0 ∧ yX0_vagueTogether.cls ≠ "java/lang/invoke/MethodHandle" ∧ yX0_vagueTogether.cls ≠ "java/lang/invoke/VarHandle" ∧ (parseMethodDescriptor yX0_vagueTogether.desc).map (fun d => d.parameters.length) = some 0) := by decide +kernel
set_option maxHeartbeats 4000000 in
set_option maxRecDepth 100000 in
theorem lX0_vagueTogether_4 {p : Program} {l : Launch} {e : Env} {s : State} {m : MethodId} {av : Array Value} {below : List Frame} {meth : Method} {c : Code} {D : va_G} {cI cS : ClassId} {a0 a1 a2 a3 a4 : Nat} (C0 : CX p s m av meth c RX0 cX0_vagueTogether 3 (some .int) wsX0_vagueTogether D cI cS) (F : Nat) (pl : Nat → Int32) (sp : Nat → Int32) (sy : Nat → Int32) (sh : Nat → Int32) (sc : Int32) (nc : Int32) (dy : Int32) (zz : Int32) (z0 : Int32) (hP : va_P D vwCl (wX0 cI cS a0 a1 a2 a3 a4 pl sp sy sh sc nc dy zz) s.heap) : ∀ (n : Nat) (v1 : Int32) (v2 : Int32), ∀ (ls : Array Slot), lv_has ls 3 [(0, .ref a0), (1, .int v1), (2, .int v2)] → fX0_vagueTogether_4 sy sc n v1 v2 = some z0 → W p l e rmX0_vagueTogether s m av below meth c s.heap [] 0 0 (MQ below (vp_Si (fun x => x = z0)) av s 0 0 (fun _ => False)) (F0 m 4 ls []) := by
  obtain ⟨hx, hb, hr, hml, hown, hts, hlk, hE⟩ := id C0
  have hinX0 : ∀ w ∈ u_ws RX0 TX0 8, w ∈ wsX0_vagueTogether := by decide +kernel
  intro n
  induction n with
  | zero =>
    intro v1 v2 ls hl h
    cases (show none = some z0 from h)
  | succ n ih =>
    intro v1 v2 ls hl h
    rw [fX0_vagueTogether_4] at h
    refine lv_iload_n hx hb dX0_vagueTogether_4 rfl (lv_at hl 2 rfl) ?_
    refine lv_aload_n hx hb dX0_vagueTogether_5 rfl (lv_at hl 0 rfl) ?_
    refine va_get (D := D) (ci := 0) (v := .int sc) (C := RX0) (T := TX0) (N := 8) hx hb hts hinX0 hown hE.1 hP 0 rfl rfl 4 (by decide) (hts _ (List.mem_of_getElem? (i := 1) rfl)) (fun _ h9 => h9) rfl dX0_vagueTogether_6 ?_
    refine lv_icmp_ge (tgt := 35) hx hb dX0_vagueTogether_9 (by decide) (fun c_1 => ?_) (fun c_1 => ?_)
    · have h := ifp c_1 h
      refine lv_iload_n hx hb dX0_vagueTogether_35 rfl (lv_at hl 1 rfl) ?_
      exact eRi C0 (Option.some.inj h) dX0_vagueTogether_36
    · have h := ifn c_1 h
      refine lv_aload_n hx hb dX0_vagueTogether_12 rfl (lv_at hl 0 rfl) ?_
      refine lv_iload_n hx hb dX0_vagueTogether_13 rfl (lv_at hl 2 rfl) ?_
      have hPc := hP.sub (ws' := (wX0 cI cS a0 a1 a2 a3 a4 pl sp sy sh sc nc dy zz)) [0, 1, 2, 3, 4] rfl
      refine kRi (rV C0 (tX0_isFinished l D cI cS a0 a1 a2 a3 a4 pl sp sy sh sc nc dy zz v2 (fX0_isFinished sy v2) rfl) RX0 gX0_vagueTogether_X0_isFinished rfl ⟨rfl, rfl⟩ pdX0_isFinished rfl ⟨Nat.le_of_ble_eq_true rfl, Nat.le_of_ble_eq_true rfl⟩ (fun _ _ _ _ q => q) (va_recv hE.1 hPc (ci := 0) (q0 := 0) rfl rfl) (fun U hU _ _ => by rw [hU]; exact hPc) hl.1 rfl (Nat.le_of_ble_eq_true rfl) dX0_vagueTogether_14 ⟨Nat.zero_le _, Nat.zero_le _⟩) ?_
      refine lv_if_ne (tgt := 29) hx hb dX0_vagueTogether_17 (by decide) (fun c_2 => ?_) (fun c_2 => ?_)
      · have h := ifn c_2 h
        refine lv_iinc (v := v2 + 1) (lv' := [(2, .int (v2 + 1)), (0, .ref a0), (1, .int v1)]) hx hb dX0_vagueTogether_29 hl (k := 2) rfl rfl (by decide) rfl (fun ls hl => ?_)
        refine lv_goto (tgt := 4) hx hb dX0_vagueTogether_32 (by decide) ?_
        exact ih v1 (v2 + 1) _ (lv_sub hl [1, 2, 0] rfl) h
      · have h := ifp c_2 h
        refine lv_iload_n hx hb dX0_vagueTogether_20 rfl (lv_at hl 1 rfl) ?_
        refine lv_aload_n hx hb dX0_vagueTogether_21 rfl (lv_at hl 0 rfl) ?_
        refine lv_iload_n hx hb dX0_vagueTogether_22 rfl (lv_at hl 2 rfl) ?_
        refine lv_iconst (v := 2) hx hb dX0_vagueTogether_23 (by decide) ?_
        have hPc := hP.sub (ws' := (wX0 cI cS a0 a1 a2 a3 a4 pl sp sy sh sc nc dy zz)) [0, 1, 2, 3, 4] rfl
        refine kRi (rV C0 (tX0_sayingHas l D cI cS a0 a1 a2 a3 a4 pl sp sy sh sc nc dy zz v2 2 (fX0_sayingHas sy v2 2) rfl) RX0 gX0_vagueTogether_X0_sayingHas rfl ⟨rfl, rfl⟩ pdX0_sayingHas rfl ⟨Nat.le_of_ble_eq_true rfl, Nat.le_of_ble_eq_true rfl⟩ (fun _ _ _ _ q => q) (va_recv hE.1 hPc (ci := 0) (q0 := 0) rfl rfl) (fun U hU _ _ => by rw [hU]; exact hPc) hl.1 rfl (Nat.le_of_ble_eq_true rfl) dX0_vagueTogether_24 ⟨Nat.zero_le _, Nat.zero_le _⟩) ?_
        refine lv_iadd hx hb dX0_vagueTogether_27 ?_
        refine lv_istore_n (lv' := [(1, .int (v1 + (fX0_sayingHas sy v2 2))), (0, .ref a0), (2, .int v2)]) hx hb dX0_vagueTogether_28 rfl hl (by decide) rfl (fun ls hl => ?_)
        refine lv_iinc (v := v2 + 1) (lv' := [(2, .int (v2 + 1)), (1, .int (v1 + (fX0_sayingHas sy v2 2))), (0, .ref a0)]) hx hb dX0_vagueTogether_29 hl (k := 2) rfl rfl (by decide) rfl (fun ls hl => ?_)
        refine lv_goto (tgt := 4) hx hb dX0_vagueTogether_32 (by decide) ?_
        exact ih (v1 + (fX0_sayingHas sy v2 2)) (v2 + 1) _ (lv_sub hl [2, 1, 0] rfl) h
set_option maxHeartbeats 4000000 in
set_option maxRecDepth 100000 in
theorem tX0_vagueTogether (l : Launch) (D : va_G) (cI cS : ClassId) (F : Nat) (a0 a1 a2 a3 a4 : Nat) (pl : Nat → Int32) (sp : Nat → Int32) (sy : Nat → Int32) (sh : Nat → Int32) (sc : Int32) (nc : Int32) (dy : Int32) (zz : Int32) (z0 : Int32) (h : fX0_vagueTogether F sy sc = some z0) : Met l yX0_vagueTogether wsX0_vagueTogether rmX0_vagueTogether (PZ D cI cS [.ref a0] (fun U => va_P D vwCl (wX0 cI cS a0 a1 a2 a3 a4 pl sp sy sh sc nc dy zz) U.heap)) (vp_Si (fun x => x = z0)) 0 0 (fun _ => False) := by
  refine Met.mk RX0 (by decide) rfl rfl (Nat.le_of_ble_eq_true rfl) ?_
  intro p e s m below meth c ls C0 hP hl
  have hl : lv_has ls 3 [(0, .ref a0)] := hl
  obtain ⟨hx, hb, hr, hml, hown, hts, hlk, hE⟩ := id C0
  have hinX0 : ∀ w ∈ u_ws RX0 TX0 8, w ∈ wsX0_vagueTogether := by decide +kernel
  rw [fX0_vagueTogether] at h
  refine lv_iconst (v := 0) hx hb dX0_vagueTogether_0 (by decide) ?_
  refine lv_istore_n (lv' := [(1, .int 0), (0, .ref a0)]) hx hb dX0_vagueTogether_1 rfl hl (by decide) rfl (fun ls hl => ?_)
  refine lv_iconst (v := 0) hx hb dX0_vagueTogether_2 (by decide) ?_
  refine lv_istore_n (lv' := [(2, .int 0), (1, .int 0), (0, .ref a0)]) hx hb dX0_vagueTogether_3 rfl hl (by decide) rfl (fun ls hl => ?_)
  exact lX0_vagueTogether_4 (l := l) (e := e) (below := below) C0 F pl sp sy sh sc nc dy zz z0 hP F 0 0 _ (lv_sub hl [2, 1, 0] rfl) h
def fX0_waitedTogether_4 (sh : Nat → Int32) (nc : Int32) : Nat → Int32 → Int32 → Option (Int32)
  | 0, _, _ => none
  | n + 1, v1, v2 => (if nc ≤ v2 then some v1 else fX0_waitedTogether_4 sh nc n (v1 + (fX0_shipHas sh v2 3)) (v2 + 1))
def fX0_waitedTogether (F : Nat) (sh : Nat → Int32) (nc : Int32) : Option (Int32) := fX0_waitedTogether_4 sh nc F 0 0
abbrev rmX0_waitedTogether : Room := { frames := 2, cells := 0, slots := 0, locals := 43 }
theorem pdX0_waitedTogether : (yX0_waitedTogether.cls = RX0 ∧ yX0_waitedTogether.cls ≠ "java/lang/invoke/MethodHandle" ∧ yX0_waitedTogether.cls ≠ "java/lang/invoke/VarHandle" ∧ (parseMethodDescriptor yX0_waitedTogether.desc).map (fun d => d.parameters.length) = some 0) := by decide +kernel
set_option maxHeartbeats 4000000 in
set_option maxRecDepth 100000 in
theorem lX0_waitedTogether_4 {p : Program} {l : Launch} {e : Env} {s : State} {m : MethodId} {av : Array Value} {below : List Frame} {meth : Method} {c : Code} {D : va_G} {cI cS : ClassId} {a0 a1 a2 a3 a4 : Nat} (C0 : CX p s m av meth c RX0 cX0_waitedTogether 3 (some .int) wsX0_waitedTogether D cI cS) (F : Nat) (pl : Nat → Int32) (sp : Nat → Int32) (sy : Nat → Int32) (sh : Nat → Int32) (sc : Int32) (nc : Int32) (dy : Int32) (zz : Int32) (z0 : Int32) (hP : va_P D vwCl (wX0 cI cS a0 a1 a2 a3 a4 pl sp sy sh sc nc dy zz) s.heap) : ∀ (n : Nat) (v1 : Int32) (v2 : Int32), ∀ (ls : Array Slot), lv_has ls 3 [(0, .ref a0), (1, .int v1), (2, .int v2)] → fX0_waitedTogether_4 sh nc n v1 v2 = some z0 → W p l e rmX0_waitedTogether s m av below meth c s.heap [] 0 0 (MQ below (vp_Si (fun x => x = z0)) av s 0 0 (fun _ => False)) (F0 m 4 ls []) := by
  obtain ⟨hx, hb, hr, hml, hown, hts, hlk, hE⟩ := id C0
  have hinX0 : ∀ w ∈ u_ws RX0 TX0 8, w ∈ wsX0_waitedTogether := by decide +kernel
  intro n
  induction n with
  | zero =>
    intro v1 v2 ls hl h
    cases (show none = some z0 from h)
  | succ n ih =>
    intro v1 v2 ls hl h
    rw [fX0_waitedTogether_4] at h
    refine lv_iload_n hx hb dX0_waitedTogether_4 rfl (lv_at hl 2 rfl) ?_
    refine lv_aload_n hx hb dX0_waitedTogether_5 rfl (lv_at hl 0 rfl) ?_
    refine va_get (D := D) (ci := 0) (v := .int nc) (C := RX0) (T := TX0) (N := 8) hx hb hts hinX0 hown hE.1 hP 0 rfl rfl 5 (by decide) (hts _ (List.mem_of_getElem? (i := 1) rfl)) (fun _ h9 => h9) rfl dX0_waitedTogether_6 ?_
    refine lv_icmp_ge (tgt := 27) hx hb dX0_waitedTogether_9 (by decide) (fun c_1 => ?_) (fun c_1 => ?_)
    · have h := ifp c_1 h
      refine lv_iload_n hx hb dX0_waitedTogether_27 rfl (lv_at hl 1 rfl) ?_
      exact eRi C0 (Option.some.inj h) dX0_waitedTogether_28
    · have h := ifn c_1 h
      refine lv_iload_n hx hb dX0_waitedTogether_12 rfl (lv_at hl 1 rfl) ?_
      refine lv_aload_n hx hb dX0_waitedTogether_13 rfl (lv_at hl 0 rfl) ?_
      refine lv_iload_n hx hb dX0_waitedTogether_14 rfl (lv_at hl 2 rfl) ?_
      refine lv_iconst (v := 3) hx hb dX0_waitedTogether_15 (by decide) ?_
      have hPc := hP.sub (ws' := (wX0 cI cS a0 a1 a2 a3 a4 pl sp sy sh sc nc dy zz)) [0, 1, 2, 3, 4] rfl
      refine kRi (rV C0 (tX0_shipHas l D cI cS a0 a1 a2 a3 a4 pl sp sy sh sc nc dy zz v2 3 (fX0_shipHas sh v2 3) rfl) RX0 gX0_waitedTogether_X0_shipHas rfl ⟨rfl, rfl⟩ pdX0_shipHas rfl ⟨Nat.le_of_ble_eq_true rfl, Nat.le_of_ble_eq_true rfl⟩ (fun _ _ _ _ q => q) (va_recv hE.1 hPc (ci := 0) (q0 := 0) rfl rfl) (fun U hU _ _ => by rw [hU]; exact hPc) hl.1 rfl (Nat.le_of_ble_eq_true rfl) dX0_waitedTogether_16 ⟨Nat.zero_le _, Nat.zero_le _⟩) ?_
      refine lv_iadd hx hb dX0_waitedTogether_19 ?_
      refine lv_istore_n (lv' := [(1, .int (v1 + (fX0_shipHas sh v2 3))), (0, .ref a0), (2, .int v2)]) hx hb dX0_waitedTogether_20 rfl hl (by decide) rfl (fun ls hl => ?_)
      refine lv_iinc (v := v2 + 1) (lv' := [(2, .int (v2 + 1)), (1, .int (v1 + (fX0_shipHas sh v2 3))), (0, .ref a0)]) hx hb dX0_waitedTogether_21 hl (k := 2) rfl rfl (by decide) rfl (fun ls hl => ?_)
      refine lv_goto (tgt := 4) hx hb dX0_waitedTogether_24 (by decide) ?_
      exact ih (v1 + (fX0_shipHas sh v2 3)) (v2 + 1) _ (lv_sub hl [2, 1, 0] rfl) h
set_option maxHeartbeats 4000000 in
set_option maxRecDepth 100000 in
theorem tX0_waitedTogether (l : Launch) (D : va_G) (cI cS : ClassId) (F : Nat) (a0 a1 a2 a3 a4 : Nat) (pl : Nat → Int32) (sp : Nat → Int32) (sy : Nat → Int32) (sh : Nat → Int32) (sc : Int32) (nc : Int32) (dy : Int32) (zz : Int32) (z0 : Int32) (h : fX0_waitedTogether F sh nc = some z0) : Met l yX0_waitedTogether wsX0_waitedTogether rmX0_waitedTogether (PZ D cI cS [.ref a0] (fun U => va_P D vwCl (wX0 cI cS a0 a1 a2 a3 a4 pl sp sy sh sc nc dy zz) U.heap)) (vp_Si (fun x => x = z0)) 0 0 (fun _ => False) := by
  refine Met.mk RX0 (by decide) rfl rfl (Nat.le_of_ble_eq_true rfl) ?_
  intro p e s m below meth c ls C0 hP hl
  have hl : lv_has ls 3 [(0, .ref a0)] := hl
  obtain ⟨hx, hb, hr, hml, hown, hts, hlk, hE⟩ := id C0
  have hinX0 : ∀ w ∈ u_ws RX0 TX0 8, w ∈ wsX0_waitedTogether := by decide +kernel
  rw [fX0_waitedTogether] at h
  refine lv_iconst (v := 0) hx hb dX0_waitedTogether_0 (by decide) ?_
  refine lv_istore_n (lv' := [(1, .int 0), (0, .ref a0)]) hx hb dX0_waitedTogether_1 rfl hl (by decide) rfl (fun ls hl => ?_)
  refine lv_iconst (v := 0) hx hb dX0_waitedTogether_2 (by decide) ?_
  refine lv_istore_n (lv' := [(2, .int 0), (1, .int 0), (0, .ref a0)]) hx hb dX0_waitedTogether_3 rfl hl (by decide) rfl (fun ls hl => ?_)
  exact lX0_waitedTogether_4 (l := l) (e := e) (below := below) C0 F pl sp sy sh sc nc dy zz z0 hP F 0 0 _ (lv_sub hl [2, 1, 0] rfl) h
def fX0_thickestCell_6 (F : Nat) (sy : Nat → Int32) (sc : Int32) : Nat → Int32 → Int32 → Int32 → Option (Int32)
  | 0, _, _, _ => none
  | n + 1, v1, v2, v3 => (if 16 ≤ v3 then some v1 else Option.bind (fX0_thickAt F sy sc v3) (fun z_2 => (if z_2 ≤ v2 then fX0_thickestCell_6 F sy sc n v1 v2 (v3 + 1) else fX0_thickestCell_6 F sy sc n v3 z_2 (v3 + 1))))
def fX0_thickestCell (F : Nat) (sy : Nat → Int32) (sc : Int32) : Option (Int32) := fX0_thickestCell_6 F sy sc F 0 (-1) 0
abbrev rmX0_thickestCell : Room := { frames := 3, cells := 0, slots := 0, locals := 73 }
theorem pdX0_thickestCell : (yX0_thickestCell.cls = RX0 ∧ yX0_thickestCell.cls ≠ "java/lang/invoke/MethodHandle" ∧ yX0_thickestCell.cls ≠ "java/lang/invoke/VarHandle" ∧ (parseMethodDescriptor yX0_thickestCell.desc).map (fun d => d.parameters.length) = some 0) := by decide +kernel
set_option maxHeartbeats 4000000 in
set_option maxRecDepth 100000 in
theorem lX0_thickestCell_6 {p : Program} {l : Launch} {e : Env} {s : State} {m : MethodId} {av : Array Value} {below : List Frame} {meth : Method} {c : Code} {D : va_G} {cI cS : ClassId} {a0 a1 a2 a3 a4 : Nat} (C0 : CX p s m av meth c RX0 cX0_thickestCell 5 (some .int) wsX0_thickestCell D cI cS) (F : Nat) (pl : Nat → Int32) (sp : Nat → Int32) (sy : Nat → Int32) (sh : Nat → Int32) (sc : Int32) (nc : Int32) (dy : Int32) (zz : Int32) (z0 : Int32) (hP : va_P D vwCl (wX0 cI cS a0 a1 a2 a3 a4 pl sp sy sh sc nc dy zz) s.heap) : ∀ (n : Nat) (v1 : Int32) (v2 : Int32) (v3 : Int32), ∀ (ls : Array Slot), lv_has ls 5 [(0, .ref a0), (1, .int v1), (2, .int v2), (3, .int v3)] → fX0_thickestCell_6 F sy sc n v1 v2 v3 = some z0 → W p l e rmX0_thickestCell s m av below meth c s.heap [] 0 0 (MQ below (vp_Si (fun x => x = z0)) av s 0 0 (fun _ => False)) (F0 m 6 ls []) := by
  obtain ⟨hx, hb, hr, hml, hown, hts, hlk, hE⟩ := id C0
  intro n
  induction n with
  | zero =>
    intro v1 v2 v3 ls hl h
    cases (show none = some z0 from h)
  | succ n ih =>
    intro v1 v2 v3 ls hl h
    rw [fX0_thickestCell_6] at h
    refine lv_iload_n hx hb dX0_thickestCell_6 rfl (lv_at hl 3 rfl) ?_
    refine lv_bipush (v := 16) hx hb dX0_thickestCell_7 (by decide) ?_
    refine lv_icmp_ge (tgt := 36) hx hb dX0_thickestCell_9 (by decide) (fun c_1 => ?_) (fun c_1 => ?_)
    · have h := ifp c_1 h
      refine lv_iload_n hx hb dX0_thickestCell_36 rfl (lv_at hl 1 rfl) ?_
      exact eRi C0 (Option.some.inj h) dX0_thickestCell_37
    · have h := ifn c_1 h
      refine lv_aload_n hx hb dX0_thickestCell_12 rfl (lv_at hl 0 rfl) ?_
      refine lv_iload_n hx hb dX0_thickestCell_13 rfl (lv_at hl 3 rfl) ?_
      obtain ⟨z_2, e_3, h⟩ := bds h
      have hPc := hP.sub (ws' := (wX0 cI cS a0 a1 a2 a3 a4 pl sp sy sh sc nc dy zz)) [0, 1, 2, 3, 4] rfl
      refine kRi (rV C0 (tX0_thickAt l D cI cS F a0 a1 a2 a3 a4 pl sp sy sh sc nc dy zz v3 z_2 e_3) RX0 gX0_thickestCell_X0_thickAt rfl ⟨rfl, rfl⟩ pdX0_thickAt rfl ⟨Nat.le_of_ble_eq_true rfl, Nat.le_of_ble_eq_true rfl⟩ (fun _ _ _ _ q => q) (va_recv hE.1 hPc (ci := 0) (q0 := 0) rfl rfl) (fun U hU _ _ => by rw [hU]; exact hPc) hl.1 rfl (Nat.le_of_ble_eq_true rfl) dX0_thickestCell_14 ⟨Nat.zero_le _, Nat.zero_le _⟩) ?_
      refine lv_istore (lv' := [(4, .int z_2), (0, .ref a0), (1, .int v1), (2, .int v2), (3, .int v3)]) hx hb dX0_thickestCell_17 hl (by decide) rfl (fun ls hl => ?_)
      refine lv_iload hx hb dX0_thickestCell_19 (lv_at hl 0 rfl) ?_
      refine lv_iload_n hx hb dX0_thickestCell_21 rfl (lv_at hl 3 rfl) ?_
      refine lv_icmp_le (tgt := 30) hx hb dX0_thickestCell_22 (by decide) (fun c_4 => ?_) (fun c_4 => ?_)
      · have h := ifp c_4 h
        refine lv_iinc (v := v3 + 1) (lv' := [(3, .int (v3 + 1)), (4, .int z_2), (0, .ref a0), (1, .int v1), (2, .int v2)]) hx hb dX0_thickestCell_30 hl (k := 4) rfl rfl (by decide) rfl (fun ls hl => ?_)
        refine lv_goto (tgt := 6) hx hb dX0_thickestCell_33 (by decide) ?_
        exact ih v1 v2 (v3 + 1) _ (lv_sub hl [2, 3, 4, 0] rfl) h
      · have h := ifn c_4 h
        refine lv_iload hx hb dX0_thickestCell_25 (lv_at hl 0 rfl) ?_
        refine lv_istore_n (lv' := [(2, .int z_2), (4, .int z_2), (0, .ref a0), (1, .int v1), (3, .int v3)]) hx hb dX0_thickestCell_27 rfl hl (by decide) rfl (fun ls hl => ?_)
        refine lv_iload_n hx hb dX0_thickestCell_28 rfl (lv_at hl 4 rfl) ?_
        refine lv_istore_n (lv' := [(1, .int v3), (2, .int z_2), (4, .int z_2), (0, .ref a0), (3, .int v3)]) hx hb dX0_thickestCell_29 rfl hl (by decide) rfl (fun ls hl => ?_)
        refine lv_iinc (v := v3 + 1) (lv' := [(3, .int (v3 + 1)), (1, .int v3), (2, .int z_2), (4, .int z_2), (0, .ref a0)]) hx hb dX0_thickestCell_30 hl (k := 4) rfl rfl (by decide) rfl (fun ls hl => ?_)
        refine lv_goto (tgt := 6) hx hb dX0_thickestCell_33 (by decide) ?_
        exact ih v3 z_2 (v3 + 1) _ (lv_sub hl [4, 1, 2, 0] rfl) h
set_option maxHeartbeats 4000000 in
set_option maxRecDepth 100000 in
theorem tX0_thickestCell (l : Launch) (D : va_G) (cI cS : ClassId) (F : Nat) (a0 a1 a2 a3 a4 : Nat) (pl : Nat → Int32) (sp : Nat → Int32) (sy : Nat → Int32) (sh : Nat → Int32) (sc : Int32) (nc : Int32) (dy : Int32) (zz : Int32) (z0 : Int32) (h : fX0_thickestCell F sy sc = some z0) : Met l yX0_thickestCell wsX0_thickestCell rmX0_thickestCell (PZ D cI cS [.ref a0] (fun U => va_P D vwCl (wX0 cI cS a0 a1 a2 a3 a4 pl sp sy sh sc nc dy zz) U.heap)) (vp_Si (fun x => x = z0)) 0 0 (fun _ => False) := by
  refine Met.mk RX0 (by decide) rfl rfl (Nat.le_of_ble_eq_true rfl) ?_
  intro p e s m below meth c ls C0 hP hl
  have hl : lv_has ls 5 [(0, .ref a0)] := hl
  obtain ⟨hx, hb, hr, hml, hown, hts, hlk, hE⟩ := id C0
  rw [fX0_thickestCell] at h
  refine lv_iconst (v := 0) hx hb dX0_thickestCell_0 (by decide) ?_
  refine lv_istore_n (lv' := [(1, .int 0), (0, .ref a0)]) hx hb dX0_thickestCell_1 rfl hl (by decide) rfl (fun ls hl => ?_)
  refine lv_iconst (v := (-1)) hx hb dX0_thickestCell_2 (by decide) ?_
  refine lv_istore_n (lv' := [(2, .int (-1)), (1, .int 0), (0, .ref a0)]) hx hb dX0_thickestCell_3 rfl hl (by decide) rfl (fun ls hl => ?_)
  refine lv_iconst (v := 0) hx hb dX0_thickestCell_4 (by decide) ?_
  refine lv_istore_n (lv' := [(3, .int 0), (2, .int (-1)), (1, .int 0), (0, .ref a0)]) hx hb dX0_thickestCell_5 rfl hl (by decide) rfl (fun ls hl => ?_)
  exact lX0_thickestCell_6 (l := l) (e := e) (below := below) C0 F pl sp sy sh sc nc dy zz z0 hP F 0 (-1) 0 _ (lv_sub hl [3, 2, 1, 0] rfl) h
def fX0_clearCells_4 (F : Nat) (sy : Nat → Int32) (sc : Int32) : Nat → Int32 → Int32 → Option (Int32)
  | 0, _, _ => none
  | n + 1, v1, v2 => (if 16 ≤ v2 then some v1 else Option.bind (fX0_thickAt F sy sc v2) (fun z_2 => (if z_2 = 0 then fX0_clearCells_4 F sy sc n (v1 ||| (1 <<< (v2 &&& 31))) (v2 + 1) else fX0_clearCells_4 F sy sc n v1 (v2 + 1))))
def fX0_clearCells (F : Nat) (sy : Nat → Int32) (sc : Int32) : Option (Int32) := fX0_clearCells_4 F sy sc F 0 0
abbrev rmX0_clearCells : Room := { frames := 3, cells := 0, slots := 0, locals := 73 }
theorem pdX0_clearCells : (yX0_clearCells.cls = RX0 ∧ yX0_clearCells.cls ≠ "java/lang/invoke/MethodHandle" ∧ yX0_clearCells.cls ≠ "java/lang/invoke/VarHandle" ∧ (parseMethodDescriptor yX0_clearCells.desc).map (fun d => d.parameters.length) = some 0) := by decide +kernel
set_option maxHeartbeats 4000000 in
set_option maxRecDepth 100000 in
theorem lX0_clearCells_4 {p : Program} {l : Launch} {e : Env} {s : State} {m : MethodId} {av : Array Value} {below : List Frame} {meth : Method} {c : Code} {D : va_G} {cI cS : ClassId} {a0 a1 a2 a3 a4 : Nat} (C0 : CX p s m av meth c RX0 cX0_clearCells 3 (some .int) wsX0_clearCells D cI cS) (F : Nat) (pl : Nat → Int32) (sp : Nat → Int32) (sy : Nat → Int32) (sh : Nat → Int32) (sc : Int32) (nc : Int32) (dy : Int32) (zz : Int32) (z0 : Int32) (hP : va_P D vwCl (wX0 cI cS a0 a1 a2 a3 a4 pl sp sy sh sc nc dy zz) s.heap) : ∀ (n : Nat) (v1 : Int32) (v2 : Int32), ∀ (ls : Array Slot), lv_has ls 3 [(0, .ref a0), (1, .int v1), (2, .int v2)] → fX0_clearCells_4 F sy sc n v1 v2 = some z0 → W p l e rmX0_clearCells s m av below meth c s.heap [] 0 0 (MQ below (vp_Si (fun x => x = z0)) av s 0 0 (fun _ => False)) (F0 m 4 ls []) := by
  obtain ⟨hx, hb, hr, hml, hown, hts, hlk, hE⟩ := id C0
  intro n
  induction n with
  | zero =>
    intro v1 v2 ls hl h
    cases (show none = some z0 from h)
  | succ n ih =>
    intro v1 v2 ls hl h
    rw [fX0_clearCells_4] at h
    refine lv_iload_n hx hb dX0_clearCells_4 rfl (lv_at hl 2 rfl) ?_
    refine lv_bipush (v := 16) hx hb dX0_clearCells_5 (by decide) ?_
    refine lv_icmp_ge (tgt := 30) hx hb dX0_clearCells_7 (by decide) (fun c_1 => ?_) (fun c_1 => ?_)
    · have h := ifp c_1 h
      refine lv_iload_n hx hb dX0_clearCells_30 rfl (lv_at hl 1 rfl) ?_
      exact eRi C0 (Option.some.inj h) dX0_clearCells_31
    · have h := ifn c_1 h
      refine lv_aload_n hx hb dX0_clearCells_10 rfl (lv_at hl 0 rfl) ?_
      refine lv_iload_n hx hb dX0_clearCells_11 rfl (lv_at hl 2 rfl) ?_
      obtain ⟨z_2, e_3, h⟩ := bds h
      have hPc := hP.sub (ws' := (wX0 cI cS a0 a1 a2 a3 a4 pl sp sy sh sc nc dy zz)) [0, 1, 2, 3, 4] rfl
      refine kRi (rV C0 (tX0_thickAt l D cI cS F a0 a1 a2 a3 a4 pl sp sy sh sc nc dy zz v2 z_2 e_3) RX0 gX0_clearCells_X0_thickAt rfl ⟨rfl, rfl⟩ pdX0_thickAt rfl ⟨Nat.le_of_ble_eq_true rfl, Nat.le_of_ble_eq_true rfl⟩ (fun _ _ _ _ q => q) (va_recv hE.1 hPc (ci := 0) (q0 := 0) rfl rfl) (fun U hU _ _ => by rw [hU]; exact hPc) hl.1 rfl (Nat.le_of_ble_eq_true rfl) dX0_clearCells_12 ⟨Nat.zero_le _, Nat.zero_le _⟩) ?_
      refine lv_if_ne (tgt := 24) hx hb dX0_clearCells_15 (by decide) (fun c_4 => ?_) (fun c_4 => ?_)
      · have h := ifn c_4 h
        refine lv_iinc (v := v2 + 1) (lv' := [(2, .int (v2 + 1)), (0, .ref a0), (1, .int v1)]) hx hb dX0_clearCells_24 hl (k := 2) rfl rfl (by decide) rfl (fun ls hl => ?_)
        refine lv_goto (tgt := 4) hx hb dX0_clearCells_27 (by decide) ?_
        exact ih v1 (v2 + 1) _ (lv_sub hl [1, 2, 0] rfl) h
      · have h := ifp c_4 h
        refine lv_iload_n hx hb dX0_clearCells_18 rfl (lv_at hl 1 rfl) ?_
        refine lv_iconst (v := 1) hx hb dX0_clearCells_19 (by decide) ?_
        refine lv_iload_n hx hb dX0_clearCells_20 rfl (lv_at hl 2 rfl) ?_
        refine lv_ishl hx hb dX0_clearCells_21 ?_
        refine lv_ior hx hb dX0_clearCells_22 ?_
        refine lv_istore_n (lv' := [(1, .int (v1 ||| (1 <<< (v2 &&& 31)))), (0, .ref a0), (2, .int v2)]) hx hb dX0_clearCells_23 rfl hl (by decide) rfl (fun ls hl => ?_)
        refine lv_iinc (v := v2 + 1) (lv' := [(2, .int (v2 + 1)), (1, .int (v1 ||| (1 <<< (v2 &&& 31)))), (0, .ref a0)]) hx hb dX0_clearCells_24 hl (k := 2) rfl rfl (by decide) rfl (fun ls hl => ?_)
        refine lv_goto (tgt := 4) hx hb dX0_clearCells_27 (by decide) ?_
        exact ih (v1 ||| (1 <<< (v2 &&& 31))) (v2 + 1) _ (lv_sub hl [2, 1, 0] rfl) h
set_option maxHeartbeats 4000000 in
set_option maxRecDepth 100000 in
theorem tX0_clearCells (l : Launch) (D : va_G) (cI cS : ClassId) (F : Nat) (a0 a1 a2 a3 a4 : Nat) (pl : Nat → Int32) (sp : Nat → Int32) (sy : Nat → Int32) (sh : Nat → Int32) (sc : Int32) (nc : Int32) (dy : Int32) (zz : Int32) (z0 : Int32) (h : fX0_clearCells F sy sc = some z0) : Met l yX0_clearCells wsX0_clearCells rmX0_clearCells (PZ D cI cS [.ref a0] (fun U => va_P D vwCl (wX0 cI cS a0 a1 a2 a3 a4 pl sp sy sh sc nc dy zz) U.heap)) (vp_Si (fun x => x = z0)) 0 0 (fun _ => False) := by
  refine Met.mk RX0 (by decide) rfl rfl (Nat.le_of_ble_eq_true rfl) ?_
  intro p e s m below meth c ls C0 hP hl
  have hl : lv_has ls 3 [(0, .ref a0)] := hl
  obtain ⟨hx, hb, hr, hml, hown, hts, hlk, hE⟩ := id C0
  rw [fX0_clearCells] at h
  refine lv_iconst (v := 0) hx hb dX0_clearCells_0 (by decide) ?_
  refine lv_istore_n (lv' := [(1, .int 0), (0, .ref a0)]) hx hb dX0_clearCells_1 rfl hl (by decide) rfl (fun ls hl => ?_)
  refine lv_iconst (v := 0) hx hb dX0_clearCells_2 (by decide) ?_
  refine lv_istore_n (lv' := [(2, .int 0), (1, .int 0), (0, .ref a0)]) hx hb dX0_clearCells_3 rfl hl (by decide) rfl (fun ls hl => ?_)
  exact lX0_clearCells_4 (l := l) (e := e) (below := below) C0 F pl sp sy sh sc nc dy zz z0 hP F 0 0 _ (lv_sub hl [2, 1, 0] rfl) h
