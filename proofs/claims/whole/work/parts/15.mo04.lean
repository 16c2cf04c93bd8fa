def fX5_waitedInAll_4 (nw : Nat → Int32) : Nat → Int32 → Int32 → Option (Int32)
  | 0, _, _ => none
  | n + 1, v1, v2 => (if (nw 3) ≤ v2 then some v1 else Option.bind (fX5_shipIs nw v2 3) (fun z_2 => fX5_waitedInAll_4 nw n (v1 + z_2) (v2 + 1)))
def fX5_waitedInAll (F : Nat) (nw : Nat → Int32) : Option (Int32) := fX5_waitedInAll_4 nw F 0 0
abbrev rmX5_waitedInAll : Room := { frames := 2, cells := 0, slots := 0, locals := 43 }
theorem pdX5_waitedInAll : (yX5_waitedInAll.cls = RX5 ∧ yX5_waitedInAll.cls ≠ "java/lang/invoke/MethodHandle" ∧ yX5_waitedInAll.cls ≠ "java/lang/invoke/VarHandle" ∧ (parseMethodDescriptor yX5_waitedInAll.desc).map (fun d => d.parameters.length) = some 0) := by decide +kernel
set_option maxHeartbeats 4000000 in
set_option maxRecDepth 100000 in
theorem lX5_waitedInAll_4 {p : Program} {l : Launch} {e : Env} {s : State} {m : MethodId} {av : Array Value} {below : List Frame} {meth : Method} {c : Code} {D : va_G} {cI cS : ClassId} {a0 a1 a2 a3 a4 a5 a6 a7 a8 a9 a10 a11 : Nat} (C0 : CX p s m av meth c RX5 cX5_waitedInAll 3 (some .int) wsX5_waitedInAll D cI cS) (F : Nat) (nw : Nat → Int32) (kp : Nat → Int32) (ad : Nat → Int32) (fd : Nat → Int32) (tp : Nat → Int32) (kn : Nat → Option Nat) (it : Nat → Int32) (wd : Nat → Int32) (sz : Nat → Int32) (nm : Nat → Int32) (mv : Nat → Int32) (ik : Int32) (td : Int32) (bg : Int32) (en : Int32) (so : Int32) (va : Int32) (iw : Int32) (im : Int32) (st : Int32) (ht : Int32) (z0 : Int32) (hP : va_P D vwCl (wX5 cI cS a0 a1 a2 a3 a4 a5 a6 a7 a8 a9 a10 a11 nw kp ad fd tp kn it wd sz nm mv ik td bg en so va iw im st ht) s.heap) : ∀ (n : Nat) (v1 : Int32) (v2 : Int32), ∀ (ls : Array Slot), lv_has ls 3 [(0, .ref a0), (1, .int v1), (2, .int v2)] → fX5_waitedInAll_4 nw n v1 v2 = some z0 → W p l e rmX5_waitedInAll s m av below meth c s.heap [] 0 0 (MQ below (vp_Si (fun x => x = z0)) av s 0 0 (fun _ => False)) (F0 m 4 ls []) := by
  obtain ⟨hx, hb, hr, hml, hown, hts, hlk, hE⟩ := id C0
  have hinX5 : ∀ w ∈ u_ws RX5 TX5 21, w ∈ wsX5_waitedInAll := by decide +kernel
  intro n
  induction n with
  | zero =>
    intro v1 v2 ls hl h
    cases (show none = some z0 from h)
  | succ n ih =>
    intro v1 v2 ls hl h
    rw [fX5_waitedInAll_4] at h
    refine lv_iload_n hx hb dX5_waitedInAll_4 rfl (lv_at hl 2 rfl) ?_
    refine lv_aload_n hx hb dX5_waitedInAll_5 rfl (lv_at hl 0 rfl) ?_
    refine va_get (D := D) (ci := 4) (v := .ref a1) (C := RX5) (T := TX5) (N := 21) hx hb hts hinX5 hown hE.1 hP 0 rfl rfl 0 (by decide) (hts _ (List.mem_of_getElem? (i := 1) rfl)) (fun _ h9 => h9) rfl dX5_waitedInAll_6 ?_
    refine lv_iconst (v := 3) hx hb dX5_waitedInAll_9 (by decide) ?_
    refine va_iald hx hb hE.1 hP 1 0 rfl rfl (by unfold vp_in; decide : vp_in 3 84) dX5_waitedInAll_10 ?_
    refine lv_eqi (y := nw 3) rfl ?_
    refine lv_icmp_ge (tgt := 29) hx hb dX5_waitedInAll_11 (by decide) (fun c_1 => ?_) (fun c_1 => ?_)
    · have h := ifp c_1 h
      refine lv_iload_n hx hb dX5_waitedInAll_29 rfl (lv_at hl 1 rfl) ?_
      exact eRi C0 (Option.some.inj h) dX5_waitedInAll_30
    · have h := ifn c_1 h
      refine lv_iload_n hx hb dX5_waitedInAll_14 rfl (lv_at hl 1 rfl) ?_
      refine lv_aload_n hx hb dX5_waitedInAll_15 rfl (lv_at hl 0 rfl) ?_
      refine lv_iload_n hx hb dX5_waitedInAll_16 rfl (lv_at hl 2 rfl) ?_
      refine lv_iconst (v := 3) hx hb dX5_waitedInAll_17 (by decide) ?_
      obtain ⟨z_2, e_3, h⟩ := bds h
      have hPc := hP.sub (ws' := (wX5 cI cS a0 a1 a2 a3 a4 a5 a6 a7 a8 a9 a10 a11 nw kp ad fd tp kn it wd sz nm mv ik td bg en so va iw im st ht)) [0, 1, 2, 3, 4, 5, 6, 7, 8, 9, 10, 11] rfl
      refine kRi (rV C0 (tX5_shipIs l D cI cS a0 a1 a2 a3 a4 a5 a6 a7 a8 a9 a10 a11 nw kp ad fd tp kn it wd sz nm mv ik td bg en so va iw im st ht v2 3 z_2 e_3) RX5 gX5_waitedInAll_X5_shipIs rfl ⟨rfl, rfl⟩ pdX5_shipIs rfl ⟨Nat.le_of_ble_eq_true rfl, Nat.le_of_ble_eq_true rfl⟩ (fun _ _ _ _ q => q) (va_recv hE.1 hPc (ci := 4) (q0 := 0) rfl rfl) (fun U hU _ _ => by rw [hU]; exact hPc) hl.1 rfl (Nat.le_of_ble_eq_true rfl) dX5_waitedInAll_18 ⟨Nat.zero_le _, Nat.zero_le _⟩) ?_
      refine lv_iadd hx hb dX5_waitedInAll_21 ?_
      refine lv_istore_n (lv' := [(1, .int (v1 + z_2)), (0, .ref a0), (2, .int v2)]) hx hb dX5_waitedInAll_22 rfl hl (by decide) rfl (fun ls hl => ?_)
      refine lv_iinc (v := v2 + 1) (lv' := [(2, .int (v2 + 1)), (1, .int (v1 + z_2)), (0, .ref a0)]) hx hb dX5_waitedInAll_23 hl (k := 2) rfl rfl (by decide) rfl (fun ls hl => ?_)
      refine lv_goto (tgt := 4) hx hb dX5_waitedInAll_26 (by decide) ?_
      exact ih (v1 + z_2) (v2 + 1) _ (lv_sub hl [2, 1, 0] rfl) h
set_option maxHeartbeats 4000000 in
set_option maxRecDepth 100000 in
theorem tX5_waitedInAll (l : Launch) (D : va_G) (cI cS : ClassId) (F : Nat) (a0 a1 a2 a3 a4 a5 a6 a7 a8 a9 a10 a11 : Nat) (nw : Nat → Int32) (kp : Nat → Int32) (ad : Nat → Int32) (fd : Nat → Int32) (tp : Nat → Int32) (kn : Nat → Option Nat) (it : Nat → Int32) (wd : Nat → Int32) (sz : Nat → Int32) (nm : Nat → Int32) (mv : Nat → Int32) (ik : Int32) (td : Int32) (bg : Int32) (en : Int32) (so : Int32) (va : Int32) (iw : Int32) (im : Int32) (st : Int32) (ht : Int32) (z0 : Int32) (h : fX5_waitedInAll F nw = some z0) : Met l yX5_waitedInAll wsX5_waitedInAll rmX5_waitedInAll (PZ D cI cS [.ref a0] (fun U => va_P D vwCl (wX5 cI cS a0 a1 a2 a3 a4 a5 a6 a7 a8 a9 a10 a11 nw kp ad fd tp kn it wd sz nm mv ik td bg en so va iw im st ht) U.heap)) (vp_Si (fun x => x = z0)) 0 0 (fun _ => False) := by
  refine Met.mk RX5 (by decide) rfl rfl (Nat.le_of_ble_eq_true rfl) ?_
  intro p e s m below meth c ls C0 hP hl
  have hl : lv_has ls 3 [(0, .ref a0)] := hl
  obtain ⟨hx, hb, hr, hml, hown, hts, hlk, hE⟩ := id C0
  have hinX5 : ∀ w ∈ u_ws RX5 TX5 21, w ∈ wsX5_waitedInAll := by decide +kernel
  rw [fX5_waitedInAll] at h
  refine lv_iconst (v := 0) hx hb dX5_waitedInAll_0 (by decide) ?_
  refine lv_istore_n (lv' := [(1, .int 0), (0, .ref a0)]) hx hb dX5_waitedInAll_1 rfl hl (by decide) rfl (fun ls hl => ?_)
  refine lv_iconst (v := 0) hx hb dX5_waitedInAll_2 (by decide) ?_
  refine lv_istore_n (lv' := [(2, .int 0), (1, .int 0), (0, .ref a0)]) hx hb dX5_waitedInAll_3 rfl hl (by decide) rfl (fun ls hl => ?_)
  exact lX5_waitedInAll_4 (l := l) (e := e) (below := below) C0 F nw kp ad fd tp kn it wd sz nm mv ik td bg en so va iw im st ht z0 hP F 0 0 _ (lv_sub hl [2, 1, 0] rfl) h
def fX5_thickestCell_4 (F : Nat) (nw : Nat → Int32) : Nat → Int32 → Int32 → Option (Int32)
  | 0, _, _ => none
  | n + 1, v1, v2 => (if 16 ≤ v2 then some v1 else Option.bind (fX5_thickAt F nw v2) (fun z_2 => Option.bind (fX5_thickAt F nw v1) (fun z_4 => (if z_2 ≤ z_4 then fX5_thickestCell_4 F nw n v1 (v2 + 1) else fX5_thickestCell_4 F nw n v2 (v2 + 1)))))
def fX5_thickestCell (F : Nat) (nw : Nat → Int32) : Option (Int32) := fX5_thickestCell_4 F nw F 0 1
abbrev rmX5_thickestCell : Room := { frames := 4, cells := 0, slots := 0, locals := 91 }
theorem pdX5_thickestCell : (yX5_thickestCell.cls = RX5 ∧ yX5_thickestCell.cls ≠ "java/lang/invoke/MethodHandle" ∧ yX5_thickestCell.cls ≠ "java/lang/invoke/VarHandle" ∧ (parseMethodDescriptor yX5_thickestCell.desc).map (fun d => d.parameters.length) = some 0) := by decide +kernel
set_option maxHeartbeats 4000000 in
set_option maxRecDepth 100000 in
theorem lX5_thickestCell_4 {p : Program} {l : Launch} {e : Env} {s : State} {m : MethodId} {av : Array Value} {below : List Frame} {meth : Method} {c : Code} {D : va_G} {cI cS : ClassId} {a0 a1 a2 a3 a4 a5 a6 a7 a8 a9 a10 a11 : Nat} (C0 : CX p s m av meth c RX5 cX5_thickestCell 3 (some .int) wsX5_thickestCell D cI cS) (F : Nat) (nw : Nat → Int32) (kp : Nat → Int32) (ad : Nat → Int32) (fd : Nat → Int32) (tp : Nat → Int32) (kn : Nat → Option Nat) (it : Nat → Int32) (wd : Nat → Int32) (sz : Nat → Int32) (nm : Nat → Int32) (mv : Nat → Int32) (ik : Int32) (td : Int32) (bg : Int32) (en : Int32) (so : Int32) (va : Int32) (iw : Int32) (im : Int32) (st : Int32) (ht : Int32) (z0 : Int32) (hP : va_P D vwCl (wX5 cI cS a0 a1 a2 a3 a4 a5 a6 a7 a8 a9 a10 a11 nw kp ad fd tp kn it wd sz nm mv ik td bg en so va iw im st ht) s.heap) : ∀ (n : Nat) (v1 : Int32) (v2 : Int32), ∀ (ls : Array Slot), lv_has ls 3 [(0, .ref a0), (1, .int v1), (2, .int v2)] → fX5_thickestCell_4 F nw n v1 v2 = some z0 → W p l e rmX5_thickestCell s m av below meth c s.heap [] 0 0 (MQ below (vp_Si (fun x => x = z0)) av s 0 0 (fun _ => False)) (F0 m 4 ls []) := by
  obtain ⟨hx, hb, hr, hml, hown, hts, hlk, hE⟩ := id C0
  intro n
  induction n with
  | zero =>
    intro v1 v2 ls hl h
    cases (show none = some z0 from h)
  | succ n ih =>
    intro v1 v2 ls hl h
    rw [fX5_thickestCell_4] at h
    refine lv_iload_n hx hb dX5_thickestCell_4 rfl (lv_at hl 2 rfl) ?_
    refine lv_bipush (v := 16) hx hb dX5_thickestCell_5 (by decide) ?_
    refine lv_icmp_ge (tgt := 35) hx hb dX5_thickestCell_7 (by decide) (fun c_1 => ?_) (fun c_1 => ?_)
    · have h := ifp c_1 h
      refine lv_iload_n hx hb dX5_thickestCell_35 rfl (lv_at hl 1 rfl) ?_
      exact eRi C0 (Option.some.inj h) dX5_thickestCell_36
    · have h := ifn c_1 h
      refine lv_aload_n hx hb dX5_thickestCell_10 rfl (lv_at hl 0 rfl) ?_
      refine lv_iload_n hx hb dX5_thickestCell_11 rfl (lv_at hl 2 rfl) ?_
      obtain ⟨z_2, e_3, h⟩ := bds h
      have hPc := hP.sub (ws' := (wX5 cI cS a0 a1 a2 a3 a4 a5 a6 a7 a8 a9 a10 a11 nw kp ad fd tp kn it wd sz nm mv ik td bg en so va iw im st ht)) [0, 1, 2, 3, 4, 5, 6, 7, 8, 9, 10, 11] rfl
      refine kRi (rV C0 (tX5_thickAt l D cI cS F a0 a1 a2 a3 a4 a5 a6 a7 a8 a9 a10 a11 nw kp ad fd tp kn it wd sz nm mv ik td bg en so va iw im st ht v2 z_2 e_3) RX5 gX5_thickestCell_X5_thickAt rfl ⟨rfl, rfl⟩ pdX5_thickAt rfl ⟨Nat.le_of_ble_eq_true rfl, Nat.le_of_ble_eq_true rfl⟩ (fun _ _ _ _ q => q) (va_recv hE.1 hPc (ci := 4) (q0 := 0) rfl rfl) (fun U hU _ _ => by rw [hU]; exact hPc) hl.1 rfl (Nat.le_of_ble_eq_true rfl) dX5_thickestCell_12 ⟨Nat.zero_le _, Nat.zero_le _⟩) ?_
      refine lv_aload_n hx hb dX5_thickestCell_15 rfl (lv_at hl 0 rfl) ?_
      refine lv_iload_n hx hb dX5_thickestCell_16 rfl (lv_at hl 1 rfl) ?_
      obtain ⟨z_4, e_5, h⟩ := bds h
      have hPc := hP.sub (ws' := (wX5 cI cS a0 a1 a2 a3 a4 a5 a6 a7 a8 a9 a10 a11 nw kp ad fd tp kn it wd sz nm mv ik td bg en so va iw im st ht)) [0, 1, 2, 3, 4, 5, 6, 7, 8, 9, 10, 11] rfl
      refine kRi (rV C0 (tX5_thickAt l D cI cS F a0 a1 a2 a3 a4 a5 a6 a7 a8 a9 a10 a11 nw kp ad fd tp kn it wd sz nm mv ik td bg en so va iw im st ht v1 z_4 e_5) RX5 gX5_thickestCell_X5_thickAt rfl ⟨rfl, rfl⟩ pdX5_thickAt rfl ⟨Nat.le_of_ble_eq_true rfl, Nat.le_of_ble_eq_true rfl⟩ (fun _ _ _ _ q => q) (va_recv hE.1 hPc (ci := 4) (q0 := 0) rfl rfl) (fun U hU _ _ => by rw [hU]; exact hPc) hl.1 rfl (Nat.le_of_ble_eq_true rfl) dX5_thickestCell_17 ⟨Nat.zero_le _, Nat.zero_le _⟩) ?_
      refine lv_icmp_le (tgt := 27) hx hb dX5_thickestCell_20 (by decide) (fun c_6 => ?_) (fun c_6 => ?_)
      · have h := ifp c_6 h
        refine lv_iload_n hx hb dX5_thickestCell_27 rfl (lv_at hl 1 rfl) ?_
        refine lv_istore_n (lv' := [(1, .int v1), (0, .ref a0), (2, .int v2)]) hx hb dX5_thickestCell_28 rfl hl (by decide) rfl (fun ls hl => ?_)
        refine lv_iinc (v := v2 + 1) (lv' := [(2, .int (v2 + 1)), (1, .int v1), (0, .ref a0)]) hx hb dX5_thickestCell_29 hl (k := 2) rfl rfl (by decide) rfl (fun ls hl => ?_)
        refine lv_goto (tgt := 4) hx hb dX5_thickestCell_32 (by decide) ?_
        exact ih v1 (v2 + 1) _ (lv_sub hl [2, 1, 0] rfl) h
      · have h := ifn c_6 h
        refine lv_iload_n hx hb dX5_thickestCell_23 rfl (lv_at hl 2 rfl) ?_
        refine lv_goto (tgt := 28) hx hb dX5_thickestCell_24 (by decide) ?_
        refine lv_istore_n (lv' := [(1, .int v2), (0, .ref a0), (2, .int v2)]) hx hb dX5_thickestCell_28 rfl hl (by decide) rfl (fun ls hl => ?_)
        refine lv_iinc (v := v2 + 1) (lv' := [(2, .int (v2 + 1)), (1, .int v2), (0, .ref a0)]) hx hb dX5_thickestCell_29 hl (k := 2) rfl rfl (by decide) rfl (fun ls hl => ?_)
        refine lv_goto (tgt := 4) hx hb dX5_thickestCell_32 (by decide) ?_
        exact ih v2 (v2 + 1) _ (lv_sub hl [2, 1, 0] rfl) h
set_option maxHeartbeats 4000000 in
set_option maxRecDepth 100000 in
theorem tX5_thickestCell (l : Launch) (D : va_G) (cI cS : ClassId) (F : Nat) (a0 a1 a2 a3 a4 a5 a6 a7 a8 a9 a10 a11 : Nat) (nw : Nat → Int32) (kp : Nat → Int32) (ad : Nat → Int32) (fd : Nat → Int32) (tp : Nat → Int32) (kn : Nat → Option Nat) (it : Nat → Int32) (wd : Nat → Int32) (sz : Nat → Int32) (nm : Nat → Int32) (mv : Nat → Int32) (ik : Int32) (td : Int32) (bg : Int32) (en : Int32) (so : Int32) (va : Int32) (iw : Int32) (im : Int32) (st : Int32) (ht : Int32) (z0 : Int32) (h : fX5_thickestCell F nw = some z0) : Met l yX5_thickestCell wsX5_thickestCell rmX5_thickestCell (PZ D cI cS [.ref a0] (fun U => va_P D vwCl (wX5 cI cS a0 a1 a2 a3 a4 a5 a6 a7 a8 a9 a10 a11 nw kp ad fd tp kn it wd sz nm mv ik td bg en so va iw im st ht) U.heap)) (vp_Si (fun x => x = z0)) 0 0 (fun _ => False) := by
  refine Met.mk RX5 (by decide) rfl rfl (Nat.le_of_ble_eq_true rfl) ?_
  intro p e s m below meth c ls C0 hP hl
  have hl : lv_has ls 3 [(0, .ref a0)] := hl
  obtain ⟨hx, hb, hr, hml, hown, hts, hlk, hE⟩ := id C0
  rw [fX5_thickestCell] at h
  refine lv_iconst (v := 0) hx hb dX5_thickestCell_0 (by decide) ?_
  refine lv_istore_n (lv' := [(1, .int 0), (0, .ref a0)]) hx hb dX5_thickestCell_1 rfl hl (by decide) rfl (fun ls hl => ?_)
  refine lv_iconst (v := 1) hx hb dX5_thickestCell_2 (by decide) ?_
  refine lv_istore_n (lv' := [(2, .int 1), (1, .int 0), (0, .ref a0)]) hx hb dX5_thickestCell_3 rfl hl (by decide) rfl (fun ls hl => ?_)
  exact lX5_thickestCell_4 (l := l) (e := e) (below := below) C0 F nw kp ad fd tp kn it wd sz nm mv ik td bg en so va iw im st ht z0 hP F 0 1 _ (lv_sub hl [2, 1, 0] rfl) h
def fX5_clearCells_4 (F : Nat) (nw : Nat → Int32) : Nat → Int32 → Int32 → Option (Int32)
  | 0, _, _ => none
  | n + 1, v1, v2 => (if 16 ≤ v2 then some v1 else Option.bind (fX5_thickAt F nw v2) (fun z_2 => (if z_2 = 0 then fX5_clearCells_4 F nw n (v1 ||| (1 <<< (v2 &&& 31))) (v2 + 1) else fX5_clearCells_4 F nw n (v1 ||| 0) (v2 + 1))))
def fX5_clearCells (F : Nat) (nw : Nat → Int32) : Option (Int32) := fX5_clearCells_4 F nw F 0 0
abbrev rmX5_clearCells : Room := { frames := 4, cells := 0, slots := 0, locals := 91 }
theorem pdX5_clearCells : (yX5_clearCells.cls = RX5 ∧ yX5_clearCells.cls ≠ "java/lang/invoke/MethodHandle" ∧ yX5_clearCells.cls ≠ "java/lang/invoke/VarHandle" ∧ (parseMethodDescriptor yX5_clearCells.desc).map (fun d => d.parameters.length) = some 0) := by decide +kernel
set_option maxHeartbeats 4000000 in
set_option maxRecDepth 100000 in
theorem lX5_clearCells_4 {p : Program} {l : Launch} {e : Env} {s : State} {m : MethodId} {av : Array Value} {below : List Frame} {meth : Method} {c : Code} {D : va_G} {cI cS : ClassId} {a0 a1 a2 a3 a4 a5 a6 a7 a8 a9 a10 a11 : Nat} (C0 : CX p s m av meth c RX5 cX5_clearCells 3 (some .int) wsX5_clearCells D cI cS) (F : Nat) (nw : Nat → Int32) (kp : Nat → Int32) (ad : Nat → Int32) (fd : Nat → Int32) (tp : Nat → Int32) (kn : Nat → Option Nat) (it : Nat → Int32) (wd : Nat → Int32) (sz : Nat → Int32) (nm : Nat → Int32) (mv : Nat → Int32) (ik : Int32) (td : Int32) (bg : Int32) (en : Int32) (so : Int32) (va : Int32) (iw : Int32) (im : Int32) (st : Int32) (ht : Int32) (z0 : Int32) (hP : va_P D vwCl (wX5 cI cS a0 a1 a2 a3 a4 a5 a6 a7 a8 a9 a10 a11 nw kp ad fd tp kn it wd sz nm mv ik td bg en so va iw im st ht) s.heap) : ∀ (n : Nat) (v1 : Int32) (v2 : Int32), ∀ (ls : Array Slot), lv_has ls 3 [(0, .ref a0), (1, .int v1), (2, .int v2)] → fX5_clearCells_4 F nw n v1 v2 = some z0 → W p l e rmX5_clearCells s m av below meth c s.heap [] 0 0 (MQ below (vp_Si (fun x => x = z0)) av s 0 0 (fun _ => False)) (F0 m 4 ls []) := by
  obtain ⟨hx, hb, hr, hml, hown, hts, hlk, hE⟩ := id C0
  intro n
  induction n with
  | zero =>
    intro v1 v2 ls hl h
    cases (show none = some z0 from h)
  | succ n ih =>
    intro v1 v2 ls hl h
    rw [fX5_clearCells_4] at h
    refine lv_iload_n hx hb dX5_clearCells_4 rfl (lv_at hl 2 rfl) ?_
    refine lv_bipush (v := 16) hx hb dX5_clearCells_5 (by decide) ?_
    refine lv_icmp_ge (tgt := 34) hx hb dX5_clearCells_7 (by decide) (fun c_1 => ?_) (fun c_1 => ?_)
    · have h := ifp c_1 h
      refine lv_iload_n hx hb dX5_clearCells_34 rfl (lv_at hl 1 rfl) ?_
      exact eRi C0 (Option.some.inj h) dX5_clearCells_35
    · have h := ifn c_1 h
      refine lv_iload_n hx hb dX5_clearCells_10 rfl (lv_at hl 1 rfl) ?_
      refine lv_aload_n hx hb dX5_clearCells_11 rfl (lv_at hl 0 rfl) ?_
      refine lv_iload_n hx hb dX5_clearCells_12 rfl (lv_at hl 2 rfl) ?_
      obtain ⟨z_2, e_3, h⟩ := bds h
      have hPc := hP.sub (ws' := (wX5 cI cS a0 a1 a2 a3 a4 a5 a6 a7 a8 a9 a10 a11 nw kp ad fd tp kn it wd sz nm mv ik td bg en so va iw im st ht)) [0, 1, 2, 3, 4, 5, 6, 7, 8, 9, 10, 11] rfl
      refine kRi (rV C0 (tX5_thickAt l D cI cS F a0 a1 a2 a3 a4 a5 a6 a7 a8 a9 a10 a11 nw kp ad fd tp kn it wd sz nm mv ik td bg en so va iw im st ht v2 z_2 e_3) RX5 gX5_clearCells_X5_thickAt rfl ⟨rfl, rfl⟩ pdX5_thickAt rfl ⟨Nat.le_of_ble_eq_true rfl, Nat.le_of_ble_eq_true rfl⟩ (fun _ _ _ _ q => q) (va_recv hE.1 hPc (ci := 4) (q0 := 0) rfl rfl) (fun U hU _ _ => by rw [hU]; exact hPc) hl.1 rfl (Nat.le_of_ble_eq_true rfl) dX5_clearCells_13 ⟨Nat.zero_le _, Nat.zero_le _⟩) ?_
      refine lv_if_ne (tgt := 25) hx hb dX5_clearCells_16 (by decide) (fun c_4 => ?_) (fun c_4 => ?_)
      · have h := ifn c_4 h
        refine lv_iconst (v := 0) hx hb dX5_clearCells_25 (by decide) ?_
        refine lv_ior hx hb dX5_clearCells_26 ?_
        refine lv_istore_n (lv' := [(1, .int (v1 ||| 0)), (0, .ref a0), (2, .int v2)]) hx hb dX5_clearCells_27 rfl hl (by decide) rfl (fun ls hl => ?_)
        refine lv_iinc (v := v2 + 1) (lv' := [(2, .int (v2 + 1)), (1, .int (v1 ||| 0)), (0, .ref a0)]) hx hb dX5_clearCells_28 hl (k := 2) rfl rfl (by decide) rfl (fun ls hl => ?_)
        refine lv_goto (tgt := 4) hx hb dX5_clearCells_31 (by decide) ?_
        exact ih (v1 ||| 0) (v2 + 1) _ (lv_sub hl [2, 1, 0] rfl) h
      · have h := ifp c_4 h
        refine lv_iconst (v := 1) hx hb dX5_clearCells_19 (by decide) ?_
        refine lv_iload_n hx hb dX5_clearCells_20 rfl (lv_at hl 2 rfl) ?_
        refine lv_ishl hx hb dX5_clearCells_21 ?_
        refine lv_goto (tgt := 26) hx hb dX5_clearCells_22 (by decide) ?_
        refine lv_ior hx hb dX5_clearCells_26 ?_
        refine lv_istore_n (lv' := [(1, .int (v1 ||| (1 <<< (v2 &&& 31)))), (0, .ref a0), (2, .int v2)]) hx hb dX5_clearCells_27 rfl hl (by decide) rfl (fun ls hl => ?_)
        refine lv_iinc (v := v2 + 1) (lv' := [(2, .int (v2 + 1)), (1, .int (v1 ||| (1 <<< (v2 &&& 31)))), (0, .ref a0)]) hx hb dX5_clearCells_28 hl (k := 2) rfl rfl (by decide) rfl (fun ls hl => ?_)
        refine lv_goto (tgt := 4) hx hb dX5_clearCells_31 (by decide) ?_
        exact ih (v1 ||| (1 <<< (v2 &&& 31))) (v2 + 1) _ (lv_sub hl [2, 1, 0] rfl) h
set_option maxHeartbeats 4000000 in
set_option maxRecDepth 100000 in
theorem tX5_clearCells (l : Launch) (D : va_G) (cI cS : ClassId) (F : Nat) (a0 a1 a2 a3 a4 a5 a6 a7 a8 a9 a10 a11 : Nat) (nw : Nat → Int32) (kp : Nat → Int32) (ad : Nat → Int32) (fd : Nat → Int32) (tp : Nat → Int32) (kn : Nat → Option Nat) (it : Nat → Int32) (wd : Nat → Int32) (sz : Nat → Int32) (nm : Nat → Int32) (mv : Nat → Int32) (ik : Int32) (td : Int32) (bg : Int32) (en : Int32) (so : Int32) (va : Int32) (iw : Int32) (im : Int32) (st : Int32) (ht : Int32) (z0 : Int32) (h : fX5_clearCells F nw = some z0) : Met l yX5_clearCells wsX5_clearCells rmX5_clearCells (PZ D cI cS [.ref a0] (fun U => va_P D vwCl (wX5 cI cS a0 a1 a2 a3 a4 a5 a6 a7 a8 a9 a10 a11 nw kp ad fd tp kn it wd sz nm mv ik td bg en so va iw im st ht) U.heap)) (vp_Si (fun x => x = z0)) 0 0 (fun _ => False) := by
  refine Met.mk RX5 (by decide) rfl rfl (Nat.le_of_ble_eq_true rfl) ?_
  intro p e s m below meth c ls C0 hP hl
  have hl : lv_has ls 3 [(0, .ref a0)] := hl
  obtain ⟨hx, hb, hr, hml, hown, hts, hlk, hE⟩ := id C0
  rw [fX5_clearCells] at h
  refine lv_iconst (v := 0) hx hb dX5_clearCells_0 (by decide) ?_
  refine lv_istore_n (lv' := [(1, .int 0), (0, .ref a0)]) hx hb dX5_clearCells_1 rfl hl (by decide) rfl (fun ls hl => ?_)
  refine lv_iconst (v := 0) hx hb dX5_clearCells_2 (by decide) ?_
  refine lv_istore_n (lv' := [(2, .int 0), (1, .int 0), (0, .ref a0)]) hx hb dX5_clearCells_3 rfl hl (by decide) rfl (fun ls hl => ?_)
  exact lX5_clearCells_4 (l := l) (e := e) (below := below) C0 F nw kp ad fd tp kn it wd sz nm mv ik td bg en so va iw im st ht z0 hP F 0 0 _ (lv_sub hl [2, 1, 0] rfl) h
def fX5_goingOnes_4 (F : Nat) (nw : Nat → Int32) : Nat → Int32 → Int32 → Option (Int32)
  | 0, _, _ => none
  | n + 1, v1, v2 => (if (nw 3) ≤ v2 then some v1 else Option.bind (fX5_shipIs nw v2 0) (fun z_2 => Option.bind (fX5_wouldGoAt F nw v2 z_2) (fun z_4 => (if z_4 = 0 then fX5_goingOnes_4 F nw n (v1 ||| 0) (v2 + 1) else fX5_goingOnes_4 F nw n (v1 ||| (1 <<< (v2 &&& 31))) (v2 + 1)))))
def fX5_goingOnes (F : Nat) (nw : Nat → Int32) : Option (Int32) := fX5_goingOnes_4 F nw F 0 0
abbrev rmX5_goingOnes : Room := { frames := 5, cells := 0, slots := 0, locals := 113 }
theorem pdX5_goingOnes : (yX5_goingOnes.cls = RX5 ∧ yX5_goingOnes.cls ≠ "java/lang/invoke/MethodHandle" ∧ yX5_goingOnes.cls ≠ "java/lang/invoke/VarHandle" ∧ (parseMethodDescriptor yX5_goingOnes.desc).map (fun d => d.parameters.length) = some 0) := by decide +kernel
set_option maxHeartbeats 4000000 in
set_option maxRecDepth 100000 in
theorem lX5_goingOnes_4 {p : Program} {l : Launch} {e : Env} {s : State} {m : MethodId} {av : Array Value} {below : List Frame} {meth : Method} {c : Code} {D : va_G} {cI cS : ClassId} {a0 a1 a2 a3 a4 a5 a6 a7 a8 a9 a10 a11 : Nat} (C0 : CX p s m av meth c RX5 cX5_goingOnes 3 (some .int) wsX5_goingOnes D cI cS) (F : Nat) (nw : Nat → Int32) (kp : Nat → Int32) (ad : Nat → Int32) (fd : Nat → Int32) (tp : Nat → Int32) (kn : Nat → Option Nat) (it : Nat → Int32) (wd : Nat → Int32) (sz : Nat → Int32) (nm : Nat → Int32) (mv : Nat → Int32) (ik : Int32) (td : Int32) (bg : Int32) (en : Int32) (so : Int32) (va : Int32) (iw : Int32) (im : Int32) (st : Int32) (ht : Int32) (z0 : Int32) (hP : va_P D vwCl (wX5 cI cS a0 a1 a2 a3 a4 a5 a6 a7 a8 a9 a10 a11 nw kp ad fd tp kn it wd sz nm mv ik td bg en so va iw im st ht) s.heap) : ∀ (n : Nat) (v1 : Int32) (v2 : Int32), ∀ (ls : Array Slot), lv_has ls 3 [(0, .ref a0), (1, .int v1), (2, .int v2)] → fX5_goingOnes_4 F nw n v1 v2 = some z0 → W p l e rmX5_goingOnes s m av below meth c s.heap [] 0 0 (MQ below (vp_Si (fun x => x = z0)) av s 0 0 (fun _ => False)) (F0 m 4 ls []) := by
  obtain ⟨hx, hb, hr, hml, hown, hts, hlk, hE⟩ := id C0
  have hinX5 : ∀ w ∈ u_ws RX5 TX5 21, w ∈ wsX5_goingOnes := by decide +kernel
  intro n
  induction n with
  | zero =>
    intro v1 v2 ls hl h
    cases (show none = some z0 from h)
  | succ n ih =>
    intro v1 v2 ls hl h
    rw [fX5_goingOnes_4] at h
    refine lv_iload_n hx hb dX5_goingOnes_4 rfl (lv_at hl 2 rfl) ?_
    refine lv_aload_n hx hb dX5_goingOnes_5 rfl (lv_at hl 0 rfl) ?_
    refine va_get (D := D) (ci := 4) (v := .ref a1) (C := RX5) (T := TX5) (N := 21) hx hb hts hinX5 hown hE.1 hP 0 rfl rfl 0 (by decide) (hts _ (List.mem_of_getElem? (i := 1) rfl)) (fun _ h9 => h9) rfl dX5_goingOnes_6 ?_
    refine lv_iconst (v := 3) hx hb dX5_goingOnes_9 (by decide) ?_
    refine va_iald hx hb hE.1 hP 1 0 rfl rfl (by unfold vp_in; decide : vp_in 3 84) dX5_goingOnes_10 ?_
    refine lv_eqi (y := nw 3) rfl ?_
    refine lv_icmp_ge (tgt := 44) hx hb dX5_goingOnes_11 (by decide) (fun c_1 => ?_) (fun c_1 => ?_)
    · have h := ifp c_1 h
      refine lv_iload_n hx hb dX5_goingOnes_44 rfl (lv_at hl 1 rfl) ?_
      exact eRi C0 (Option.some.inj h) dX5_goingOnes_45
    · have h := ifn c_1 h
      refine lv_iload_n hx hb dX5_goingOnes_14 rfl (lv_at hl 1 rfl) ?_
      refine lv_aload_n hx hb dX5_goingOnes_15 rfl (lv_at hl 0 rfl) ?_
      refine lv_iload_n hx hb dX5_goingOnes_16 rfl (lv_at hl 2 rfl) ?_
      refine lv_aload_n hx hb dX5_goingOnes_17 rfl (lv_at hl 0 rfl) ?_
      refine lv_iload_n hx hb dX5_goingOnes_18 rfl (lv_at hl 2 rfl) ?_
      refine lv_iconst (v := 0) hx hb dX5_goingOnes_19 (by decide) ?_
      obtain ⟨z_2, e_3, h⟩ := bds h
      have hPc := hP.sub (ws' := (wX5 cI cS a0 a1 a2 a3 a4 a5 a6 a7 a8 a9 a10 a11 nw kp ad fd tp kn it wd sz nm mv ik td bg en so va iw im st ht)) [0, 1, 2, 3, 4, 5, 6, 7, 8, 9, 10, 11] rfl
      refine kRi (rV C0 (tX5_shipIs l D cI cS a0 a1 a2 a3 a4 a5 a6 a7 a8 a9 a10 a11 nw kp ad fd tp kn it wd sz nm mv ik td bg en so va iw im st ht v2 0 z_2 e_3) RX5 gX5_goingOnes_X5_shipIs rfl ⟨rfl, rfl⟩ pdX5_shipIs rfl ⟨Nat.le_of_ble_eq_true rfl, Nat.le_of_ble_eq_true rfl⟩ (fun _ _ _ _ q => q) (va_recv hE.1 hPc (ci := 4) (q0 := 0) rfl rfl) (fun U hU _ _ => by rw [hU]; exact hPc) hl.1 rfl (Nat.le_of_ble_eq_true rfl) dX5_goingOnes_20 ⟨Nat.zero_le _, Nat.zero_le _⟩) ?_
      obtain ⟨z_4, e_5, h⟩ := bds h
      have hPc := hP.sub (ws' := (wX5 cI cS a0 a1 a2 a3 a4 a5 a6 a7 a8 a9 a10 a11 nw kp ad fd tp kn it wd sz nm mv ik td bg en so va iw im st ht)) [0, 1, 2, 3, 4, 5, 6, 7, 8, 9, 10, 11] rfl
      refine kRi (rV C0 (tX5_wouldGoAt l D cI cS F a0 a1 a2 a3 a4 a5 a6 a7 a8 a9 a10 a11 nw kp ad fd tp kn it wd sz nm mv ik td bg en so va iw im st ht v2 z_2 z_4 e_5) RX5 gX5_goingOnes_X5_wouldGoAt rfl ⟨rfl, rfl⟩ pdX5_wouldGoAt rfl ⟨Nat.le_of_ble_eq_true rfl, Nat.le_of_ble_eq_true rfl⟩ (fun _ _ _ _ q => q) (va_recv hE.1 hPc (ci := 4) (q0 := 0) rfl rfl) (fun U hU _ _ => by rw [hU]; exact hPc) hl.1 rfl (Nat.le_of_ble_eq_true rfl) dX5_goingOnes_23 ⟨Nat.zero_le _, Nat.zero_le _⟩) ?_
      refine lv_if_eq (tgt := 35) hx hb dX5_goingOnes_26 (by decide) (fun c_6 => ?_) (fun c_6 => ?_)
      · have h := ifp c_6 h
        refine lv_iconst (v := 0) hx hb dX5_goingOnes_35 (by decide) ?_
        refine lv_ior hx hb dX5_goingOnes_36 ?_
        refine lv_istore_n (lv' := [(1, .int (v1 ||| 0)), (0, .ref a0), (2, .int v2)]) hx hb dX5_goingOnes_37 rfl hl (by decide) rfl (fun ls hl => ?_)
        refine lv_iinc (v := v2 + 1) (lv' := [(2, .int (v2 + 1)), (1, .int (v1 ||| 0)), (0, .ref a0)]) hx hb dX5_goingOnes_38 hl (k := 2) rfl rfl (by decide) rfl (fun ls hl => ?_)
        refine lv_goto (tgt := 4) hx hb dX5_goingOnes_41 (by decide) ?_
        exact ih (v1 ||| 0) (v2 + 1) _ (lv_sub hl [2, 1, 0] rfl) h
      · have h := ifn c_6 h
        refine lv_iconst (v := 1) hx hb dX5_goingOnes_29 (by decide) ?_
        refine lv_iload_n hx hb dX5_goingOnes_30 rfl (lv_at hl 2 rfl) ?_
        refine lv_ishl hx hb dX5_goingOnes_31 ?_
        refine lv_goto (tgt := 36) hx hb dX5_goingOnes_32 (by decide) ?_
        refine lv_ior hx hb dX5_goingOnes_36 ?_
        refine lv_istore_n (lv' := [(1, .int (v1 ||| (1 <<< (v2 &&& 31)))), (0, .ref a0), (2, .int v2)]) hx hb dX5_goingOnes_37 rfl hl (by decide) rfl (fun ls hl => ?_)
        refine lv_iinc (v := v2 + 1) (lv' := [(2, .int (v2 + 1)), (1, .int (v1 ||| (1 <<< (v2 &&& 31)))), (0, .ref a0)]) hx hb dX5_goingOnes_38 hl (k := 2) rfl rfl (by decide) rfl (fun ls hl => ?_)
        refine lv_goto (tgt := 4) hx hb dX5_goingOnes_41 (by decide) ?_
        exact ih (v1 ||| (1 <<< (v2 &&& 31))) (v2 + 1) _ (lv_sub hl [2, 1, 0] rfl) h
set_option maxHeartbeats 4000000 in
set_option maxRecDepth 100000 in
theorem tX5_goingOnes (l : Launch) (D : va_G) (cI cS : ClassId) (F : Nat) (a0 a1 a2 a3 a4 a5 a6 a7 a8 a9 a10 a11 : Nat) (nw : Nat → Int32) (kp : Nat → Int32) (ad : Nat → Int32) (fd : Nat → Int32) (tp : Nat → Int32) (kn : Nat → Option Nat) (it : Nat → Int32) (wd : Nat → Int32) (sz : Nat → Int32) (nm : Nat → Int32) (mv : Nat → Int32) (ik : Int32) (td : Int32) (bg : Int32) (en : Int32) (so : Int32) (va : Int32) (iw : Int32) (im : Int32) (st : Int32) (ht : Int32) (z0 : Int32) (h : fX5_goingOnes F nw = some z0) : Met l yX5_goingOnes wsX5_goingOnes rmX5_goingOnes (PZ D cI cS [.ref a0] (fun U => va_P D vwCl (wX5 cI cS a0 a1 a2 a3 a4 a5 a6 a7 a8 a9 a10 a11 nw kp ad fd tp kn it wd sz nm mv ik td bg en so va iw im st ht) U.heap)) (vp_Si (fun x => x = z0)) 0 0 (fun _ => False) := by
  refine Met.mk RX5 (by decide) rfl rfl (Nat.le_of_ble_eq_true rfl) ?_
  intro p e s m below meth c ls C0 hP hl
  have hl : lv_has ls 3 [(0, .ref a0)] := hl
  obtain ⟨hx, hb, hr, hml, hown, hts, hlk, hE⟩ := id C0
  have hinX5 : ∀ w ∈ u_ws RX5 TX5 21, w ∈ wsX5_goingOnes := by decide +kernel
  rw [fX5_goingOnes] at h
  refine lv_iconst (v := 0) hx hb dX5_goingOnes_0 (by decide) ?_
  refine lv_istore_n (lv' := [(1, .int 0), (0, .ref a0)]) hx hb dX5_goingOnes_1 rfl hl (by decide) rfl (fun ls hl => ?_)
  refine lv_iconst (v := 0) hx hb dX5_goingOnes_2 (by decide) ?_
  refine lv_istore_n (lv' := [(2, .int 0), (1, .int 0), (0, .ref a0)]) hx hb dX5_goingOnes_3 rfl hl (by decide) rfl (fun ls hl => ?_)
  exact lX5_goingOnes_4 (l := l) (e := e) (below := below) C0 F nw kp ad fd tp kn it wd sz nm mv ik td bg en so va iw im st ht z0 hP F 0 0 _ (lv_sub hl [2, 1, 0] rfl) h
def fX5_now (F : Nat) (nw : Nat → Int32) (fd : Nat → Int32) (v1 : Int32) : Option (Int32 × (Nat → Int32)) := (if v1 = 0 then some (nw 0, fd) else if v1 = 1 then Option.bind (fX5_inPort F nw) (fun z_3 => some (z_3, fd)) else if v1 = 2 then Option.bind (fX5_finishedOnes F nw) (fun z_6 => some (z_6, fd)) else if v1 = 3 then Option.bind (fX5_vagueInAll F nw) (fun z_9 => some (z_9, fd)) else if v1 = 4 then Option.bind (fX5_waitedInAll F nw) (fun z_12 => some (z_12, fd)) else if v1 = 5 then Option.bind (fX5_thickestCell F nw) (fun z_15 => some (z_15, fd)) else if v1 = 6 then Option.bind (fX5_clearCells F nw) (fun z_18 => some (z_18, fd)) else if v1 = 7 then Option.bind (fX5_goingOnes F nw) (fun z_21 => some (z_21, fd)) else Option.bind (fX5_finding fd (-1000001)) (fun z_23 => some (z_23.1, z_23.2)))
abbrev rmX5_now : Room := { frames := 6, cells := 0, slots := 0, locals := 135 }
theorem pdX5_now : (yX5_now.cls = RX5 ∧ yX5_now.cls ≠ "java/lang/invoke/MethodHandle" ∧ yX5_now.cls ≠ "java/lang/invoke/VarHandle" ∧ (parseMethodDescriptor yX5_now.desc).map (fun d => d.parameters.length) = some 1) := by decide +kernel
set_option maxHeartbeats 4000000 in
set_option maxRecDepth 100000 in
theorem tX5_now (l : Launch) (D : va_G) (cI cS : ClassId) (F : Nat) (a0 a1 a2 a3 a4 a5 a6 a7 a8 a9 a10 a11 : Nat) (nw : Nat → Int32) (kp : Nat → Int32) (ad : Nat → Int32) (fd : Nat → Int32) (tp : Nat → Int32) (kn : Nat → Option Nat) (it : Nat → Int32) (wd : Nat → Int32) (sz : Nat → Int32) (nm : Nat → Int32) (mv : Nat → Int32) (ik : Int32) (td : Int32) (bg : Int32) (en : Int32) (so : Int32) (va : Int32) (iw : Int32) (im : Int32) (st : Int32) (ht : Int32) (v1 : Int32) (z0 : Int32) (z1 : Nat → Int32) (h : fX5_now F nw fd v1 = some (z0, z1)) (hD0 : va_D (fun _ => True) (wX5 cI cS a0 a1 a2 a3 a4 a5 a6 a7 a8 a9 a10 a11 nw kp ad fd tp kn it wd sz nm mv ik td bg en so va iw im st ht)) : Met l yX5_now wsX5_now rmX5_now (PZ D cI cS [.ref a0, .int v1] (fun U => va_P D vwCl (wX5 cI cS a0 a1 a2 a3 a4 a5 a6 a7 a8 a9 a10 a11 nw kp ad fd tp kn it wd sz nm mv ik td bg en so va iw im st ht) U.heap)) (qI D (wX5 cI cS a0 a1 a2 a3 a4 a5 a6 a7 a8 a9 a10 a11 nw kp ad fd tp kn it wd sz nm mv ik td bg en so va iw im st ht) (wX5 cI cS a0 a1 a2 a3 a4 a5 a6 a7 a8 a9 a10 a11 nw kp ad z1 tp kn it wd sz nm mv ik td bg en so va iw im st ht) z0) 0 0 (wA (wX5 cI cS a0 a1 a2 a3 a4 a5 a6 a7 a8 a9 a10 a11 nw kp ad fd tp kn it wd sz nm mv ik td bg en so va iw im st ht)) := by
  refine Met.mk RX5 (by decide) rfl rfl (Nat.le_of_ble_eq_true rfl) ?_
  intro p e s m below meth c ls C0 hP hl
  have hl : lv_has ls 2 [(0, .ref a0), (1, .int v1)] := hl
  obtain ⟨hx, hb, hr, hml, hown, hts, hlk, hE⟩ := id C0
  have hinX5 : ∀ w ∈ u_ws RX5 TX5 21, w ∈ wsX5_now := by decide +kernel
  have hD : ∀ W : va_W, W.map Prod.fst = [a0, a1, a2, a3, a4, a5, a6, a7, a8, a9, a10, a11] → va_D (wA (wX5 cI cS a0 a1 a2 a3 a4 a5 a6 a7 a8 a9 a10 a11 nw kp ad fd tp kn it wd sz nm mv ik td bg en so va iw im st ht)) W := fun W hW => hD0.own.re hW
  have hS : va_S (wA (wX5 cI cS a0 a1 a2 a3 a4 a5 a6 a7 a8 a9 a10 a11 nw kp ad fd tp kn it wd sz nm mv ik td bg en so va iw im st ht)) s.heap s.heap [] := va_S.rf
  have hP : va_P D vwCl (wX5 cI cS a0 a1 a2 a3 a4 a5 a6 a7 a8 a9 a10 a11 nw kp ad fd tp kn it wd sz nm mv ik td bg en so va iw im st ht) s.heap := hP
  rw [fX5_now] at h
  refine lv_iload_n hx hb dX5_now_0 rfl (lv_at hl 1 rfl) ?_
  by_cases c_1 : v1 = 0
  · have h := ifp c_1 h
    refine lv_tableIn (tgt := 48) hx hb dX5_now_1 (by rw [c_1]; decide) (by rw [c_1]; decide) (by rw [c_1]; rfl) (by decide) ?_
    refine lv_aload_n hx hb dX5_now_48 rfl (lv_at hl 0 rfl) ?_
    refine va_get (D := D) (ci := 4) (v := .ref a1) (C := RX5) (T := TX5) (N := 21) hx hb hts hinX5 hown hE.1 hP 0 rfl rfl 0 (by decide) (hts _ (List.mem_of_getElem? (i := 1) rfl)) (fun _ h9 => h9) rfl dX5_now_49 ?_
    refine lv_iconst (v := 0) hx hb dX5_now_52 (by decide) ?_
    refine va_iald hx hb hE.1 hP 1 0 rfl rfl (by unfold vp_in; decide : vp_in 0 84) dX5_now_53 ?_
    refine lv_eqi (y := nw 0) rfl ?_
    obtain ⟨q0, q1⟩ := Prod.mk.inj (Option.some.inj h)
    subst q0 q1
    exact eMi C0 hP hS rfl rfl dX5_now_54
  have h := ifn c_1 h
  by_cases c_2 : v1 = 1
  · have h := ifp c_2 h
    refine lv_tableIn (tgt := 55) hx hb dX5_now_1 (by rw [c_2]; decide) (by rw [c_2]; decide) (by rw [c_2]; rfl) (by decide) ?_
    refine lv_aload_n hx hb dX5_now_55 rfl (lv_at hl 0 rfl) ?_
    obtain ⟨z_3, e_4, h⟩ := bds h
    have hPc := hP.sub (ws' := (wX5 cI cS a0 a1 a2 a3 a4 a5 a6 a7 a8 a9 a10 a11 nw kp ad fd tp kn it wd sz nm mv ik td bg en so va iw im st ht)) [0, 1, 2, 3, 4, 5, 6, 7, 8, 9, 10, 11] rfl
    refine kRi (rV C0 (tX5_inPort l D cI cS F a0 a1 a2 a3 a4 a5 a6 a7 a8 a9 a10 a11 nw kp ad fd tp kn it wd sz nm mv ik td bg en so va iw im st ht  z_3 e_4) RX5 gX5_now_X5_inPort rfl ⟨rfl, rfl⟩ pdX5_inPort rfl ⟨Nat.le_of_ble_eq_true rfl, Nat.le_of_ble_eq_true rfl⟩ (fun _ _ _ _ q => q) (va_recv hE.1 hPc (ci := 4) (q0 := 0) rfl rfl) (fun U hU _ _ => by rw [hU]; exact hPc) hl.1 rfl (Nat.le_of_ble_eq_true rfl) dX5_now_56 ⟨Nat.zero_le _, Nat.zero_le _⟩) ?_
    obtain ⟨q0, q1⟩ := Prod.mk.inj (Option.some.inj h)
    subst q0 q1
    exact eMi C0 hP hS rfl rfl dX5_now_59
  have h := ifn c_2 h
  by_cases c_5 : v1 = 2
  · have h := ifp c_5 h
    refine lv_tableIn (tgt := 60) hx hb dX5_now_1 (by rw [c_5]; decide) (by rw [c_5]; decide) (by rw [c_5]; rfl) (by decide) ?_
    refine lv_aload_n hx hb dX5_now_60 rfl (lv_at hl 0 rfl) ?_
    obtain ⟨z_6, e_7, h⟩ := bds h
    have hPc := hP.sub (ws' := (wX5 cI cS a0 a1 a2 a3 a4 a5 a6 a7 a8 a9 a10 a11 nw kp ad fd tp kn it wd sz nm mv ik td bg en so va iw im st ht)) [0, 1, 2, 3, 4, 5, 6, 7, 8, 9, 10, 11] rfl
    refine kRi (rV C0 (tX5_finishedOnes l D cI cS F a0 a1 a2 a3 a4 a5 a6 a7 a8 a9 a10 a11 nw kp ad fd tp kn it wd sz nm mv ik td bg en so va iw im st ht  z_6 e_7) RX5 gX5_now_X5_finishedOnes rfl ⟨rfl, rfl⟩ pdX5_finishedOnes rfl ⟨Nat.le_of_ble_eq_true rfl, Nat.le_of_ble_eq_true rfl⟩ (fun _ _ _ _ q => q) (va_recv hE.1 hPc (ci := 4) (q0 := 0) rfl rfl) (fun U hU _ _ => by rw [hU]; exact hPc) hl.1 rfl (Nat.le_of_ble_eq_true rfl) dX5_now_61 ⟨Nat.zero_le _, Nat.zero_le _⟩) ?_
    obtain ⟨q0, q1⟩ := Prod.mk.inj (Option.some.inj h)
    subst q0 q1
    exact eMi C0 hP hS rfl rfl dX5_now_64
  have h := ifn c_5 h
  by_cases c_8 : v1 = 3
  · have h := ifp c_8 h
    refine lv_tableIn (tgt := 65) hx hb dX5_now_1 (by rw [c_8]; decide) (by rw [c_8]; decide) (by rw [c_8]; rfl) (by decide) ?_
    refine lv_aload_n hx hb dX5_now_65 rfl (lv_at hl 0 rfl) ?_
    obtain ⟨z_9, e_10, h⟩ := bds h
    have hPc := hP.sub (ws' := (wX5 cI cS a0 a1 a2 a3 a4 a5 a6 a7 a8 a9 a10 a11 nw kp ad fd tp kn it wd sz nm mv ik td bg en so va iw im st ht)) [0, 1, 2, 3, 4, 5, 6, 7, 8, 9, 10, 11] rfl
    refine kRi (rV C0 (tX5_vagueInAll l D cI cS F a0 a1 a2 a3 a4 a5 a6 a7 a8 a9 a10 a11 nw kp ad fd tp kn it wd sz nm mv ik td bg en so va iw im st ht  z_9 e_10) RX5 gX5_now_X5_vagueInAll rfl ⟨rfl, rfl⟩ pdX5_vagueInAll rfl ⟨Nat.le_of_ble_eq_true rfl, Nat.le_of_ble_eq_true rfl⟩ (fun _ _ _ _ q => q) (va_recv hE.1 hPc (ci := 4) (q0 := 0) rfl rfl) (fun U hU _ _ => by rw [hU]; exact hPc) hl.1 rfl (Nat.le_of_ble_eq_true rfl) dX5_now_66 ⟨Nat.zero_le _, Nat.zero_le _⟩) ?_
    obtain ⟨q0, q1⟩ := Prod.mk.inj (Option.some.inj h)
    subst q0 q1
    exact eMi C0 hP hS rfl rfl dX5_now_69
  have h := ifn c_8 h
  by_cases c_11 : v1 = 4
  · have h := ifp c_11 h
    refine lv_tableIn (tgt := 70) hx hb dX5_now_1 (by rw [c_11]; decide) (by rw [c_11]; decide) (by rw [c_11]; rfl) (by decide) ?_
    refine lv_aload_n hx hb dX5_now_70 rfl (lv_at hl 0 rfl) ?_
    obtain ⟨z_12, e_13, h⟩ := bds h
    have hPc := hP.sub (ws' := (wX5 cI cS a0 a1 a2 a3 a4 a5 a6 a7 a8 a9 a10 a11 nw kp ad fd tp kn it wd sz nm mv ik td bg en so va iw im st ht)) [0, 1, 2, 3, 4, 5, 6, 7, 8, 9, 10, 11] rfl
    refine kRi (rV C0 (tX5_waitedInAll l D cI cS F a0 a1 a2 a3 a4 a5 a6 a7 a8 a9 a10 a11 nw kp ad fd tp kn it wd sz nm mv ik td bg en so va iw im st ht  z_12 e_13) RX5 gX5_now_X5_waitedInAll rfl ⟨rfl, rfl⟩ pdX5_waitedInAll rfl ⟨Nat.le_of_ble_eq_true rfl, Nat.le_of_ble_eq_true rfl⟩ (fun _ _ _ _ q => q) (va_recv hE.1 hPc (ci := 4) (q0 := 0) rfl rfl) (fun U hU _ _ => by rw [hU]; exact hPc) hl.1 rfl (Nat.le_of_ble_eq_true rfl) dX5_now_71 ⟨Nat.zero_le _, Nat.zero_le _⟩) ?_
    obtain ⟨q0, q1⟩ := Prod.mk.inj (Option.some.inj h)
    subst q0 q1
    exact eMi C0 hP hS rfl rfl dX5_now_74
  have h := ifn c_11 h
  by_cases c_14 : v1 = 5
  · have h := ifp c_14 h
    refine lv_tableIn (tgt := 75) hx hb dX5_now_1 (by rw [c_14]; decide) (by rw [c_14]; decide) (by rw [c_14]; rfl) (by decide) ?_
    refine lv_aload_n hx hb dX5_now_75 rfl (lv_at hl 0 rfl) ?_
    obtain ⟨z_15, e_16, h⟩ := bds h
    have hPc := hP.sub (ws' := (wX5 cI cS a0 a1 a2 a3 a4 a5 a6 a7 a8 a9 a10 a11 nw kp ad fd tp kn it wd sz nm mv ik td bg en so va iw im st ht)) [0, 1, 2, 3, 4, 5, 6, 7, 8, 9, 10, 11] rfl
    refine kRi (rV C0 (tX5_thickestCell l D cI cS F a0 a1 a2 a3 a4 a5 a6 a7 a8 a9 a10 a11 nw kp ad fd tp kn it wd sz nm mv ik td bg en so va iw im st ht  z_15 e_16) RX5 gX5_now_X5_thickestCell rfl ⟨rfl, rfl⟩ pdX5_thickestCell rfl ⟨Nat.le_of_ble_eq_true rfl, Nat.le_of_ble_eq_true rfl⟩ (fun _ _ _ _ q => q) (va_recv hE.1 hPc (ci := 4) (q0 := 0) rfl rfl) (fun U hU _ _ => by rw [hU]; exact hPc) hl.1 rfl (Nat.le_of_ble_eq_true rfl) dX5_now_76 ⟨Nat.zero_le _, Nat.zero_le _⟩) ?_
    obtain ⟨q0, q1⟩ := Prod.mk.inj (Option.some.inj h)
    subst q0 q1
    exact eMi C0 hP hS rfl rfl dX5_now_79
  have h := ifn c_14 h
  by_cases c_17 : v1 = 6
  · have h := ifp c_17 h
    refine lv_tableIn (tgt := 80) hx hb dX5_now_1 (by rw [c_17]; decide) (by rw [c_17]; decide) (by rw [c_17]; rfl) (by decide) ?_
    refine lv_aload_n hx hb dX5_now_80 rfl (lv_at hl 0 rfl) ?_
    obtain ⟨z_18, e_19, h⟩ := bds h
    have hPc := hP.sub (ws' := (wX5 cI cS a0 a1 a2 a3 a4 a5 a6 a7 a8 a9 a10 a11 nw kp ad fd tp kn it wd sz nm mv ik td bg en so va iw im st ht)) [0, 1, 2, 3, 4, 5, 6, 7, 8, 9, 10, 11] rfl
    refine kRi (rV C0 (tX5_clearCells l D cI cS F a0 a1 a2 a3 a4 a5 a6 a7 a8 a9 a10 a11 nw kp ad fd tp kn it wd sz nm mv ik td bg en so va iw im st ht  z_18 e_19) RX5 gX5_now_X5_clearCells rfl ⟨rfl, rfl⟩ pdX5_clearCells rfl ⟨Nat.le_of_ble_eq_true rfl, Nat.le_of_ble_eq_true rfl⟩ (fun _ _ _ _ q => q) (va_recv hE.1 hPc (ci := 4) (q0 := 0) rfl rfl) (fun U hU _ _ => by rw [hU]; exact hPc) hl.1 rfl (Nat.le_of_ble_eq_true rfl) dX5_now_81 ⟨Nat.zero_le _, Nat.zero_le _⟩) ?_
    obtain ⟨q0, q1⟩ := Prod.mk.inj (Option.some.inj h)
    subst q0 q1
    exact eMi C0 hP hS rfl rfl dX5_now_84
  have h := ifn c_17 h
  by_cases c_20 : v1 = 7
  · have h := ifp c_20 h
    refine lv_tableIn (tgt := 85) hx hb dX5_now_1 (by rw [c_20]; decide) (by rw [c_20]; decide) (by rw [c_20]; rfl) (by decide) ?_
    refine lv_aload_n hx hb dX5_now_85 rfl (lv_at hl 0 rfl) ?_
    obtain ⟨z_21, e_22, h⟩ := bds h
    have hPc := hP.sub (ws' := (wX5 cI cS a0 a1 a2 a3 a4 a5 a6 a7 a8 a9 a10 a11 nw kp ad fd tp kn it wd sz nm mv ik td bg en so va iw im st ht)) [0, 1, 2, 3, 4, 5, 6, 7, 8, 9, 10, 11] rfl
    refine kRi (rV C0 (tX5_goingOnes l D cI cS F a0 a1 a2 a3 a4 a5 a6 a7 a8 a9 a10 a11 nw kp ad fd tp kn it wd sz nm mv ik td bg en so va iw im st ht  z_21 e_22) RX5 gX5_now_X5_goingOnes rfl ⟨rfl, rfl⟩ pdX5_goingOnes rfl ⟨Nat.le_of_ble_eq_true rfl, Nat.le_of_ble_eq_true rfl⟩ (fun _ _ _ _ q => q) (va_recv hE.1 hPc (ci := 4) (q0 := 0) rfl rfl) (fun U hU _ _ => by rw [hU]; exact hPc) hl.1 rfl (Nat.le_of_ble_eq_true rfl) dX5_now_86 ⟨Nat.zero_le _, Nat.zero_le _⟩) ?_
    obtain ⟨q0, q1⟩ := Prod.mk.inj (Option.some.inj h)
    subst q0 q1
    exact eMi C0 hP hS rfl rfl dX5_now_89
  have h := ifn c_20 h
  refine lv_tableOut (tgt := 90) hx hb dX5_now_1 (tb0 (tbS (k := 0) (by decide) c_1 (tbS (k := 1) (by decide) c_2 (tbS (k := 2) (by decide) c_5 (tbS (k := 3) (by decide) c_8 (tbS (k := 4) (by decide) c_11 (tbS (k := 5) (by decide) c_14 (tbS (k := 6) (by decide) c_17 (tbS (k := 7) (by decide) c_20 (tbE (by decide))))))))))) (by decide) ?_
  refine lv_aload_n hx hb dX5_now_90 rfl (lv_at hl 0 rfl) ?_
  refine lv_ldc (v := (-1000001)) hx hb hown (hts _ (List.mem_of_getElem? (i := 2) rfl)) dX5_now_91 ?_
  obtain ⟨z_23, e_24, h⟩ := bds h
  have hPc := hP.sub (ws' := (wX5 cI cS a0 a1 a2 a3 a4 a5 a6 a7 a8 a9 a10 a11 nw kp ad fd tp kn it wd sz nm mv ik td bg en so va iw im st ht)) [0, 1, 2, 3, 4, 5, 6, 7, 8, 9, 10, 11] rfl
  refine kMi (wf' := (wX5 cI cS a0 a1 a2 a3 a4 a5 a6 a7 a8 a9 a10 a11 nw kp ad z_23.2 tp kn it wd sz nm mv ik td bg en so va iw im st ht)) [0, 1, 2, 3, 4, 5, 6, 7, 8, 9, 10, 11] [some 0, some 1, some 2, some 3, some 4, some 5, some 6, some 7, some 8, some 9, some 10, some 11] (rV C0 (tX5_finding l D cI cS a0 a1 a2 a3 a4 a5 a6 a7 a8 a9 a10 a11 nw kp ad fd tp kn it wd sz nm mv ik td bg en so va iw im st ht (-1000001) z_23.1 z_23.2 e_24 (((hD (wX5 cI cS a0 a1 a2 a3 a4 a5 a6 a7 a8 a9 a10 a11 nw kp ad fd tp kn it wd sz nm mv ik td bg en so va iw im st ht) rfl).sub [0, 1, 2, 3, 4, 5, 6, 7, 8, 9, 10, 11] (by decide) rfl).weaken (fun _ _ _ _ => trivial))) RX5 gX5_now_X5_finding rfl ⟨rfl, rfl⟩ pdX5_finding rfl ⟨Nat.le_of_ble_eq_true rfl, Nat.le_of_ble_eq_true rfl⟩ (fun _ _ _ _ q => q) (va_recv hE.1 hPc (ci := 4) (q0 := 0) rfl rfl) (fun U hU _ _ => by rw [hU]; exact hPc) hl.1 rfl (Nat.le_of_ble_eq_true rfl) dX5_now_93 ⟨Nat.zero_le _, Nat.zero_le _⟩) hP (hD _ rfl) hS rfl rfl rfl (fun H locs hP hS => ?_)
  obtain ⟨q0, q1⟩ := Prod.mk.inj (Option.some.inj h)
  subst q0 q1
  exact eMi C0 hP hS rfl rfl dX5_now_96
def fX5_behind (F : Nat) (nw : Nat → Int32) (ad : Nat → Int32) (v1 : Int32) (v2 : Int32) : Option (Int32 × (Nat → Int32) × (Nat → Int32)) := Option.bind (fX5_copyRow F nw ad) (fun z_1 => Option.bind (fX5_daysGo F nw v2) (fun z_3 => if ¬ (v1 < 0 ∨ 84 ≤ v1.toNatClampNeg) then Option.bind (fX5_putBack F z_3 z_1 (z_3 v1.toNatClampNeg)) (fun z_6 => some (z_6.1, z_6.2, z_1)) else none))
abbrev rmX5_behind : Room := { frames := 7, cells := 0, slots := 0, locals := 157 }
theorem pdX5_behind : (yX5_behind.cls = RX5 ∧ yX5_behind.cls ≠ "java/lang/invoke/MethodHandle" ∧ yX5_behind.cls ≠ "java/lang/invoke/VarHandle" ∧ (parseMethodDescriptor yX5_behind.desc).map (fun d => d.parameters.length) = some 2) := by decide +kernel
set_option maxHeartbeats 4000000 in
set_option maxRecDepth 100000 in
theorem tX5_behind (l : Launch) (D : va_G) (cI cS : ClassId) (F : Nat) (a0 a1 a2 a3 a4 a5 a6 a7 a8 a9 a10 a11 : Nat) (nw : Nat → Int32) (kp : Nat → Int32) (ad : Nat → Int32) (fd : Nat → Int32) (tp : Nat → Int32) (kn : Nat → Option Nat) (it : Nat → Int32) (wd : Nat → Int32) (sz : Nat → Int32) (nm : Nat → Int32) (mv : Nat → Int32) (ik : Int32) (td : Int32) (bg : Int32) (en : Int32) (so : Int32) (va : Int32) (iw : Int32) (im : Int32) (st : Int32) (ht : Int32) (v1 : Int32) (v2 : Int32) (z0 : Int32) (z1 : Nat → Int32) (z2 : Nat → Int32) (h : fX5_behind F nw ad v1 v2 = some (z0, z1, z2)) (hD0 : va_D (fun _ => True) (wX5 cI cS a0 a1 a2 a3 a4 a5 a6 a7 a8 a9 a10 a11 nw kp ad fd tp kn it wd sz nm mv ik td bg en so va iw im st ht)) : Met l yX5_behind wsX5_behind rmX5_behind (PZ D cI cS [.ref a0, .int v1, .int v2] (fun U => va_P D vwCl (wX5 cI cS a0 a1 a2 a3 a4 a5 a6 a7 a8 a9 a10 a11 nw kp ad fd tp kn it wd sz nm mv ik td bg en so va iw im st ht) U.heap)) (qI D (wX5 cI cS a0 a1 a2 a3 a4 a5 a6 a7 a8 a9 a10 a11 nw kp ad fd tp kn it wd sz nm mv ik td bg en so va iw im st ht) (wX5 cI cS a0 a1 a2 a3 a4 a5 a6 a7 a8 a9 a10 a11 z1 kp z2 fd tp kn it wd sz nm mv ik td bg en so va iw im st ht) z0) 0 0 (wA (wX5 cI cS a0 a1 a2 a3 a4 a5 a6 a7 a8 a9 a10 a11 nw kp ad fd tp kn it wd sz nm mv ik td bg en so va iw im st ht)) := by
  refine Met.mk RX5 (by decide) rfl rfl (Nat.le_of_ble_eq_true rfl) ?_
  intro p e s m below meth c ls C0 hP hl
  have hl : lv_has ls 3 [(0, .ref a0), (1, .int v1), (2, .int v2)] := hl
  obtain ⟨hx, hb, hr, hml, hown, hts, hlk, hE⟩ := id C0
  have hinX5 : ∀ w ∈ u_ws RX5 TX5 21, w ∈ wsX5_behind := by decide +kernel
  have hD : ∀ W : va_W, W.map Prod.fst = [a0, a1, a2, a3, a4, a5, a6, a7, a8, a9, a10, a11] → va_D (wA (wX5 cI cS a0 a1 a2 a3 a4 a5 a6 a7 a8 a9 a10 a11 nw kp ad fd tp kn it wd sz nm mv ik td bg en so va iw im st ht)) W := fun W hW => hD0.own.re hW
  have hS : va_S (wA (wX5 cI cS a0 a1 a2 a3 a4 a5 a6 a7 a8 a9 a10 a11 nw kp ad fd tp kn it wd sz nm mv ik td bg en so va iw im st ht)) s.heap s.heap [] := va_S.rf
  have hP : va_P D vwCl (wX5 cI cS a0 a1 a2 a3 a4 a5 a6 a7 a8 a9 a10 a11 nw kp ad fd tp kn it wd sz nm mv ik td bg en so va iw im st ht) s.heap := hP
  rw [fX5_behind] at h
  refine lv_aload_n hx hb dX5_behind_0 rfl (lv_at hl 0 rfl) ?_
  refine va_get (D := D) (ci := 4) (v := .ref a1) (C := RX5) (T := TX5) (N := 21) hx hb hts hinX5 hown hE.1 hP 0 rfl rfl 0 (by decide) (hts _ (List.mem_of_getElem? (i := 1) rfl)) (fun _ h9 => h9) rfl dX5_behind_1 ?_
  refine lv_aload_n hx hb dX5_behind_4 rfl (lv_at hl 0 rfl) ?_
  refine va_get (D := D) (ci := 4) (v := .ref a3) (C := RX5) (T := TX5) (N := 21) hx hb hts hinX5 hown hE.1 hP 0 rfl rfl 2 (by decide) (hts _ (List.mem_of_getElem? (i := 2) rfl)) (fun _ h9 => h9) rfl dX5_behind_5 ?_
  obtain ⟨z_1, e_2, h⟩ := bds h
  have hPc := hP.sub (ws' := (wR2 cI cS a1 a3 nw ad)) [1, 3] rfl
  refine kMv (wf' := (wX5 cI cS a0 a1 a2 a3 a4 a5 a6 a7 a8 a9 a10 a11 nw kp z_1 fd tp kn it wd sz nm mv ik td bg en so va iw im st ht)) [1, 3] [none, some 0, none, some 1, none, none, none, none, none, none, none, none] (rS C0 (tX5_copyRow l D cI cS F a1 a3 nw ad  z_1 e_2 (((hD (wX5 cI cS a0 a1 a2 a3 a4 a5 a6 a7 a8 a9 a10 a11 nw kp ad fd tp kn it wd sz nm mv ik td bg en so va iw im st ht) rfl).sub [1, 3] (by decide) rfl).weaken (fun _ _ _ _ => trivial))) gX5_behind_X5_copyRow rfl ⟨rfl, rfl⟩ pdX5_copyRow rfl ⟨Nat.le_of_ble_eq_true rfl, Nat.le_of_ble_eq_true rfl⟩ (fun _ _ _ _ q => q) (fun U hU _ _ => by rw [hU]; exact hPc) hl.1 rfl (Nat.le_of_ble_eq_true rfl) dX5_behind_8 ⟨Nat.zero_le _, Nat.zero_le _⟩) hP (hD _ rfl) hS rfl rfl rfl (fun H locs hP hS => ?_)
  refine lv_aload_n hx hb dX5_behind_11 rfl (lv_at hl 0 rfl) ?_
  refine lv_iload_n hx hb dX5_behind_12 rfl (lv_at hl 2 rfl) ?_
  obtain ⟨z_3, e_4, h⟩ := bds h
  have hPc := hP.sub (ws' := (wX5 cI cS a0 a1 a2 a3 a4 a5 a6 a7 a8 a9 a10 a11 nw kp z_1 fd tp kn it wd sz nm mv ik td bg en so va iw im st ht)) [0, 1, 2, 3, 4, 5, 6, 7, 8, 9, 10, 11] rfl
  refine kMv (wf' := (wX5 cI cS a0 a1 a2 a3 a4 a5 a6 a7 a8 a9 a10 a11 z_3 kp z_1 fd tp kn it wd sz nm mv ik td bg en so va iw im st ht)) [0, 1, 2, 3, 4, 5, 6, 7, 8, 9, 10, 11] [some 0, some 1, some 2, some 3, some 4, some 5, some 6, some 7, some 8, some 9, some 10, some 11] (rV C0 (tX5_daysGo l D cI cS F a0 a1 a2 a3 a4 a5 a6 a7 a8 a9 a10 a11 nw kp z_1 fd tp kn it wd sz nm mv ik td bg en so va iw im st ht v2 z_3 e_4 (((hD (wX5 cI cS a0 a1 a2 a3 a4 a5 a6 a7 a8 a9 a10 a11 nw kp z_1 fd tp kn it wd sz nm mv ik td bg en so va iw im st ht) rfl).sub [0, 1, 2, 3, 4, 5, 6, 7, 8, 9, 10, 11] (by decide) rfl).weaken (fun _ _ _ _ => trivial))) RX5 gX5_behind_X5_daysGo rfl ⟨rfl, rfl⟩ pdX5_daysGo rfl ⟨Nat.le_of_ble_eq_true rfl, Nat.le_of_ble_eq_true rfl⟩ (fun _ _ _ _ q => q) (va_recv hE.1 hPc (ci := 4) (q0 := 0) rfl rfl) (fun U hU _ _ => by rw [hU]; exact hPc) hl.1 rfl (Nat.le_of_ble_eq_true rfl) dX5_behind_13 ⟨Nat.zero_le _, Nat.zero_le _⟩) hP (hD _ rfl) hS rfl rfl rfl (fun H locs hP hS => ?_)
  refine lv_aload_n hx hb dX5_behind_16 rfl (lv_at hl 0 rfl) ?_
  refine lv_aload_n hx hb dX5_behind_17 rfl (lv_at hl 0 rfl) ?_
  refine va_get (D := D) (ci := 4) (v := .ref a1) (C := RX5) (T := TX5) (N := 21) hx hb hts hinX5 hown hE.1 hP 0 rfl rfl 0 (by decide) (hts _ (List.mem_of_getElem? (i := 1) rfl)) (fun _ h9 => h9) rfl dX5_behind_18 ?_
  refine lv_iload_n hx hb dX5_behind_21 rfl (lv_at hl 1 rfl) ?_
  obtain ⟨hi_5, h⟩ := ifs h
  refine va_iald hx hb hE.1 hP 1 0 rfl rfl hi_5 dX5_behind_22 ?_
  obtain ⟨z_6, e_7, h⟩ := bds h
  have hPc := hP.sub (ws' := (wX5 cI cS a0 a1 a2 a3 a4 a5 a6 a7 a8 a9 a10 a11 z_3 kp z_1 fd tp kn it wd sz nm mv ik td bg en so va iw im st ht)) [0, 1, 2, 3, 4, 5, 6, 7, 8, 9, 10, 11] rfl
  refine kMi (wf' := (wX5 cI cS a0 a1 a2 a3 a4 a5 a6 a7 a8 a9 a10 a11 z_6.2 kp z_1 fd tp kn it wd sz nm mv ik td bg en so va iw im st ht)) [0, 1, 2, 3, 4, 5, 6, 7, 8, 9, 10, 11] [some 0, some 1, some 2, some 3, some 4, some 5, some 6, some 7, some 8, some 9, some 10, some 11] (rV C0 (tX5_putBack l D cI cS F a0 a1 a2 a3 a4 a5 a6 a7 a8 a9 a10 a11 z_3 kp z_1 fd tp kn it wd sz nm mv ik td bg en so va iw im st ht (z_3 v1.toNatClampNeg) z_6.1 z_6.2 e_7 (((hD (wX5 cI cS a0 a1 a2 a3 a4 a5 a6 a7 a8 a9 a10 a11 z_3 kp z_1 fd tp kn it wd sz nm mv ik td bg en so va iw im st ht) rfl).sub [0, 1, 2, 3, 4, 5, 6, 7, 8, 9, 10, 11] (by decide) rfl).weaken (fun _ _ _ _ => trivial))) RX5 gX5_behind_X5_putBack rfl ⟨rfl, rfl⟩ pdX5_putBack rfl ⟨Nat.le_of_ble_eq_true rfl, Nat.le_of_ble_eq_true rfl⟩ (fun _ _ _ _ q => q) (va_recv hE.1 hPc (ci := 4) (q0 := 0) rfl rfl) (fun U hU _ _ => by rw [hU]; exact hPc) hl.1 rfl (Nat.le_of_ble_eq_true rfl) dX5_behind_23 ⟨Nat.zero_le _, Nat.zero_le _⟩) hP (hD _ rfl) hS rfl rfl rfl (fun H locs hP hS => ?_)
  obtain ⟨q0, g0⟩ := Prod.mk.inj (Option.some.inj h)
  obtain ⟨q1, q2⟩ := Prod.mk.inj g0
  subst q0 q1 q2
  exact eMi C0 hP hS rfl rfl dX5_behind_26
def fX5_ahead (F : Nat) (nw : Nat → Int32) (ad : Nat → Int32) (fd : Nat → Int32) (v1 : Int32) (v2 : Int32) (v3 : Int32) : Option (Int32 × (Nat → Int32) × (Nat → Int32) × (Nat → Int32)) := (if (fX5_isSaying nw v1) = 0 then Option.bind (fX5_finding fd (-1000001)) (fun z_2 => some (z_2.1, nw, ad, z_2.2)) else (if (fX5_within v2 2 5) = 0 then Option.bind (fX5_finding fd (-1000001)) (fun z_5 => some (z_5.1, nw, ad, z_5.2)) else (if (fX5_within v3 0 100) = 0 then Option.bind (fX5_finding fd (-1000001)) (fun z_16 => some (z_16.1, nw, ad, z_16.2)) else Option.bind (fX5_copyRow F nw ad) (fun z_8 => Option.bind (fX5_daysGo F nw v3) (fun z_10 => Option.bind (fX5_told z_10 v1 v2) (fun z_12 => Option.bind (fX5_putBack F z_10 z_8 z_12) (fun z_14 => some (z_14.1, z_14.2, z_8, fd))))))))
abbrev rmX5_ahead : Room := { frames := 7, cells := 0, slots := 0, locals := 157 }
theorem pdX5_ahead : (yX5_ahead.cls = RX5 ∧ yX5_ahead.cls ≠ "java/lang/invoke/MethodHandle" ∧ yX5_ahead.cls ≠ "java/lang/invoke/VarHandle" ∧ (parseMethodDescriptor yX5_ahead.desc).map (fun d => d.parameters.length) = some 3) := by decide +kernel
set_option maxHeartbeats 4000000 in
set_option maxRecDepth 100000 in
theorem tX5_ahead (l : Launch) (D : va_G) (cI cS : ClassId) (F : Nat) (a0 a1 a2 a3 a4 a5 a6 a7 a8 a9 a10 a11 : Nat) (nw : Nat → Int32) (kp : Nat → Int32) (ad : Nat → Int32) (fd : Nat → Int32) (tp : Nat → Int32) (kn : Nat → Option Nat) (it : Nat → Int32) (wd : Nat → Int32) (sz : Nat → Int32) (nm : Nat → Int32) (mv : Nat → Int32) (ik : Int32) (td : Int32) (bg : Int32) (en : Int32) (so : Int32) (va : Int32) (iw : Int32) (im : Int32) (st : Int32) (ht : Int32) (v1 : Int32) (v2 : Int32) (v3 : Int32) (z0 : Int32) (z1 : Nat → Int32) (z2 : Nat → Int32) (z3 : Nat → Int32) (h : fX5_ahead F nw ad fd v1 v2 v3 = some (z0, z1, z2, z3)) (hD0 : va_D (fun _ => True) (wX5 cI cS a0 a1 a2 a3 a4 a5 a6 a7 a8 a9 a10 a11 nw kp ad fd tp kn it wd sz nm mv ik td bg en so va iw im st ht)) : Met l yX5_ahead wsX5_ahead rmX5_ahead (PZ D cI cS [.ref a0, .int v1, .int v2, .int v3] (fun U => va_P D vwCl (wX5 cI cS a0 a1 a2 a3 a4 a5 a6 a7 a8 a9 a10 a11 nw kp ad fd tp kn it wd sz nm mv ik td bg en so va iw im st ht) U.heap)) (qI D (wX5 cI cS a0 a1 a2 a3 a4 a5 a6 a7 a8 a9 a10 a11 nw kp ad fd tp kn it wd sz nm mv ik td bg en so va iw im st ht) (wX5 cI cS a0 a1 a2 a3 a4 a5 a6 a7 a8 a9 a10 a11 z1 kp z2 z3 tp kn it wd sz nm mv ik td bg en so va iw im st ht) z0) 0 0 (wA (wX5 cI cS a0 a1 a2 a3 a4 a5 a6 a7 a8 a9 a10 a11 nw kp ad fd tp kn it wd sz nm mv ik td bg en so va iw im st ht)) := by
  refine Met.mk RX5 (by decide) rfl rfl (Nat.le_of_ble_eq_true rfl) ?_
  intro p e s m below meth c ls C0 hP hl
  have hl : lv_has ls 4 [(0, .ref a0), (1, .int v1), (2, .int v2), (3, .int v3)] := hl
  obtain ⟨hx, hb, hr, hml, hown, hts, hlk, hE⟩ := id C0
  have hinX5 : ∀ w ∈ u_ws RX5 TX5 21, w ∈ wsX5_ahead := by decide +kernel
  have hD : ∀ W : va_W, W.map Prod.fst = [a0, a1, a2, a3, a4, a5, a6, a7, a8, a9, a10, a11] → va_D (wA (wX5 cI cS a0 a1 a2 a3 a4 a5 a6 a7 a8 a9 a10 a11 nw kp ad fd tp kn it wd sz nm mv ik td bg en so va iw im st ht)) W := fun W hW => hD0.own.re hW
  have hS : va_S (wA (wX5 cI cS a0 a1 a2 a3 a4 a5 a6 a7 a8 a9 a10 a11 nw kp ad fd tp kn it wd sz nm mv ik td bg en so va iw im st ht)) s.heap s.heap [] := va_S.rf
  have hP : va_P D vwCl (wX5 cI cS a0 a1 a2 a3 a4 a5 a6 a7 a8 a9 a10 a11 nw kp ad fd tp kn it wd sz nm mv ik td bg en so va iw im st ht) s.heap := hP
  rw [fX5_ahead] at h
  refine lv_aload_n hx hb dX5_ahead_0 rfl (lv_at hl 0 rfl) ?_
  refine lv_iload_n hx hb dX5_ahead_1 rfl (lv_at hl 1 rfl) ?_
  have hPc := hP.sub (ws' := (wX5 cI cS a0 a1 a2 a3 a4 a5 a6 a7 a8 a9 a10 a11 nw kp ad fd tp kn it wd sz nm mv ik td bg en so va iw im st ht)) [0, 1, 2, 3, 4, 5, 6, 7, 8, 9, 10, 11] rfl
  refine kRi (rV C0 (tX5_isSaying l D cI cS a0 a1 a2 a3 a4 a5 a6 a7 a8 a9 a10 a11 nw kp ad fd tp kn it wd sz nm mv ik td bg en so va iw im st ht v1 (fX5_isSaying nw v1) rfl) RX5 gX5_ahead_X5_isSaying rfl ⟨rfl, rfl⟩ pdX5_isSaying rfl ⟨Nat.le_of_ble_eq_true rfl, Nat.le_of_ble_eq_true rfl⟩ (fun _ _ _ _ q => q) (va_recv hE.1 hPc (ci := 4) (q0 := 0) rfl rfl) (fun U hU _ _ => by rw [hU]; exact hPc) hl.1 rfl (Nat.le_of_ble_eq_true rfl) dX5_ahead_2 ⟨Nat.zero_le _, Nat.zero_le _⟩) ?_
  refine lv_if_eq (tgt := 27) hx hb dX5_ahead_5 (by decide) (fun c_1 => ?_) (fun c_1 => ?_)
  · have h := ifp c_1 h
    refine lv_aload_n hx hb dX5_ahead_27 rfl (lv_at hl 0 rfl) ?_
    refine lv_ldc (v := (-1000001)) hx hb hown (hts _ (List.mem_of_getElem? (i := 1) rfl)) dX5_ahead_28 ?_
    obtain ⟨z_2, e_3, h⟩ := bds h
    have hPc := hP.sub (ws' := (wX5 cI cS a0 a1 a2 a3 a4 a5 a6 a7 a8 a9 a10 a11 nw kp ad fd tp kn it wd sz nm mv ik td bg en so va iw im st ht)) [0, 1, 2, 3, 4, 5, 6, 7, 8, 9, 10, 11] rfl
    refine kMi (wf' := (wX5 cI cS a0 a1 a2 a3 a4 a5 a6 a7 a8 a9 a10 a11 nw kp ad z_2.2 tp kn it wd sz nm mv ik td bg en so va iw im st ht)) [0, 1, 2, 3, 4, 5, 6, 7, 8, 9, 10, 11] [some 0, some 1, some 2, some 3, some 4, some 5, some 6, some 7, some 8, some 9, some 10, some 11] (rV C0 (tX5_finding l D cI cS a0 a1 a2 a3 a4 a5 a6 a7 a8 a9 a10 a11 nw kp ad fd tp kn it wd sz nm mv ik td bg en so va iw im st ht (-1000001) z_2.1 z_2.2 e_3 (((hD (wX5 cI cS a0 a1 a2 a3 a4 a5 a6 a7 a8 a9 a10 a11 nw kp ad fd tp kn it wd sz nm mv ik td bg en so va iw im st ht) rfl).sub [0, 1, 2, 3, 4, 5, 6, 7, 8, 9, 10, 11] (by decide) rfl).weaken (fun _ _ _ _ => trivial))) RX5 gX5_ahead_X5_finding rfl ⟨rfl, rfl⟩ pdX5_finding rfl ⟨Nat.le_of_ble_eq_true rfl, Nat.le_of_ble_eq_true rfl⟩ (fun _ _ _ _ q => q) (va_recv hE.1 hPc (ci := 4) (q0 := 0) rfl rfl) (fun U hU _ _ => by rw [hU]; exact hPc) hl.1 rfl (Nat.le_of_ble_eq_true rfl) dX5_ahead_30 ⟨Nat.zero_le _, Nat.zero_le _⟩) hP (hD _ rfl) hS rfl rfl rfl (fun H locs hP hS => ?_)
    obtain ⟨q0, g0⟩ := Prod.mk.inj (Option.some.inj h)
    obtain ⟨q1, g1⟩ := Prod.mk.inj g0
    obtain ⟨q2, q3⟩ := Prod.mk.inj g1
    subst q0 q1 q2 q3
    exact eMi C0 hP hS rfl rfl dX5_ahead_33
  · have h := ifn c_1 h
    refine lv_iload_n hx hb dX5_ahead_8 rfl (lv_at hl 2 rfl) ?_
    refine lv_iconst (v := 2) hx hb dX5_ahead_9 (by decide) ?_
    refine lv_iconst (v := 5) hx hb dX5_ahead_10 (by decide) ?_
    refine kRi (rS C0 (tX5_within l D cI cS v2 2 5 (fX5_within v2 2 5) rfl) gX5_ahead_X5_within rfl ⟨rfl, rfl⟩ pdX5_within rfl ⟨Nat.le_of_ble_eq_true rfl, Nat.le_of_ble_eq_true rfl⟩ (fun _ _ _ _ q => q) (fun _ _ _ _ => vp0) hl.1 rfl (Nat.le_of_ble_eq_true rfl) dX5_ahead_11 ⟨Nat.zero_le _, Nat.zero_le _⟩) ?_
    refine lv_if_eq (tgt := 27) hx hb dX5_ahead_14 (by decide) (fun c_4 => ?_) (fun c_4 => ?_)
    · have h := ifp c_4 h
      refine lv_aload_n hx hb dX5_ahead_27 rfl (lv_at hl 0 rfl) ?_
      refine lv_ldc (v := (-1000001)) hx hb hown (hts _ (List.mem_of_getElem? (i := 1) rfl)) dX5_ahead_28 ?_
      obtain ⟨z_5, e_6, h⟩ := bds h
      have hPc := hP.sub (ws' := (wX5 cI cS a0 a1 a2 a3 a4 a5 a6 a7 a8 a9 a10 a11 nw kp ad fd tp kn it wd sz nm mv ik td bg en so va iw im st ht)) [0, 1, 2, 3, 4, 5, 6, 7, 8, 9, 10, 11] rfl
      refine kMi (wf' := (wX5 cI cS a0 a1 a2 a3 a4 a5 a6 a7 a8 a9 a10 a11 nw kp ad z_5.2 tp kn it wd sz nm mv ik td bg en so va iw im st ht)) [0, 1, 2, 3, 4, 5, 6, 7, 8, 9, 10, 11] [some 0, some 1, some 2, some 3, some 4, some 5, some 6, some 7, some 8, some 9, some 10, some 11] (rV C0 (tX5_finding l D cI cS a0 a1 a2 a3 a4 a5 a6 a7 a8 a9 a10 a11 nw kp ad fd tp kn it wd sz nm mv ik td bg en so va iw im st ht (-1000001) z_5.1 z_5.2 e_6 (((hD (wX5 cI cS a0 a1 a2 a3 a4 a5 a6 a7 a8 a9 a10 a11 nw kp ad fd tp kn it wd sz nm mv ik td bg en so va iw im st ht) rfl).sub [0, 1, 2, 3, 4, 5, 6, 7, 8, 9, 10, 11] (by decide) rfl).weaken (fun _ _ _ _ => trivial))) RX5 gX5_ahead_X5_finding rfl ⟨rfl, rfl⟩ pdX5_finding rfl ⟨Nat.le_of_ble_eq_true rfl, Nat.le_of_ble_eq_true rfl⟩ (fun _ _ _ _ q => q) (va_recv hE.1 hPc (ci := 4) (q0 := 0) rfl rfl) (fun U hU _ _ => by rw [hU]; exact hPc) hl.1 rfl (Nat.le_of_ble_eq_true rfl) dX5_ahead_30 ⟨Nat.zero_le _, Nat.zero_le _⟩) hP (hD _ rfl) hS rfl rfl rfl (fun H locs hP hS => ?_)
      obtain ⟨q0, g0⟩ := Prod.mk.inj (Option.some.inj h)
      obtain ⟨q1, g1⟩ := Prod.mk.inj g0
      obtain ⟨q2, q3⟩ := Prod.mk.inj g1
      subst q0 q1 q2 q3
      exact eMi C0 hP hS rfl rfl dX5_ahead_33
    · have h := ifn c_4 h
      refine lv_iload_n hx hb dX5_ahead_17 rfl (lv_at hl 3 rfl) ?_
      refine lv_iconst (v := 0) hx hb dX5_ahead_18 (by decide) ?_
      refine lv_bipush (v := 100) hx hb dX5_ahead_19 (by decide) ?_
      refine kRi (rS C0 (tX5_within l D cI cS v3 0 100 (fX5_within v3 0 100) rfl) gX5_ahead_X5_within rfl ⟨rfl, rfl⟩ pdX5_within rfl ⟨Nat.le_of_ble_eq_true rfl, Nat.le_of_ble_eq_true rfl⟩ (fun _ _ _ _ q => q) (fun _ _ _ _ => vp0) hl.1 rfl (Nat.le_of_ble_eq_true rfl) dX5_ahead_21 ⟨Nat.zero_le _, Nat.zero_le _⟩) ?_
      refine lv_if_ne (tgt := 34) hx hb dX5_ahead_24 (by decide) (fun c_7 => ?_) (fun c_7 => ?_)
      · have h := ifn c_7 h
        refine lv_aload_n hx hb dX5_ahead_34 rfl (lv_at hl 0 rfl) ?_
        refine va_get (D := D) (ci := 4) (v := .ref a1) (C := RX5) (T := TX5) (N := 21) hx hb hts hinX5 hown hE.1 hP 0 rfl rfl 0 (by decide) (hts _ (List.mem_of_getElem? (i := 2) rfl)) (fun _ h9 => h9) rfl dX5_ahead_35 ?_
        refine lv_aload_n hx hb dX5_ahead_38 rfl (lv_at hl 0 rfl) ?_
        refine va_get (D := D) (ci := 4) (v := .ref a3) (C := RX5) (T := TX5) (N := 21) hx hb hts hinX5 hown hE.1 hP 0 rfl rfl 2 (by decide) (hts _ (List.mem_of_getElem? (i := 3) rfl)) (fun _ h9 => h9) rfl dX5_ahead_39 ?_
        obtain ⟨z_8, e_9, h⟩ := bds h
        have hPc := hP.sub (ws' := (wR2 cI cS a1 a3 nw ad)) [1, 3] rfl
        refine kMv (wf' := (wX5 cI cS a0 a1 a2 a3 a4 a5 a6 a7 a8 a9 a10 a11 nw kp z_8 fd tp kn it wd sz nm mv ik td bg en so va iw im st ht)) [1, 3] [none, some 0, none, some 1, none, none, none, none, none, none, none, none] (rS C0 (tX5_copyRow l D cI cS F a1 a3 nw ad  z_8 e_9 (((hD (wX5 cI cS a0 a1 a2 a3 a4 a5 a6 a7 a8 a9 a10 a11 nw kp ad fd tp kn it wd sz nm mv ik td bg en so va iw im st ht) rfl).sub [1, 3] (by decide) rfl).weaken (fun _ _ _ _ => trivial))) gX5_ahead_X5_copyRow rfl ⟨rfl, rfl⟩ pdX5_copyRow rfl ⟨Nat.le_of_ble_eq_true rfl, Nat.le_of_ble_eq_true rfl⟩ (fun _ _ _ _ q => q) (fun U hU _ _ => by rw [hU]; exact hPc) hl.1 rfl (Nat.le_of_ble_eq_true rfl) dX5_ahead_42 ⟨Nat.zero_le _, Nat.zero_le _⟩) hP (hD _ rfl) hS rfl rfl rfl (fun H locs hP hS => ?_)
        refine lv_aload_n hx hb dX5_ahead_45 rfl (lv_at hl 0 rfl) ?_
        refine lv_iload_n hx hb dX5_ahead_46 rfl (lv_at hl 3 rfl) ?_
        obtain ⟨z_10, e_11, h⟩ := bds h
        have hPc := hP.sub (ws' := (wX5 cI cS a0 a1 a2 a3 a4 a5 a6 a7 a8 a9 a10 a11 nw kp z_8 fd tp kn it wd sz nm mv ik td bg en so va iw im st ht)) [0, 1, 2, 3, 4, 5, 6, 7, 8, 9, 10, 11] rfl
        refine kMv (wf' := (wX5 cI cS a0 a1 a2 a3 a4 a5 a6 a7 a8 a9 a10 a11 z_10 kp z_8 fd tp kn it wd sz nm mv ik td bg en so va iw im st ht)) [0, 1, 2, 3, 4, 5, 6, 7, 8, 9, 10, 11] [some 0, some 1, some 2, some 3, some 4, some 5, some 6, some 7, some 8, some 9, some 10, some 11] (rV C0 (tX5_daysGo l D cI cS F a0 a1 a2 a3 a4 a5 a6 a7 a8 a9 a10 a11 nw kp z_8 fd tp kn it wd sz nm mv ik td bg en so va iw im st ht v3 z_10 e_11 (((hD (wX5 cI cS a0 a1 a2 a3 a4 a5 a6 a7 a8 a9 a10 a11 nw kp z_8 fd tp kn it wd sz nm mv ik td bg en so va iw im st ht) rfl).sub [0, 1, 2, 3, 4, 5, 6, 7, 8, 9, 10, 11] (by decide) rfl).weaken (fun _ _ _ _ => trivial))) RX5 gX5_ahead_X5_daysGo rfl ⟨rfl, rfl⟩ pdX5_daysGo rfl ⟨Nat.le_of_ble_eq_true rfl, Nat.le_of_ble_eq_true rfl⟩ (fun _ _ _ _ q => q) (va_recv hE.1 hPc (ci := 4) (q0 := 0) rfl rfl) (fun U hU _ _ => by rw [hU]; exact hPc) hl.1 rfl (Nat.le_of_ble_eq_true rfl) dX5_ahead_47 ⟨Nat.zero_le _, Nat.zero_le _⟩) hP (hD _ rfl) hS rfl rfl rfl (fun H locs hP hS => ?_)
        refine lv_aload_n hx hb dX5_ahead_50 rfl (lv_at hl 0 rfl) ?_
        refine lv_aload_n hx hb dX5_ahead_51 rfl (lv_at hl 0 rfl) ?_
        refine lv_iload_n hx hb dX5_ahead_52 rfl (lv_at hl 1 rfl) ?_
        refine lv_iload_n hx hb dX5_ahead_53 rfl (lv_at hl 2 rfl) ?_
        obtain ⟨z_12, e_13, h⟩ := bds h
        have hPc := hP.sub (ws' := (wX5 cI cS a0 a1 a2 a3 a4 a5 a6 a7 a8 a9 a10 a11 z_10 kp z_8 fd tp kn it wd sz nm mv ik td bg en so va iw im st ht)) [0, 1, 2, 3, 4, 5, 6, 7, 8, 9, 10, 11] rfl
        refine kRi (rV C0 (tX5_told l D cI cS a0 a1 a2 a3 a4 a5 a6 a7 a8 a9 a10 a11 z_10 kp z_8 fd tp kn it wd sz nm mv ik td bg en so va iw im st ht v1 v2 z_12 e_13) RX5 gX5_ahead_X5_told rfl ⟨rfl, rfl⟩ pdX5_told rfl ⟨Nat.le_of_ble_eq_true rfl, Nat.le_of_ble_eq_true rfl⟩ (fun _ _ _ _ q => q) (va_recv hE.1 hPc (ci := 4) (q0 := 0) rfl rfl) (fun U hU _ _ => by rw [hU]; exact hPc) hl.1 rfl (Nat.le_of_ble_eq_true rfl) dX5_ahead_54 ⟨Nat.zero_le _, Nat.zero_le _⟩) ?_
        obtain ⟨z_14, e_15, h⟩ := bds h
        have hPc := hP.sub (ws' := (wX5 cI cS a0 a1 a2 a3 a4 a5 a6 a7 a8 a9 a10 a11 z_10 kp z_8 fd tp kn it wd sz nm mv ik td bg en so va iw im st ht)) [0, 1, 2, 3, 4, 5, 6, 7, 8, 9, 10, 11] rfl
        refine kMi (wf' := (wX5 cI cS a0 a1 a2 a3 a4 a5 a6 a7 a8 a9 a10 a11 z_14.2 kp z_8 fd tp kn it wd sz nm mv ik td bg en so va iw im st ht)) [0, 1, 2, 3, 4, 5, 6, 7, 8, 9, 10, 11] [some 0, some 1, some 2, some 3, some 4, some 5, some 6, some 7, some 8, some 9, some 10, some 11] (rV C0 (tX5_putBack l D cI cS F a0 a1 a2 a3 a4 a5 a6 a7 a8 a9 a10 a11 z_10 kp z_8 fd tp kn it wd sz nm mv ik td bg en so va iw im st ht z_12 z_14.1 z_14.2 e_15 (((hD (wX5 cI cS a0 a1 a2 a3 a4 a5 a6 a7 a8 a9 a10 a11 z_10 kp z_8 fd tp kn it wd sz nm mv ik td bg en so va iw im st ht) rfl).sub [0, 1, 2, 3, 4, 5, 6, 7, 8, 9, 10, 11] (by decide) rfl).weaken (fun _ _ _ _ => trivial))) RX5 gX5_ahead_X5_putBack rfl ⟨rfl, rfl⟩ pdX5_putBack rfl ⟨Nat.le_of_ble_eq_true rfl, Nat.le_of_ble_eq_true rfl⟩ (fun _ _ _ _ q => q) (va_recv hE.1 hPc (ci := 4) (q0 := 0) rfl rfl) (fun U hU _ _ => by rw [hU]; exact hPc) hl.1 rfl (Nat.le_of_ble_eq_true rfl) dX5_ahead_57 ⟨Nat.zero_le _, Nat.zero_le _⟩) hP (hD _ rfl) hS rfl rfl rfl (fun H locs hP hS => ?_)
        obtain ⟨q0, g0⟩ := Prod.mk.inj (Option.some.inj h)
        obtain ⟨q1, g1⟩ := Prod.mk.inj g0
        obtain ⟨q2, q3⟩ := Prod.mk.inj g1
        subst q0 q1 q2 q3
        exact eMi C0 hP hS rfl rfl dX5_ahead_60
      · have h := ifp c_7 h
        refine lv_aload_n hx hb dX5_ahead_27 rfl (lv_at hl 0 rfl) ?_
        refine lv_ldc (v := (-1000001)) hx hb hown (hts _ (List.mem_of_getElem? (i := 1) rfl)) dX5_ahead_28 ?_
        obtain ⟨z_16, e_17, h⟩ := bds h
        have hPc := hP.sub (ws' := (wX5 cI cS a0 a1 a2 a3 a4 a5 a6 a7 a8 a9 a10 a11 nw kp ad fd tp kn it wd sz nm mv ik td bg en so va iw im st ht)) [0, 1, 2, 3, 4, 5, 6, 7, 8, 9, 10, 11] rfl
        refine kMi (wf' := (wX5 cI cS a0 a1 a2 a3 a4 a5 a6 a7 a8 a9 a10 a11 nw kp ad z_16.2 tp kn it wd sz nm mv ik td bg en so va iw im st ht)) [0, 1, 2, 3, 4, 5, 6, 7, 8, 9, 10, 11] [some 0, some 1, some 2, some 3, some 4, some 5, some 6, some 7, some 8, some 9, some 10, some 11] (rV C0 (tX5_finding l D cI cS a0 a1 a2 a3 a4 a5 a6 a7 a8 a9 a10 a11 nw kp ad fd tp kn it wd sz nm mv ik td bg en so va iw im st ht (-1000001) z_16.1 z_16.2 e_17 (((hD (wX5 cI cS a0 a1 a2 a3 a4 a5 a6 a7 a8 a9 a10 a11 nw kp ad fd tp kn it wd sz nm mv ik td bg en so va iw im st ht) rfl).sub [0, 1, 2, 3, 4, 5, 6, 7, 8, 9, 10, 11] (by decide) rfl).weaken (fun _ _ _ _ => trivial))) RX5 gX5_ahead_X5_finding rfl ⟨rfl, rfl⟩ pdX5_finding rfl ⟨Nat.le_of_ble_eq_true rfl, Nat.le_of_ble_eq_true rfl⟩ (fun _ _ _ _ q => q) (va_recv hE.1 hPc (ci := 4) (q0 := 0) rfl rfl) (fun U hU _ _ => by rw [hU]; exact hPc) hl.1 rfl (Nat.le_of_ble_eq_true rfl) dX5_ahead_30 ⟨Nat.zero_le _, Nat.zero_le _⟩) hP (hD _ rfl) hS rfl rfl rfl (fun H locs hP hS => ?_)
        obtain ⟨q0, g0⟩ := Prod.mk.inj (Option.some.inj h)
        obtain ⟨q1, g1⟩ := Prod.mk.inj g0
        obtain ⟨q2, q3⟩ := Prod.mk.inj g1
        subst q0 q1 q2 q3
        exact eMi C0 hP hS rfl rfl dX5_ahead_33
def fX5_later (F : Nat) (nw : Nat → Int32) (ad : Nat → Int32) (fd : Nat → Int32) (v1 : Int32) (v2 : Int32) (v3 : Int32) : Option (Int32 × (Nat → Int32) × (Nat → Int32) × (Nat → Int32)) := (if (fX5_isShip nw v1) = 0 then Option.bind (fX5_finding fd (-1000001)) (fun z_2 => some (z_2.1, nw, ad, z_2.2)) else (if v2 = 0 then (if (fX5_within v3 0 100) = 0 then Option.bind (fX5_finding fd (-1000001)) (fun z_6 => some (z_6.1, nw, ad, z_6.2)) else Option.bind (fX5_behind F nw ad (fX5_shipAt v1 v2) v3) (fun z_8 => some (z_8.1, z_8.2.1, z_8.2.2, fd))) else (if v2 = 3 then (if (fX5_within v3 0 100) = 0 then Option.bind (fX5_finding fd (-1000001)) (fun z_14 => some (z_14.1, nw, ad, z_14.2)) else Option.bind (fX5_behind F nw ad (fX5_shipAt v1 v2) v3) (fun z_16 => some (z_16.1, z_16.2.1, z_16.2.2, fd))) else Option.bind (fX5_finding fd (-1000001)) (fun z_11 => some (z_11.1, nw, ad, z_11.2)))))
abbrev rmX5_later : Room := { frames := 8, cells := 0, slots := 0, locals := 179 }
theorem pdX5_later : (yX5_later.cls = RX5 ∧ yX5_later.cls ≠ "java/lang/invoke/MethodHandle" ∧ yX5_later.cls ≠ "java/lang/invoke/VarHandle" ∧ (parseMethodDescriptor yX5_later.desc).map (fun d => d.parameters.length) = some 3) := by decide +kernel
set_option maxHeartbeats 4000000 in
set_option maxRecDepth 100000 in
theorem tX5_later (l : Launch) (D : va_G) (cI cS : ClassId) (F : Nat) (a0 a1 a2 a3 a4 a5 a6 a7 a8 a9 a10 a11 : Nat) (nw : Nat → Int32) (kp : Nat → Int32) (ad : Nat → Int32) (fd : Nat → Int32) (tp : Nat → Int32) (kn : Nat → Option Nat) (it : Nat → Int32) (wd : Nat → Int32) (sz : Nat → Int32) (nm : Nat → Int32) (mv : Nat → Int32) (ik : Int32) (td : Int32) (bg : Int32) (en : Int32) (so : Int32) (va : Int32) (iw : Int32) (im : Int32) (st : Int32) (ht : Int32) (v1 : Int32) (v2 : Int32) (v3 : Int32) (z0 : Int32) (z1 : Nat → Int32) (z2 : Nat → Int32) (z3 : Nat → Int32) (h : fX5_later F nw ad fd v1 v2 v3 = some (z0, z1, z2, z3)) (hD0 : va_D (fun _ => True) (wX5 cI cS a0 a1 a2 a3 a4 a5 a6 a7 a8 a9 a10 a11 nw kp ad fd tp kn it wd sz nm mv ik td bg en so va iw im st ht)) : Met l yX5_later wsX5_later rmX5_later (PZ D cI cS [.ref a0, .int v1, .int v2, .int v3] (fun U => va_P D vwCl (wX5 cI cS a0 a1 a2 a3 a4 a5 a6 a7 a8 a9 a10 a11 nw kp ad fd tp kn it wd sz nm mv ik td bg en so va iw im st ht) U.heap)) (qI D (wX5 cI cS a0 a1 a2 a3 a4 a5 a6 a7 a8 a9 a10 a11 nw kp ad fd tp kn it wd sz nm mv ik td bg en so va iw im st ht) (wX5 cI cS a0 a1 a2 a3 a4 a5 a6 a7 a8 a9 a10 a11 z1 kp z2 z3 tp kn it wd sz nm mv ik td bg en so va iw im st ht) z0) 0 0 (wA (wX5 cI cS a0 a1 a2 a3 a4 a5 a6 a7 a8 a9 a10 a11 nw kp ad fd tp kn it wd sz nm mv ik td bg en so va iw im st ht)) := by
  refine Met.mk RX5 (by decide) rfl rfl (Nat.le_of_ble_eq_true rfl) ?_
  intro p e s m below meth c ls C0 hP hl
  have hl : lv_has ls 4 [(0, .ref a0), (1, .int v1), (2, .int v2), (3, .int v3)] := hl
  obtain ⟨hx, hb, hr, hml, hown, hts, hlk, hE⟩ := id C0
  have hD : ∀ W : va_W, W.map Prod.fst = [a0, a1, a2, a3, a4, a5, a6, a7, a8, a9, a10, a11] → va_D (wA (wX5 cI cS a0 a1 a2 a3 a4 a5 a6 a7 a8 a9 a10 a11 nw kp ad fd tp kn it wd sz nm mv ik td bg en so va iw im st ht)) W := fun W hW => hD0.own.re hW
  have hS : va_S (wA (wX5 cI cS a0 a1 a2 a3 a4 a5 a6 a7 a8 a9 a10 a11 nw kp ad fd tp kn it wd sz nm mv ik td bg en so va iw im st ht)) s.heap s.heap [] := va_S.rf
  have hP : va_P D vwCl (wX5 cI cS a0 a1 a2 a3 a4 a5 a6 a7 a8 a9 a10 a11 nw kp ad fd tp kn it wd sz nm mv ik td bg en so va iw im st ht) s.heap := hP
  rw [fX5_later] at h
  refine lv_aload_n hx hb dX5_later_0 rfl (lv_at hl 0 rfl) ?_
  refine lv_iload_n hx hb dX5_later_1 rfl (lv_at hl 1 rfl) ?_
  have hPc := hP.sub (ws' := (wX5 cI cS a0 a1 a2 a3 a4 a5 a6 a7 a8 a9 a10 a11 nw kp ad fd tp kn it wd sz nm mv ik td bg en so va iw im st ht)) [0, 1, 2, 3, 4, 5, 6, 7, 8, 9, 10, 11] rfl
  refine kRi (rV C0 (tX5_isShip l D cI cS a0 a1 a2 a3 a4 a5 a6 a7 a8 a9 a10 a11 nw kp ad fd tp kn it wd sz nm mv ik td bg en so va iw im st ht v1 (fX5_isShip nw v1) rfl) RX5 gX5_later_X5_isShip rfl ⟨rfl, rfl⟩ pdX5_isShip rfl ⟨Nat.le_of_ble_eq_true rfl, Nat.le_of_ble_eq_true rfl⟩ (fun _ _ _ _ q => q) (va_recv hE.1 hPc (ci := 4) (q0 := 0) rfl rfl) (fun U hU _ _ => by rw [hU]; exact hPc) hl.1 rfl (Nat.le_of_ble_eq_true rfl) dX5_later_2 ⟨Nat.zero_le _, Nat.zero_le _⟩) ?_
  refine lv_if_eq (tgt := 40) hx hb dX5_later_5 (by decide) (fun c_1 => ?_) (fun c_1 => ?_)
  · have h := ifp c_1 h
    refine lv_aload_n hx hb dX5_later_40 rfl (lv_at hl 0 rfl) ?_
    refine lv_ldc (v := (-1000001)) hx hb hown (hts _ (List.mem_of_getElem? (i := 1) rfl)) dX5_later_41 ?_
    obtain ⟨z_2, e_3, h⟩ := bds h
    have hPc := hP.sub (ws' := (wX5 cI cS a0 a1 a2 a3 a4 a5 a6 a7 a8 a9 a10 a11 nw kp ad fd tp kn it wd sz nm mv ik td bg en so va iw im st ht)) [0, 1, 2, 3, 4, 5, 6, 7, 8, 9, 10, 11] rfl
    refine kMi (wf' := (wX5 cI cS a0 a1 a2 a3 a4 a5 a6 a7 a8 a9 a10 a11 nw kp ad z_2.2 tp kn it wd sz nm mv ik td bg en so va iw im st ht)) [0, 1, 2, 3, 4, 5, 6, 7, 8, 9, 10, 11] [some 0, some 1, some 2, some 3, some 4, some 5, some 6, some 7, some 8, some 9, some 10, some 11] (rV C0 (tX5_finding l D cI cS a0 a1 a2 a3 a4 a5 a6 a7 a8 a9 a10 a11 nw kp ad fd tp kn it wd sz nm mv ik td bg en so va iw im st ht (-1000001) z_2.1 z_2.2 e_3 (((hD (wX5 cI cS a0 a1 a2 a3 a4 a5 a6 a7 a8 a9 a10 a11 nw kp ad fd tp kn it wd sz nm mv ik td bg en so va iw im st ht) rfl).sub [0, 1, 2, 3, 4, 5, 6, 7, 8, 9, 10, 11] (by decide) rfl).weaken (fun _ _ _ _ => trivial))) RX5 gX5_later_X5_finding rfl ⟨rfl, rfl⟩ pdX5_finding rfl ⟨Nat.le_of_ble_eq_true rfl, Nat.le_of_ble_eq_true rfl⟩ (fun _ _ _ _ q => q) (va_recv hE.1 hPc (ci := 4) (q0 := 0) rfl rfl) (fun U hU _ _ => by rw [hU]; exact hPc) hl.1 rfl (Nat.le_of_ble_eq_true rfl) dX5_later_43 ⟨Nat.zero_le _, Nat.zero_le _⟩) hP (hD _ rfl) hS rfl rfl rfl (fun H locs hP hS => ?_)
    obtain ⟨q0, g0⟩ := Prod.mk.inj (Option.some.inj h)
    obtain ⟨q1, g1⟩ := Prod.mk.inj g0
    obtain ⟨q2, q3⟩ := Prod.mk.inj g1
    subst q0 q1 q2 q3
    exact eMi C0 hP hS rfl rfl dX5_later_46
  · have h := ifn c_1 h
    refine lv_iload_n hx hb dX5_later_8 rfl (lv_at hl 2 rfl) ?_
    refine lv_if_eq (tgt := 17) hx hb dX5_later_9 (by decide) (fun c_4 => ?_) (fun c_4 => ?_)
    · have h := ifp c_4 h
      refine lv_iload_n hx hb dX5_later_17 rfl (lv_at hl 3 rfl) ?_
      refine lv_iconst (v := 0) hx hb dX5_later_18 (by decide) ?_
      refine lv_bipush (v := 100) hx hb dX5_later_19 (by decide) ?_
      refine kRi (rS C0 (tX5_within l D cI cS v3 0 100 (fX5_within v3 0 100) rfl) gX5_later_X5_within rfl ⟨rfl, rfl⟩ pdX5_within rfl ⟨Nat.le_of_ble_eq_true rfl, Nat.le_of_ble_eq_true rfl⟩ (fun _ _ _ _ q => q) (fun _ _ _ _ => vp0) hl.1 rfl (Nat.le_of_ble_eq_true rfl) dX5_later_21 ⟨Nat.zero_le _, Nat.zero_le _⟩) ?_
      refine lv_if_eq (tgt := 40) hx hb dX5_later_24 (by decide) (fun c_5 => ?_) (fun c_5 => ?_)
      · have h := ifp c_5 h
        refine lv_aload_n hx hb dX5_later_40 rfl (lv_at hl 0 rfl) ?_
        refine lv_ldc (v := (-1000001)) hx hb hown (hts _ (List.mem_of_getElem? (i := 1) rfl)) dX5_later_41 ?_
        obtain ⟨z_6, e_7, h⟩ := bds h
        have hPc := hP.sub (ws' := (wX5 cI cS a0 a1 a2 a3 a4 a5 a6 a7 a8 a9 a10 a11 nw kp ad fd tp kn it wd sz nm mv ik td bg en so va iw im st ht)) [0, 1, 2, 3, 4, 5, 6, 7, 8, 9, 10, 11] rfl
        refine kMi (wf' := (wX5 cI cS a0 a1 a2 a3 a4 a5 a6 a7 a8 a9 a10 a11 nw kp ad z_6.2 tp kn it wd sz nm mv ik td bg en so va iw im st ht)) [0, 1, 2, 3, 4, 5, 6, 7, 8, 9, 10, 11] [some 0, some 1, some 2, some 3, some 4, some 5, some 6, some 7, some 8, some 9, some 10, some 11] (rV C0 (tX5_finding l D cI cS a0 a1 a2 a3 a4 a5 a6 a7 a8 a9 a10 a11 nw kp ad fd tp kn it wd sz nm mv ik td bg en so va iw im st ht (-1000001) z_6.1 z_6.2 e_7 (((hD (wX5 cI cS a0 a1 a2 a3 a4 a5 a6 a7 a8 a9 a10 a11 nw kp ad fd tp kn it wd sz nm mv ik td bg en so va iw im st ht) rfl).sub [0, 1, 2, 3, 4, 5, 6, 7, 8, 9, 10, 11] (by decide) rfl).weaken (fun _ _ _ _ => trivial))) RX5 gX5_later_X5_finding rfl ⟨rfl, rfl⟩ pdX5_finding rfl ⟨Nat.le_of_ble_eq_true rfl, Nat.le_of_ble_eq_true rfl⟩ (fun _ _ _ _ q => q) (va_recv hE.1 hPc (ci := 4) (q0 := 0) rfl rfl) (fun U hU _ _ => by rw [hU]; exact hPc) hl.1 rfl (Nat.le_of_ble_eq_true rfl) dX5_later_43 ⟨Nat.zero_le _, Nat.zero_le _⟩) hP (hD _ rfl) hS rfl rfl rfl (fun H locs hP hS => ?_)
        obtain ⟨q0, g0⟩ := Prod.mk.inj (Option.some.inj h)
        obtain ⟨q1, g1⟩ := Prod.mk.inj g0
        obtain ⟨q2, q3⟩ := Prod.mk.inj g1
        subst q0 q1 q2 q3
        exact eMi C0 hP hS rfl rfl dX5_later_46
      · have h := ifn c_5 h
        refine lv_aload_n hx hb dX5_later_27 rfl (lv_at hl 0 rfl) ?_
        refine lv_iload_n hx hb dX5_later_28 rfl (lv_at hl 1 rfl) ?_
        refine lv_iload_n hx hb dX5_later_29 rfl (lv_at hl 2 rfl) ?_
        refine kRi (rS C0 (tX5_shipAt l D cI cS v1 v2 (fX5_shipAt v1 v2) rfl) gX5_later_X5_shipAt rfl ⟨rfl, rfl⟩ pdX5_shipAt rfl ⟨Nat.le_of_ble_eq_true rfl, Nat.le_of_ble_eq_true rfl⟩ (fun _ _ _ _ q => q) (fun _ _ _ _ => vp0) hl.1 rfl (Nat.le_of_ble_eq_true rfl) dX5_later_30 ⟨Nat.zero_le _, Nat.zero_le _⟩) ?_
        refine lv_iload_n hx hb dX5_later_33 rfl (lv_at hl 3 rfl) ?_
        obtain ⟨z_8, e_9, h⟩ := bds h
        have hPc := hP.sub (ws' := (wX5 cI cS a0 a1 a2 a3 a4 a5 a6 a7 a8 a9 a10 a11 nw kp ad fd tp kn it wd sz nm mv ik td bg en so va iw im st ht)) [0, 1, 2, 3, 4, 5, 6, 7, 8, 9, 10, 11] rfl
        refine kMi (wf' := (wX5 cI cS a0 a1 a2 a3 a4 a5 a6 a7 a8 a9 a10 a11 z_8.2.1 kp z_8.2.2 fd tp kn it wd sz nm mv ik td bg en so va iw im st ht)) [0, 1, 2, 3, 4, 5, 6, 7, 8, 9, 10, 11] [some 0, some 1, some 2, some 3, some 4, some 5, some 6, some 7, some 8, some 9, some 10, some 11] (rV C0 (tX5_behind l D cI cS F a0 a1 a2 a3 a4 a5 a6 a7 a8 a9 a10 a11 nw kp ad fd tp kn it wd sz nm mv ik td bg en so va iw im st ht (fX5_shipAt v1 v2) v3 z_8.1 z_8.2.1 z_8.2.2 e_9 (((hD (wX5 cI cS a0 a1 a2 a3 a4 a5 a6 a7 a8 a9 a10 a11 nw kp ad fd tp kn it wd sz nm mv ik td bg en so va iw im st ht) rfl).sub [0, 1, 2, 3, 4, 5, 6, 7, 8, 9, 10, 11] (by decide) rfl).weaken (fun _ _ _ _ => trivial))) RX5 gX5_later_X5_behind rfl ⟨rfl, rfl⟩ pdX5_behind rfl ⟨Nat.le_of_ble_eq_true rfl, Nat.le_of_ble_eq_true rfl⟩ (fun _ _ _ _ q => q) (va_recv hE.1 hPc (ci := 4) (q0 := 0) rfl rfl) (fun U hU _ _ => by rw [hU]; exact hPc) hl.1 rfl (Nat.le_of_ble_eq_true rfl) dX5_later_34 ⟨Nat.zero_le _, Nat.zero_le _⟩) hP (hD _ rfl) hS rfl rfl rfl (fun H locs hP hS => ?_)
        refine lv_goto (tgt := 46) hx hb dX5_later_37 (by decide) ?_
        obtain ⟨q0, g0⟩ := Prod.mk.inj (Option.some.inj h)
        obtain ⟨q1, g1⟩ := Prod.mk.inj g0
        obtain ⟨q2, q3⟩ := Prod.mk.inj g1
        subst q0 q1 q2 q3
        exact eMi C0 hP hS rfl rfl dX5_later_46
    · have h := ifn c_4 h
      refine lv_iload_n hx hb dX5_later_12 rfl (lv_at hl 2 rfl) ?_
      refine lv_iconst (v := 3) hx hb dX5_later_13 (by decide) ?_
      refine lv_icmp_ne (tgt := 40) hx hb dX5_later_14 (by decide) (fun c_10 => ?_) (fun c_10 => ?_)
      · have h := ifn c_10 h
        refine lv_aload_n hx hb dX5_later_40 rfl (lv_at hl 0 rfl) ?_
        refine lv_ldc (v := (-1000001)) hx hb hown (hts _ (List.mem_of_getElem? (i := 1) rfl)) dX5_later_41 ?_
        obtain ⟨z_11, e_12, h⟩ := bds h
        have hPc := hP.sub (ws' := (wX5 cI cS a0 a1 a2 a3 a4 a5 a6 a7 a8 a9 a10 a11 nw kp ad fd tp kn it wd sz nm mv ik td bg en so va iw im st ht)) [0, 1, 2, 3, 4, 5, 6, 7, 8, 9, 10, 11] rfl
        refine kMi (wf' := (wX5 cI cS a0 a1 a2 a3 a4 a5 a6 a7 a8 a9 a10 a11 nw kp ad z_11.2 tp kn it wd sz nm mv ik td bg en so va iw im st ht)) [0, 1, 2, 3, 4, 5, 6, 7, 8, 9, 10, 11] [some 0, some 1, some 2, some 3, some 4, some 5, some 6, some 7, some 8, some 9, some 10, some 11] (rV C0 (tX5_finding l D cI cS a0 a1 a2 a3 a4 a5 a6 a7 a8 a9 a10 a11 nw kp ad fd tp kn it wd sz nm mv ik td bg en so va iw im st ht (-1000001) z_11.1 z_11.2 e_12 (((hD (wX5 cI cS a0 a1 a2 a3 a4 a5 a6 a7 a8 a9 a10 a11 nw kp ad fd tp kn it wd sz nm mv ik td bg en so va iw im st ht) rfl).sub [0, 1, 2, 3, 4, 5, 6, 7, 8, 9, 10, 11] (by decide) rfl).weaken (fun _ _ _ _ => trivial))) RX5 gX5_later_X5_finding rfl ⟨rfl, rfl⟩ pdX5_finding rfl ⟨Nat.le_of_ble_eq_true rfl, Nat.le_of_ble_eq_true rfl⟩ (fun _ _ _ _ q => q) (va_recv hE.1 hPc (ci := 4) (q0 := 0) rfl rfl) (fun U hU _ _ => by rw [hU]; exact hPc) hl.1 rfl (Nat.le_of_ble_eq_true rfl) dX5_later_43 ⟨Nat.zero_le _, Nat.zero_le _⟩) hP (hD _ rfl) hS rfl rfl rfl (fun H locs hP hS => ?_)
        obtain ⟨q0, g0⟩ := Prod.mk.inj (Option.some.inj h)
        obtain ⟨q1, g1⟩ := Prod.mk.inj g0
        obtain ⟨q2, q3⟩ := Prod.mk.inj g1
        subst q0 q1 q2 q3
        exact eMi C0 hP hS rfl rfl dX5_later_46
      · have h := ifp c_10 h
        refine lv_iload_n hx hb dX5_later_17 rfl (lv_at hl 3 rfl) ?_
        refine lv_iconst (v := 0) hx hb dX5_later_18 (by decide) ?_
        refine lv_bipush (v := 100) hx hb dX5_later_19 (by decide) ?_
        refine kRi (rS C0 (tX5_within l D cI cS v3 0 100 (fX5_within v3 0 100) rfl) gX5_later_X5_within rfl ⟨rfl, rfl⟩ pdX5_within rfl ⟨Nat.le_of_ble_eq_true rfl, Nat.le_of_ble_eq_true rfl⟩ (fun _ _ _ _ q => q) (fun _ _ _ _ => vp0) hl.1 rfl (Nat.le_of_ble_eq_true rfl) dX5_later_21 ⟨Nat.zero_le _, Nat.zero_le _⟩) ?_
        refine lv_if_eq (tgt := 40) hx hb dX5_later_24 (by decide) (fun c_13 => ?_) (fun c_13 => ?_)
        · have h := ifp c_13 h
          refine lv_aload_n hx hb dX5_later_40 rfl (lv_at hl 0 rfl) ?_
          refine lv_ldc (v := (-1000001)) hx hb hown (hts _ (List.mem_of_getElem? (i := 1) rfl)) dX5_later_41 ?_
          obtain ⟨z_14, e_15, h⟩ := bds h
          have hPc := hP.sub (ws' := (wX5 cI cS a0 a1 a2 a3 a4 a5 a6 a7 a8 a9 a10 a11 nw kp ad fd tp kn it wd sz nm mv ik td bg en so va iw im st ht)) [0, 1, 2, 3, 4, 5, 6, 7, 8, 9, 10, 11] rfl
          refine kMi (wf' := (wX5 cI cS a0 a1 a2 a3 a4 a5 a6 a7 a8 a9 a10 a11 nw kp ad z_14.2 tp kn it wd sz nm mv ik td bg en so va iw im st ht)) [0, 1, 2, 3, 4, 5, 6, 7, 8, 9, 10, 11] [some 0, some 1, some 2, some 3, some 4, some 5, some 6, some 7, some 8, some 9, some 10, some 11] (rV C0 (tX5_finding l D cI cS a0 a1 a2 a3 a4 a5 a6 a7 a8 a9 a10 a11 nw kp ad fd tp kn it wd sz nm mv ik td bg en so va iw im st ht (-1000001) z_14.1 z_14.2 e_15 (((hD (wX5 cI cS a0 a1 a2 a3 a4 a5 a6 a7 a8 a9 a10 a11 nw kp ad fd tp kn it wd sz nm mv ik td bg en so va iw im st ht) rfl).sub [0, 1, 2, 3, 4, 5, 6, 7, 8, 9, 10, 11] (by decide) rfl).weaken (fun _ _ _ _ => trivial))) RX5 gX5_later_X5_finding rfl ⟨rfl, rfl⟩ pdX5_finding rfl ⟨Nat.le_of_ble_eq_true rfl, Nat.le_of_ble_eq_true rfl⟩ (fun _ _ _ _ q => q) (va_recv hE.1 hPc (ci := 4) (q0 := 0) rfl rfl) (fun U hU _ _ => by rw [hU]; exact hPc) hl.1 rfl (Nat.le_of_ble_eq_true rfl) dX5_later_43 ⟨Nat.zero_le _, Nat.zero_le _⟩) hP (hD _ rfl) hS rfl rfl rfl (fun H locs hP hS => ?_)
          obtain ⟨q0, g0⟩ := Prod.mk.inj (Option.some.inj h)
          obtain ⟨q1, g1⟩ := Prod.mk.inj g0
          obtain ⟨q2, q3⟩ := Prod.mk.inj g1
          subst q0 q1 q2 q3
          exact eMi C0 hP hS rfl rfl dX5_later_46
        · have h := ifn c_13 h
          refine lv_aload_n hx hb dX5_later_27 rfl (lv_at hl 0 rfl) ?_
          refine lv_iload_n hx hb dX5_later_28 rfl (lv_at hl 1 rfl) ?_
          refine lv_iload_n hx hb dX5_later_29 rfl (lv_at hl 2 rfl) ?_
          refine kRi (rS C0 (tX5_shipAt l D cI cS v1 v2 (fX5_shipAt v1 v2) rfl) gX5_later_X5_shipAt rfl ⟨rfl, rfl⟩ pdX5_shipAt rfl ⟨Nat.le_of_ble_eq_true rfl, Nat.le_of_ble_eq_true rfl⟩ (fun _ _ _ _ q => q) (fun _ _ _ _ => vp0) hl.1 rfl (Nat.le_of_ble_eq_true rfl) dX5_later_30 ⟨Nat.zero_le _, Nat.zero_le _⟩) ?_
          refine lv_iload_n hx hb dX5_later_33 rfl (lv_at hl 3 rfl) ?_
          obtain ⟨z_16, e_17, h⟩ := bds h
          have hPc := hP.sub (ws' := (wX5 cI cS a0 a1 a2 a3 a4 a5 a6 a7 a8 a9 a10 a11 nw kp ad fd tp kn it wd sz nm mv ik td bg en so va iw im st ht)) [0, 1, 2, 3, 4, 5, 6, 7, 8, 9, 10, 11] rfl
          refine kMi (wf' := (wX5 cI cS a0 a1 a2 a3 a4 a5 a6 a7 a8 a9 a10 a11 z_16.2.1 kp z_16.2.2 fd tp kn it wd sz nm mv ik td bg en so va iw im st ht)) [0, 1, 2, 3, 4, 5, 6, 7, 8, 9, 10, 11] [some 0, some 1, some 2, some 3, some 4, some 5, some 6, some 7, some 8, some 9, some 10, some 11] (rV C0 (tX5_behind l D cI cS F a0 a1 a2 a3 a4 a5 a6 a7 a8 a9 a10 a11 nw kp ad fd tp kn it wd sz nm mv ik td bg en so va iw im st ht (fX5_shipAt v1 v2) v3 z_16.1 z_16.2.1 z_16.2.2 e_17 (((hD (wX5 cI cS a0 a1 a2 a3 a4 a5 a6 a7 a8 a9 a10 a11 nw kp ad fd tp kn it wd sz nm mv ik td bg en so va iw im st ht) rfl).sub [0, 1, 2, 3, 4, 5, 6, 7, 8, 9, 10, 11] (by decide) rfl).weaken (fun _ _ _ _ => trivial))) RX5 gX5_later_X5_behind rfl ⟨rfl, rfl⟩ pdX5_behind rfl ⟨Nat.le_of_ble_eq_true rfl, Nat.le_of_ble_eq_true rfl⟩ (fun _ _ _ _ q => q) (va_recv hE.1 hPc (ci := 4) (q0 := 0) rfl rfl) (fun U hU _ _ => by rw [hU]; exact hPc) hl.1 rfl (Nat.le_of_ble_eq_true rfl) dX5_later_34 ⟨Nat.zero_le _, Nat.zero_le _⟩) hP (hD _ rfl) hS rfl rfl rfl (fun H locs hP hS => ?_)
          refine lv_goto (tgt := 46) hx hb dX5_later_37 (by decide) ?_
          obtain ⟨q0, g0⟩ := Prod.mk.inj (Option.some.inj h)
          obtain ⟨q1, g1⟩ := Prod.mk.inj g0
          obtain ⟨q2, q3⟩ := Prod.mk.inj g1
          subst q0 q1 q2 q3
          exact eMi C0 hP hS rfl rfl dX5_later_46
def fX5_fog (F : Nat) (nw : Nat → Int32) (ad : Nat → Int32) (fd : Nat → Int32) (v1 : Int32) (v2 : Int32) : Option (Int32 × (Nat → Int32) × (Nat → Int32) × (Nat → Int32)) := (if (fX5_isCell v1) = 0 then Option.bind (fX5_finding fd (-1000001)) (fun z_2 => some (z_2.1, nw, ad, z_2.2)) else (if (fX5_within v2 0 100) = 0 then Option.bind (fX5_finding fd (-1000001)) (fun z_13 => some (z_13.1, nw, ad, z_13.2)) else Option.bind (fX5_copyRow F nw ad) (fun z_5 => Option.bind (fX5_daysGo F nw v2) (fun z_7 => Option.bind (fX5_thickAt F z_7 v1) (fun z_9 => Option.bind (fX5_putBack F z_7 z_5 z_9) (fun z_11 => some (z_11.1, z_11.2, z_5, fd)))))))
abbrev rmX5_fog : Room := { frames := 7, cells := 0, slots := 0, locals := 157 }
theorem pdX5_fog : (yX5_fog.cls = RX5 ∧ yX5_fog.cls ≠ "java/lang/invoke/MethodHandle" ∧ yX5_fog.cls ≠ "java/lang/invoke/VarHandle" ∧ (parseMethodDescriptor yX5_fog.desc).map (fun d => d.parameters.length) = some 2) := by decide +kernel
set_option maxHeartbeats 4000000 in
set_option maxRecDepth 100000 in
theorem tX5_fog (l : Launch) (D : va_G) (cI cS : ClassId) (F : Nat) (a0 a1 a2 a3 a4 a5 a6 a7 a8 a9 a10 a11 : Nat) (nw : Nat → Int32) (kp : Nat → Int32) (ad : Nat → Int32) (fd : Nat → Int32) (tp : Nat → Int32) (kn : Nat → Option Nat) (it : Nat → Int32) (wd : Nat → Int32) (sz : Nat → Int32) (nm : Nat → Int32) (mv : Nat → Int32) (ik : Int32) (td : Int32) (bg : Int32) (en : Int32) (so : Int32) (va : Int32) (iw : Int32) (im : Int32) (st : Int32) (ht : Int32) (v1 : Int32) (v2 : Int32) (z0 : Int32) (z1 : Nat → Int32) (z2 : Nat → Int32) (z3 : Nat → Int32) (h : fX5_fog F nw ad fd v1 v2 = some (z0, z1, z2, z3)) (hD0 : va_D (fun _ => True) (wX5 cI cS a0 a1 a2 a3 a4 a5 a6 a7 a8 a9 a10 a11 nw kp ad fd tp kn it wd sz nm mv ik td bg en so va iw im st ht)) : Met l yX5_fog wsX5_fog rmX5_fog (PZ D cI cS [.ref a0, .int v1, .int v2] (fun U => va_P D vwCl (wX5 cI cS a0 a1 a2 a3 a4 a5 a6 a7 a8 a9 a10 a11 nw kp ad fd tp kn it wd sz nm mv ik td bg en so va iw im st ht) U.heap)) (qI D (wX5 cI cS a0 a1 a2 a3 a4 a5 a6 a7 a8 a9 a10 a11 nw kp ad fd tp kn it wd sz nm mv ik td bg en so va iw im st ht) (wX5 cI cS a0 a1 a2 a3 a4 a5 a6 a7 a8 a9 a10 a11 z1 kp z2 z3 tp kn it wd sz nm mv ik td bg en so va iw im st ht) z0) 0 0 (wA (wX5 cI cS a0 a1 a2 a3 a4 a5 a6 a7 a8 a9 a10 a11 nw kp ad fd tp kn it wd sz nm mv ik td bg en so va iw im st ht)) := by
  refine Met.mk RX5 (by decide) rfl rfl (Nat.le_of_ble_eq_true rfl) ?_
  intro p e s m below meth c ls C0 hP hl
  have hl : lv_has ls 3 [(0, .ref a0), (1, .int v1), (2, .int v2)] := hl
  obtain ⟨hx, hb, hr, hml, hown, hts, hlk, hE⟩ := id C0
  have hinX5 : ∀ w ∈ u_ws RX5 TX5 21, w ∈ wsX5_fog := by decide +kernel
  have hD : ∀ W : va_W, W.map Prod.fst = [a0, a1, a2, a3, a4, a5, a6, a7, a8, a9, a10, a11] → va_D (wA (wX5 cI cS a0 a1 a2 a3 a4 a5 a6 a7 a8 a9 a10 a11 nw kp ad fd tp kn it wd sz nm mv ik td bg en so va iw im st ht)) W := fun W hW => hD0.own.re hW
  have hS : va_S (wA (wX5 cI cS a0 a1 a2 a3 a4 a5 a6 a7 a8 a9 a10 a11 nw kp ad fd tp kn it wd sz nm mv ik td bg en so va iw im st ht)) s.heap s.heap [] := va_S.rf
  have hP : va_P D vwCl (wX5 cI cS a0 a1 a2 a3 a4 a5 a6 a7 a8 a9 a10 a11 nw kp ad fd tp kn it wd sz nm mv ik td bg en so va iw im st ht) s.heap := hP
  rw [fX5_fog] at h
  refine lv_iload_n hx hb dX5_fog_0 rfl (lv_at hl 1 rfl) ?_
  refine kRi (rS C0 (tX5_isCell l D cI cS v1 (fX5_isCell v1) rfl) gX5_fog_X5_isCell rfl ⟨rfl, rfl⟩ pdX5_isCell rfl ⟨Nat.le_of_ble_eq_true rfl, Nat.le_of_ble_eq_true rfl⟩ (fun _ _ _ _ q => q) (fun _ _ _ _ => vp0) hl.1 rfl (Nat.le_of_ble_eq_true rfl) dX5_fog_1 ⟨Nat.zero_le _, Nat.zero_le _⟩) ?_
  refine lv_if_eq (tgt := 17) hx hb dX5_fog_4 (by decide) (fun c_1 => ?_) (fun c_1 => ?_)
  · have h := ifp c_1 h
    refine lv_aload_n hx hb dX5_fog_17 rfl (lv_at hl 0 rfl) ?_
    refine lv_ldc (v := (-1000001)) hx hb hown (hts _ (List.mem_of_getElem? (i := 1) rfl)) dX5_fog_18 ?_
    obtain ⟨z_2, e_3, h⟩ := bds h
    have hPc := hP.sub (ws' := (wX5 cI cS a0 a1 a2 a3 a4 a5 a6 a7 a8 a9 a10 a11 nw kp ad fd tp kn it wd sz nm mv ik td bg en so va iw im st ht)) [0, 1, 2, 3, 4, 5, 6, 7, 8, 9, 10, 11] rfl
    refine kMi (wf' := (wX5 cI cS a0 a1 a2 a3 a4 a5 a6 a7 a8 a9 a10 a11 nw kp ad z_2.2 tp kn it wd sz nm mv ik td bg en so va iw im st ht)) [0, 1, 2, 3, 4, 5, 6, 7, 8, 9, 10, 11] [some 0, some 1, some 2, some 3, some 4, some 5, some 6, some 7, some 8, some 9, some 10, some 11] (rV C0 (tX5_finding l D cI cS a0 a1 a2 a3 a4 a5 a6 a7 a8 a9 a10 a11 nw kp ad fd tp kn it wd sz nm mv ik td bg en so va iw im st ht (-1000001) z_2.1 z_2.2 e_3 (((hD (wX5 cI cS a0 a1 a2 a3 a4 a5 a6 a7 a8 a9 a10 a11 nw kp ad fd tp kn it wd sz nm mv ik td bg en so va iw im st ht) rfl).sub [0, 1, 2, 3, 4, 5, 6, 7, 8, 9, 10, 11] (by decide) rfl).weaken (fun _ _ _ _ => trivial))) RX5 gX5_fog_X5_finding rfl ⟨rfl, rfl⟩ pdX5_finding rfl ⟨Nat.le_of_ble_eq_true rfl, Nat.le_of_ble_eq_true rfl⟩ (fun _ _ _ _ q => q) (va_recv hE.1 hPc (ci := 4) (q0 := 0) rfl rfl) (fun U hU _ _ => by rw [hU]; exact hPc) hl.1 rfl (Nat.le_of_ble_eq_true rfl) dX5_fog_20 ⟨Nat.zero_le _, Nat.zero_le _⟩) hP (hD _ rfl) hS rfl rfl rfl (fun H locs hP hS => ?_)
    obtain ⟨q0, g0⟩ := Prod.mk.inj (Option.some.inj h)
    obtain ⟨q1, g1⟩ := Prod.mk.inj g0
    obtain ⟨q2, q3⟩ := Prod.mk.inj g1
    subst q0 q1 q2 q3
    exact eMi C0 hP hS rfl rfl dX5_fog_23
  · have h := ifn c_1 h
    refine lv_iload_n hx hb dX5_fog_7 rfl (lv_at hl 2 rfl) ?_
    refine lv_iconst (v := 0) hx hb dX5_fog_8 (by decide) ?_
    refine lv_bipush (v := 100) hx hb dX5_fog_9 (by decide) ?_
    refine kRi (rS C0 (tX5_within l D cI cS v2 0 100 (fX5_within v2 0 100) rfl) gX5_fog_X5_within rfl ⟨rfl, rfl⟩ pdX5_within rfl ⟨Nat.le_of_ble_eq_true rfl, Nat.le_of_ble_eq_true rfl⟩ (fun _ _ _ _ q => q) (fun _ _ _ _ => vp0) hl.1 rfl (Nat.le_of_ble_eq_true rfl) dX5_fog_11 ⟨Nat.zero_le _, Nat.zero_le _⟩) ?_
    refine lv_if_ne (tgt := 24) hx hb dX5_fog_14 (by decide) (fun c_4 => ?_) (fun c_4 => ?_)
    · have h := ifn c_4 h
      refine lv_aload_n hx hb dX5_fog_24 rfl (lv_at hl 0 rfl) ?_
      refine va_get (D := D) (ci := 4) (v := .ref a1) (C := RX5) (T := TX5) (N := 21) hx hb hts hinX5 hown hE.1 hP 0 rfl rfl 0 (by decide) (hts _ (List.mem_of_getElem? (i := 2) rfl)) (fun _ h9 => h9) rfl dX5_fog_25 ?_
      refine lv_aload_n hx hb dX5_fog_28 rfl (lv_at hl 0 rfl) ?_
      refine va_get (D := D) (ci := 4) (v := .ref a3) (C := RX5) (T := TX5) (N := 21) hx hb hts hinX5 hown hE.1 hP 0 rfl rfl 2 (by decide) (hts _ (List.mem_of_getElem? (i := 3) rfl)) (fun _ h9 => h9) rfl dX5_fog_29 ?_
      obtain ⟨z_5, e_6, h⟩ := bds h
      have hPc := hP.sub (ws' := (wR2 cI cS a1 a3 nw ad)) [1, 3] rfl
      refine kMv (wf' := (wX5 cI cS a0 a1 a2 a3 a4 a5 a6 a7 a8 a9 a10 a11 nw kp z_5 fd tp kn it wd sz nm mv ik td bg en so va iw im st ht)) [1, 3] [none, some 0, none, some 1, none, none, none, none, none, none, none, none] (rS C0 (tX5_copyRow l D cI cS F a1 a3 nw ad  z_5 e_6 (((hD (wX5 cI cS a0 a1 a2 a3 a4 a5 a6 a7 a8 a9 a10 a11 nw kp ad fd tp kn it wd sz nm mv ik td bg en so va iw im st ht) rfl).sub [1, 3] (by decide) rfl).weaken (fun _ _ _ _ => trivial))) gX5_fog_X5_copyRow rfl ⟨rfl, rfl⟩ pdX5_copyRow rfl ⟨Nat.le_of_ble_eq_true rfl, Nat.le_of_ble_eq_true rfl⟩ (fun _ _ _ _ q => q) (fun U hU _ _ => by rw [hU]; exact hPc) hl.1 rfl (Nat.le_of_ble_eq_true rfl) dX5_fog_32 ⟨Nat.zero_le _, Nat.zero_le _⟩) hP (hD _ rfl) hS rfl rfl rfl (fun H locs hP hS => ?_)
      refine lv_aload_n hx hb dX5_fog_35 rfl (lv_at hl 0 rfl) ?_
      refine lv_iload_n hx hb dX5_fog_36 rfl (lv_at hl 2 rfl) ?_
      obtain ⟨z_7, e_8, h⟩ := bds h
      have hPc := hP.sub (ws' := (wX5 cI cS a0 a1 a2 a3 a4 a5 a6 a7 a8 a9 a10 a11 nw kp z_5 fd tp kn it wd sz nm mv ik td bg en so va iw im st ht)) [0, 1, 2, 3, 4, 5, 6, 7, 8, 9, 10, 11] rfl
      refine kMv (wf' := (wX5 cI cS a0 a1 a2 a3 a4 a5 a6 a7 a8 a9 a10 a11 z_7 kp z_5 fd tp kn it wd sz nm mv ik td bg en so va iw im st ht)) [0, 1, 2, 3, 4, 5, 6, 7, 8, 9, 10, 11] [some 0, some 1, some 2, some 3, some 4, some 5, some 6, some 7, some 8, some 9, some 10, some 11] (rV C0 (tX5_daysGo l D cI cS F a0 a1 a2 a3 a4 a5 a6 a7 a8 a9 a10 a11 nw kp z_5 fd tp kn it wd sz nm mv ik td bg en so va iw im st ht v2 z_7 e_8 (((hD (wX5 cI cS a0 a1 a2 a3 a4 a5 a6 a7 a8 a9 a10 a11 nw kp z_5 fd tp kn it wd sz nm mv ik td bg en so va iw im st ht) rfl).sub [0, 1, 2, 3, 4, 5, 6, 7, 8, 9, 10, 11] (by decide) rfl).weaken (fun _ _ _ _ => trivial))) RX5 gX5_fog_X5_daysGo rfl ⟨rfl, rfl⟩ pdX5_daysGo rfl ⟨Nat.le_of_ble_eq_true rfl, Nat.le_of_ble_eq_true rfl⟩ (fun _ _ _ _ q => q) (va_recv hE.1 hPc (ci := 4) (q0 := 0) rfl rfl) (fun U hU _ _ => by rw [hU]; exact hPc) hl.1 rfl (Nat.le_of_ble_eq_true rfl) dX5_fog_37 ⟨Nat.zero_le _, Nat.zero_le _⟩) hP (hD _ rfl) hS rfl rfl rfl (fun H locs hP hS => ?_)
      refine lv_aload_n hx hb dX5_fog_40 rfl (lv_at hl 0 rfl) ?_
      refine lv_aload_n hx hb dX5_fog_41 rfl (lv_at hl 0 rfl) ?_
      refine lv_iload_n hx hb dX5_fog_42 rfl (lv_at hl 1 rfl) ?_
      obtain ⟨z_9, e_10, h⟩ := bds h
      have hPc := hP.sub (ws' := (wX5 cI cS a0 a1 a2 a3 a4 a5 a6 a7 a8 a9 a10 a11 z_7 kp z_5 fd tp kn it wd sz nm mv ik td bg en so va iw im st ht)) [0, 1, 2, 3, 4, 5, 6, 7, 8, 9, 10, 11] rfl
      refine kRi (rV C0 (tX5_thickAt l D cI cS F a0 a1 a2 a3 a4 a5 a6 a7 a8 a9 a10 a11 z_7 kp z_5 fd tp kn it wd sz nm mv ik td bg en so va iw im st ht v1 z_9 e_10) RX5 gX5_fog_X5_thickAt rfl ⟨rfl, rfl⟩ pdX5_thickAt rfl ⟨Nat.le_of_ble_eq_true rfl, Nat.le_of_ble_eq_true rfl⟩ (fun _ _ _ _ q => q) (va_recv hE.1 hPc (ci := 4) (q0 := 0) rfl rfl) (fun U hU _ _ => by rw [hU]; exact hPc) hl.1 rfl (Nat.le_of_ble_eq_true rfl) dX5_fog_43 ⟨Nat.zero_le _, Nat.zero_le _⟩) ?_
      obtain ⟨z_11, e_12, h⟩ := bds h
      have hPc := hP.sub (ws' := (wX5 cI cS a0 a1 a2 a3 a4 a5 a6 a7 a8 a9 a10 a11 z_7 kp z_5 fd tp kn it wd sz nm mv ik td bg en so va iw im st ht)) [0, 1, 2, 3, 4, 5, 6, 7, 8, 9, 10, 11] rfl
      refine kMi (wf' := (wX5 cI cS a0 a1 a2 a3 a4 a5 a6 a7 a8 a9 a10 a11 z_11.2 kp z_5 fd tp kn it wd sz nm mv ik td bg en so va iw im st ht)) [0, 1, 2, 3, 4, 5, 6, 7, 8, 9, 10, 11] [some 0, some 1, some 2, some 3, some 4, some 5, some 6, some 7, some 8, some 9, some 10, some 11] (rV C0 (tX5_putBack l D cI cS F a0 a1 a2 a3 a4 a5 a6 a7 a8 a9 a10 a11 z_7 kp z_5 fd tp kn it wd sz nm mv ik td bg en so va iw im st ht z_9 z_11.1 z_11.2 e_12 (((hD (wX5 cI cS a0 a1 a2 a3 a4 a5 a6 a7 a8 a9 a10 a11 z_7 kp z_5 fd tp kn it wd sz nm mv ik td bg en so va iw im st ht) rfl).sub [0, 1, 2, 3, 4, 5, 6, 7, 8, 9, 10, 11] (by decide) rfl).weaken (fun _ _ _ _ => trivial))) RX5 gX5_fog_X5_putBack rfl ⟨rfl, rfl⟩ pdX5_putBack rfl ⟨Nat.le_of_ble_eq_true rfl, Nat.le_of_ble_eq_true rfl⟩ (fun _ _ _ _ q => q) (va_recv hE.1 hPc (ci := 4) (q0 := 0) rfl rfl) (fun U hU _ _ => by rw [hU]; exact hPc) hl.1 rfl (Nat.le_of_ble_eq_true rfl) dX5_fog_46 ⟨Nat.zero_le _, Nat.zero_le _⟩) hP (hD _ rfl) hS rfl rfl rfl (fun H locs hP hS => ?_)
      obtain ⟨q0, g0⟩ := Prod.mk.inj (Option.some.inj h)
      obtain ⟨q1, g1⟩ := Prod.mk.inj g0
      obtain ⟨q2, q3⟩ := Prod.mk.inj g1
      subst q0 q1 q2 q3
      exact eMi C0 hP hS rfl rfl dX5_fog_49
    · have h := ifp c_4 h
      refine lv_aload_n hx hb dX5_fog_17 rfl (lv_at hl 0 rfl) ?_
      refine lv_ldc (v := (-1000001)) hx hb hown (hts _ (List.mem_of_getElem? (i := 1) rfl)) dX5_fog_18 ?_
      obtain ⟨z_13, e_14, h⟩ := bds h
      have hPc := hP.sub (ws' := (wX5 cI cS a0 a1 a2 a3 a4 a5 a6 a7 a8 a9 a10 a11 nw kp ad fd tp kn it wd sz nm mv ik td bg en so va iw im st ht)) [0, 1, 2, 3, 4, 5, 6, 7, 8, 9, 10, 11] rfl
      refine kMi (wf' := (wX5 cI cS a0 a1 a2 a3 a4 a5 a6 a7 a8 a9 a10 a11 nw kp ad z_13.2 tp kn it wd sz nm mv ik td bg en so va iw im st ht)) [0, 1, 2, 3, 4, 5, 6, 7, 8, 9, 10, 11] [some 0, some 1, some 2, some 3, some 4, some 5, some 6, some 7, some 8, some 9, some 10, some 11] (rV C0 (tX5_finding l D cI cS a0 a1 a2 a3 a4 a5 a6 a7 a8 a9 a10 a11 nw kp ad fd tp kn it wd sz nm mv ik td bg en so va iw im st ht (-1000001) z_13.1 z_13.2 e_14 (((hD (wX5 cI cS a0 a1 a2 a3 a4 a5 a6 a7 a8 a9 a10 a11 nw kp ad fd tp kn it wd sz nm mv ik td bg en so va iw im st ht) rfl).sub [0, 1, 2, 3, 4, 5, 6, 7, 8, 9, 10, 11] (by decide) rfl).weaken (fun _ _ _ _ => trivial))) RX5 gX5_fog_X5_finding rfl ⟨rfl, rfl⟩ pdX5_finding rfl ⟨Nat.le_of_ble_eq_true rfl, Nat.le_of_ble_eq_true rfl⟩ (fun _ _ _ _ q => q) (va_recv hE.1 hPc (ci := 4) (q0 := 0) rfl rfl) (fun U hU _ _ => by rw [hU]; exact hPc) hl.1 rfl (Nat.le_of_ble_eq_true rfl) dX5_fog_20 ⟨Nat.zero_le _, Nat.zero_le _⟩) hP (hD _ rfl) hS rfl rfl rfl (fun H locs hP hS => ?_)
      obtain ⟨q0, g0⟩ := Prod.mk.inj (Option.some.inj h)
      obtain ⟨q1, g1⟩ := Prod.mk.inj g0
      obtain ⟨q2, q3⟩ := Prod.mk.inj g1
      subst q0 q1 q2 q3
      exact eMi C0 hP hS rfl rfl dX5_fog_23
def fX5_lands_28 (F : Nat) (ad : Nat → Int32) (v1 : Int32) : Nat → Int32 → (Nat → Int32) → (Nat → Int32) → Option (Int32 × (Nat → Int32) × (Nat → Int32) × (Nat → Int32))
  | 0, _, _, _ => none
  | n + 1, v2, nw, fd => (if 200 ≤ v2 then Option.bind (fX5_isInPort nw v1) (fun z_5 => (if z_5 = 0 then Option.bind (fX5_putBack F nw ad (-1)) (fun z_8 => Option.bind (fX5_orNone fd z_8.1) (fun z_10 => some (z_10.1, z_8.2, ad, z_10.2))) else Option.bind (fX5_putBack F nw ad v2) (fun z_12 => Option.bind (fX5_orNone fd z_12.1) (fun z_14 => some (z_14.1, z_12.2, ad, z_14.2))))) else Option.bind (fX5_isInPort nw v1) (fun z_16 => (if z_16 = 0 then Option.bind (fX5_day F nw) (fun z_30 => fX5_lands_28 F ad v1 n (v2 + 1) z_30 fd) else Option.bind (fX5_isInPort nw v1) (fun z_19 => (if z_19 = 0 then Option.bind (fX5_putBack F nw ad (-1)) (fun z_22 => Option.bind (fX5_orNone fd z_22.1) (fun z_24 => some (z_24.1, z_22.2, ad, z_24.2))) else Option.bind (fX5_putBack F nw ad v2) (fun z_26 => Option.bind (fX5_orNone fd z_26.1) (fun z_28 => some (z_28.1, z_26.2, ad, z_28.2))))))))
def fX5_lands (F : Nat) (nw : Nat → Int32) (ad : Nat → Int32) (fd : Nat → Int32) (v1 : Int32) : Option (Int32 × (Nat → Int32) × (Nat → Int32) × (Nat → Int32)) := (if (fX5_isShip nw v1) = 0 then Option.bind (fX5_finding fd (-1000001)) (fun z_32 => some (z_32.1, nw, ad, z_32.2)) else Option.bind (fX5_copyRow F nw ad) (fun z_2 => fX5_lands_28 F z_2 v1 F 0 nw fd))
abbrev rmX5_lands : Room := { frames := 6, cells := 0, slots := 0, locals := 135 }
theorem pdX5_lands : (yX5_lands.cls = RX5 ∧ yX5_lands.cls ≠ "java/lang/invoke/MethodHandle" ∧ yX5_lands.cls ≠ "java/lang/invoke/VarHandle" ∧ (parseMethodDescriptor yX5_lands.desc).map (fun d => d.parameters.length) = some 1) := by decide +kernel
set_option maxHeartbeats 4000000 in
set_option maxRecDepth 100000 in
theorem lX5_lands_28 {p : Program} {l : Launch} {e : Env} {s : State} {m : MethodId} {av : Array Value} {below : List Frame} {meth : Method} {c : Code} {D : va_G} {cI cS : ClassId} {a0 a1 a2 a3 a4 a5 a6 a7 a8 a9 a10 a11 : Nat} {W0 : va_W} (C0 : CX p s m av meth c RX5 cX5_lands 3 (some .int) wsX5_lands D cI cS) (F : Nat) (kp : Nat → Int32) (ad : Nat → Int32) (tp : Nat → Int32) (kn : Nat → Option Nat) (it : Nat → Int32) (wd : Nat → Int32) (sz : Nat → Int32) (nm : Nat → Int32) (mv : Nat → Int32) (ik : Int32) (td : Int32) (bg : Int32) (en : Int32) (so : Int32) (va : Int32) (iw : Int32) (im : Int32) (st : Int32) (ht : Int32) (v1 : Int32) (z0 : Int32) (z1 : Nat → Int32) (z2 : Nat → Int32) (z3 : Nat → Int32) (hD : ∀ W : va_W, W.map Prod.fst = [a0, a1, a2, a3, a4, a5, a6, a7, a8, a9, a10, a11] → va_D (wA W0) W) : ∀ (n : Nat) (v2 : Int32) (nw : Nat → Int32) (fd : Nat → Int32) (H : Heap) (locs : List Loc), va_P D vwCl (wX5 cI cS a0 a1 a2 a3 a4 a5 a6 a7 a8 a9 a10 a11 nw kp ad fd tp kn it wd sz nm mv ik td bg en so va iw im st ht) H → va_S (wA W0) s.heap H locs → ∀ (ls : Array Slot), lv_has ls 3 [(0, .ref a0), (1, .int v1), (2, .int v2)] → fX5_lands_28 F ad v1 n v2 nw fd = some (z0, z1, z2, z3) → W p l e rmX5_lands s m av below meth c H locs 0 0 (MQ below (qI D W0 (wX5 cI cS a0 a1 a2 a3 a4 a5 a6 a7 a8 a9 a10 a11 z1 kp z2 z3 tp kn it wd sz nm mv ik td bg en so va iw im st ht) z0) av s 0 0 (wA W0)) (F0 m 28 ls []) := by
  obtain ⟨hx, hb, hr, hml, hown, hts, hlk, hE⟩ := id C0
  have hinX5 : ∀ w ∈ u_ws RX5 TX5 21, w ∈ wsX5_lands := by decide +kernel
  intro n
  induction n with
  | zero =>
    intro v2 nw fd H locs hP hS ls hl h
    cases (show none = some (z0, z1, z2, z3) from h)
  | succ n ih =>
    intro v2 nw fd H locs hP hS ls hl h
    rw [fX5_lands_28] at h
    refine lv_iload_n hx hb dX5_lands_28 rfl (lv_at hl 2 rfl) ?_
    refine lv_sipush (v := 200) hx hb dX5_lands_29 (by decide) ?_
    refine lv_icmp_ge (tgt := 53) hx hb dX5_lands_32 (by decide) (fun c_4 => ?_) (fun c_4 => ?_)
    · have h := ifp c_4 h
      refine lv_aload_n hx hb dX5_lands_53 rfl (lv_at hl 0 rfl) ?_
      refine lv_aload_n hx hb dX5_lands_54 rfl (lv_at hl 0 rfl) ?_
      refine lv_aload_n hx hb dX5_lands_55 rfl (lv_at hl 0 rfl) ?_
      refine lv_iload_n hx hb dX5_lands_56 rfl (lv_at hl 1 rfl) ?_
      obtain ⟨z_5, e_6, h⟩ := bds h
      have hPc := hP.sub (ws' := (wX5 cI cS a0 a1 a2 a3 a4 a5 a6 a7 a8 a9 a10 a11 nw kp ad fd tp kn it wd sz nm mv ik td bg en so va iw im st ht)) [0, 1, 2, 3, 4, 5, 6, 7, 8, 9, 10, 11] rfl
      refine kRi (rV C0 (tX5_isInPort l D cI cS a0 a1 a2 a3 a4 a5 a6 a7 a8 a9 a10 a11 nw kp ad fd tp kn it wd sz nm mv ik td bg en so va iw im st ht v1 z_5 e_6) RX5 gX5_lands_X5_isInPort rfl ⟨rfl, rfl⟩ pdX5_isInPort rfl ⟨Nat.le_of_ble_eq_true rfl, Nat.le_of_ble_eq_true rfl⟩ (fun _ _ _ _ q => q) (va_recv hE.1 hPc (ci := 4) (q0 := 0) rfl rfl) (fun U hU _ _ => by rw [hU]; exact hPc) hl.1 rfl (Nat.le_of_ble_eq_true rfl) dX5_lands_57 ⟨Nat.zero_le _, Nat.zero_le _⟩) ?_
      refine lv_if_eq (tgt := 67) hx hb dX5_lands_60 (by decide) (fun c_7 => ?_) (fun c_7 => ?_)
      · have h := ifp c_7 h
        refine lv_iconst (v := (-1)) hx hb dX5_lands_67 (by decide) ?_
        obtain ⟨z_8, e_9, h⟩ := bds h
        have hPc := hP.sub (ws' := (wX5 cI cS a0 a1 a2 a3 a4 a5 a6 a7 a8 a9 a10 a11 nw kp ad fd tp kn it wd sz nm mv ik td bg en so va iw im st ht)) [0, 1, 2, 3, 4, 5, 6, 7, 8, 9, 10, 11] rfl
        refine kMi (wf' := (wX5 cI cS a0 a1 a2 a3 a4 a5 a6 a7 a8 a9 a10 a11 z_8.2 kp ad fd tp kn it wd sz nm mv ik td bg en so va iw im st ht)) [0, 1, 2, 3, 4, 5, 6, 7, 8, 9, 10, 11] [some 0, some 1, some 2, some 3, some 4, some 5, some 6, some 7, some 8, some 9, some 10, some 11] (rV C0 (tX5_putBack l D cI cS F a0 a1 a2 a3 a4 a5 a6 a7 a8 a9 a10 a11 nw kp ad fd tp kn it wd sz nm mv ik td bg en so va iw im st ht (-1) z_8.1 z_8.2 e_9 (((hD (wX5 cI cS a0 a1 a2 a3 a4 a5 a6 a7 a8 a9 a10 a11 nw kp ad fd tp kn it wd sz nm mv ik td bg en so va iw im st ht) rfl).sub [0, 1, 2, 3, 4, 5, 6, 7, 8, 9, 10, 11] (by decide) rfl).weaken (fun _ _ _ _ => trivial))) RX5 gX5_lands_X5_putBack rfl ⟨rfl, rfl⟩ pdX5_putBack rfl ⟨Nat.le_of_ble_eq_true rfl, Nat.le_of_ble_eq_true rfl⟩ (fun _ _ _ _ q => q) (va_recv hE.1 hPc (ci := 4) (q0 := 0) rfl rfl) (fun U hU _ _ => by rw [hU]; exact hPc) hl.1 rfl (Nat.le_of_ble_eq_true rfl) dX5_lands_68 ⟨Nat.zero_le _, Nat.zero_le _⟩) hP (hD _ rfl) hS rfl rfl rfl (fun H locs hP hS => ?_)
        obtain ⟨z_10, e_11, h⟩ := bds h
        have hPc := hP.sub (ws' := (wX5 cI cS a0 a1 a2 a3 a4 a5 a6 a7 a8 a9 a10 a11 z_8.2 kp ad fd tp kn it wd sz nm mv ik td bg en so va iw im st ht)) [0, 1, 2, 3, 4, 5, 6, 7, 8, 9, 10, 11] rfl
        refine kMi (wf' := (wX5 cI cS a0 a1 a2 a3 a4 a5 a6 a7 a8 a9 a10 a11 z_8.2 kp ad z_10.2 tp kn it wd sz nm mv ik td bg en so va iw im st ht)) [0, 1, 2, 3, 4, 5, 6, 7, 8, 9, 10, 11] [some 0, some 1, some 2, some 3, some 4, some 5, some 6, some 7, some 8, some 9, some 10, some 11] (rV C0 (tX5_orNone l D cI cS a0 a1 a2 a3 a4 a5 a6 a7 a8 a9 a10 a11 z_8.2 kp ad fd tp kn it wd sz nm mv ik td bg en so va iw im st ht z_8.1 z_10.1 z_10.2 e_11 (((hD (wX5 cI cS a0 a1 a2 a3 a4 a5 a6 a7 a8 a9 a10 a11 z_8.2 kp ad fd tp kn it wd sz nm mv ik td bg en so va iw im st ht) rfl).sub [0, 1, 2, 3, 4, 5, 6, 7, 8, 9, 10, 11] (by decide) rfl).weaken (fun _ _ _ _ => trivial))) RX5 gX5_lands_X5_orNone rfl ⟨rfl, rfl⟩ pdX5_orNone rfl ⟨Nat.le_of_ble_eq_true rfl, Nat.le_of_ble_eq_true rfl⟩ (fun _ _ _ _ q => q) (va_recv hE.1 hPc (ci := 4) (q0 := 0) rfl rfl) (fun U hU _ _ => by rw [hU]; exact hPc) hl.1 rfl (Nat.le_of_ble_eq_true rfl) dX5_lands_71 ⟨Nat.zero_le _, Nat.zero_le _⟩) hP (hD _ rfl) hS rfl rfl rfl (fun H locs hP hS => ?_)
        obtain ⟨q0, g0⟩ := Prod.mk.inj (Option.some.inj h)
        obtain ⟨q1, g1⟩ := Prod.mk.inj g0
        obtain ⟨q2, q3⟩ := Prod.mk.inj g1
        subst q0 q1 q2 q3
        exact eMi C0 hP hS rfl rfl dX5_lands_74
      · have h := ifn c_7 h
        refine lv_iload_n hx hb dX5_lands_63 rfl (lv_at hl 2 rfl) ?_
        refine lv_goto (tgt := 68) hx hb dX5_lands_64 (by decide) ?_
        obtain ⟨z_12, e_13, h⟩ := bds h
        have hPc := hP.sub (ws' := (wX5 cI cS a0 a1 a2 a3 a4 a5 a6 a7 a8 a9 a10 a11 nw kp ad fd tp kn it wd sz nm mv ik td bg en so va iw im st ht)) [0, 1, 2, 3, 4, 5, 6, 7, 8, 9, 10, 11] rfl
        refine kMi (wf' := (wX5 cI cS a0 a1 a2 a3 a4 a5 a6 a7 a8 a9 a10 a11 z_12.2 kp ad fd tp kn it wd sz nm mv ik td bg en so va iw im st ht)) [0, 1, 2, 3, 4, 5, 6, 7, 8, 9, 10, 11] [some 0, some 1, some 2, some 3, some 4, some 5, some 6, some 7, some 8, some 9, some 10, some 11] (rV C0 (tX5_putBack l D cI cS F a0 a1 a2 a3 a4 a5 a6 a7 a8 a9 a10 a11 nw kp ad fd tp kn it wd sz nm mv ik td bg en so va iw im st ht v2 z_12.1 z_12.2 e_13 (((hD (wX5 cI cS a0 a1 a2 a3 a4 a5 a6 a7 a8 a9 a10 a11 nw kp ad fd tp kn it wd sz nm mv ik td bg en so va iw im st ht) rfl).sub [0, 1, 2, 3, 4, 5, 6, 7, 8, 9, 10, 11] (by decide) rfl).weaken (fun _ _ _ _ => trivial))) RX5 gX5_lands_X5_putBack rfl ⟨rfl, rfl⟩ pdX5_putBack rfl ⟨Nat.le_of_ble_eq_true rfl, Nat.le_of_ble_eq_true rfl⟩ (fun _ _ _ _ q => q) (va_recv hE.1 hPc (ci := 4) (q0 := 0) rfl rfl) (fun U hU _ _ => by rw [hU]; exact hPc) hl.1 rfl (Nat.le_of_ble_eq_true rfl) dX5_lands_68 ⟨Nat.zero_le _, Nat.zero_le _⟩) hP (hD _ rfl) hS rfl rfl rfl (fun H locs hP hS => ?_)
        obtain ⟨z_14, e_15, h⟩ := bds h
        have hPc := hP.sub (ws' := (wX5 cI cS a0 a1 a2 a3 a4 a5 a6 a7 a8 a9 a10 a11 z_12.2 kp ad fd tp kn it wd sz nm mv ik td bg en so va iw im st ht)) [0, 1, 2, 3, 4, 5, 6, 7, 8, 9, 10, 11] rfl
        refine kMi (wf' := (wX5 cI cS a0 a1 a2 a3 a4 a5 a6 a7 a8 a9 a10 a11 z_12.2 kp ad z_14.2 tp kn it wd sz nm mv ik td bg en so va iw im st ht)) [0, 1, 2, 3, 4, 5, 6, 7, 8, 9, 10, 11] [some 0, some 1, some 2, some 3, some 4, some 5, some 6, some 7, some 8, some 9, some 10, some 11] (rV C0 (tX5_orNone l D cI cS a0 a1 a2 a3 a4 a5 a6 a7 a8 a9 a10 a11 z_12.2 kp ad fd tp kn it wd sz nm mv ik td bg en so va iw im st ht z_12.1 z_14.1 z_14.2 e_15 (((hD (wX5 cI cS a0 a1 a2 a3 a4 a5 a6 a7 a8 a9 a10 a11 z_12.2 kp ad fd tp kn it wd sz nm mv ik td bg en so va iw im st ht) rfl).sub [0, 1, 2, 3, 4, 5, 6, 7, 8, 9, 10, 11] (by decide) rfl).weaken (fun _ _ _ _ => trivial))) RX5 gX5_lands_X5_orNone rfl ⟨rfl, rfl⟩ pdX5_orNone rfl ⟨Nat.le_of_ble_eq_true rfl, Nat.le_of_ble_eq_true rfl⟩ (fun _ _ _ _ q => q) (va_recv hE.1 hPc (ci := 4) (q0 := 0) rfl rfl) (fun U hU _ _ => by rw [hU]; exact hPc) hl.1 rfl (Nat.le_of_ble_eq_true rfl) dX5_lands_71 ⟨Nat.zero_le _, Nat.zero_le _⟩) hP (hD _ rfl) hS rfl rfl rfl (fun H locs hP hS => ?_)
        obtain ⟨q0, g0⟩ := Prod.mk.inj (Option.some.inj h)
        obtain ⟨q1, g1⟩ := Prod.mk.inj g0
        obtain ⟨q2, q3⟩ := Prod.mk.inj g1
        subst q0 q1 q2 q3
        exact eMi C0 hP hS rfl rfl dX5_lands_74
    · have h := ifn c_4 h
      refine lv_aload_n hx hb dX5_lands_35 rfl (lv_at hl 0 rfl) ?_
      refine lv_iload_n hx hb dX5_lands_36 rfl (lv_at hl 1 rfl) ?_
      obtain ⟨z_16, e_17, h⟩ := bds h
      have hPc := hP.sub (ws' := (wX5 cI cS a0 a1 a2 a3 a4 a5 a6 a7 a8 a9 a10 a11 nw kp ad fd tp kn it wd sz nm mv ik td bg en so va iw im st ht)) [0, 1, 2, 3, 4, 5, 6, 7, 8, 9, 10, 11] rfl
      refine kRi (rV C0 (tX5_isInPort l D cI cS a0 a1 a2 a3 a4 a5 a6 a7 a8 a9 a10 a11 nw kp ad fd tp kn it wd sz nm mv ik td bg en so va iw im st ht v1 z_16 e_17) RX5 gX5_lands_X5_isInPort rfl ⟨rfl, rfl⟩ pdX5_isInPort rfl ⟨Nat.le_of_ble_eq_true rfl, Nat.le_of_ble_eq_true rfl⟩ (fun _ _ _ _ q => q) (va_recv hE.1 hPc (ci := 4) (q0 := 0) rfl rfl) (fun U hU _ _ => by rw [hU]; exact hPc) hl.1 rfl (Nat.le_of_ble_eq_true rfl) dX5_lands_37 ⟨Nat.zero_le _, Nat.zero_le _⟩) ?_
      refine lv_if_ne (tgt := 53) hx hb dX5_lands_40 (by decide) (fun c_18 => ?_) (fun c_18 => ?_)
      · have h := ifn c_18 h
        refine lv_aload_n hx hb dX5_lands_53 rfl (lv_at hl 0 rfl) ?_
        refine lv_aload_n hx hb dX5_lands_54 rfl (lv_at hl 0 rfl) ?_
        refine lv_aload_n hx hb dX5_lands_55 rfl (lv_at hl 0 rfl) ?_
        refine lv_iload_n hx hb dX5_lands_56 rfl (lv_at hl 1 rfl) ?_
        obtain ⟨z_19, e_20, h⟩ := bds h
        have hPc := hP.sub (ws' := (wX5 cI cS a0 a1 a2 a3 a4 a5 a6 a7 a8 a9 a10 a11 nw kp ad fd tp kn it wd sz nm mv ik td bg en so va iw im st ht)) [0, 1, 2, 3, 4, 5, 6, 7, 8, 9, 10, 11] rfl
        refine kRi (rV C0 (tX5_isInPort l D cI cS a0 a1 a2 a3 a4 a5 a6 a7 a8 a9 a10 a11 nw kp ad fd tp kn it wd sz nm mv ik td bg en so va iw im st ht v1 z_19 e_20) RX5 gX5_lands_X5_isInPort rfl ⟨rfl, rfl⟩ pdX5_isInPort rfl ⟨Nat.le_of_ble_eq_true rfl, Nat.le_of_ble_eq_true rfl⟩ (fun _ _ _ _ q => q) (va_recv hE.1 hPc (ci := 4) (q0 := 0) rfl rfl) (fun U hU _ _ => by rw [hU]; exact hPc) hl.1 rfl (Nat.le_of_ble_eq_true rfl) dX5_lands_57 ⟨Nat.zero_le _, Nat.zero_le _⟩) ?_
        refine lv_if_eq (tgt := 67) hx hb dX5_lands_60 (by decide) (fun c_21 => ?_) (fun c_21 => ?_)
        · have h := ifp c_21 h
          refine lv_iconst (v := (-1)) hx hb dX5_lands_67 (by decide) ?_
          obtain ⟨z_22, e_23, h⟩ := bds h
          have hPc := hP.sub (ws' := (wX5 cI cS a0 a1 a2 a3 a4 a5 a6 a7 a8 a9 a10 a11 nw kp ad fd tp kn it wd sz nm mv ik td bg en so va iw im st ht)) [0, 1, 2, 3, 4, 5, 6, 7, 8, 9, 10, 11] rfl
          refine kMi (wf' := (wX5 cI cS a0 a1 a2 a3 a4 a5 a6 a7 a8 a9 a10 a11 z_22.2 kp ad fd tp kn it wd sz nm mv ik td bg en so va iw im st ht)) [0, 1, 2, 3, 4, 5, 6, 7, 8, 9, 10, 11] [some 0, some 1, some 2, some 3, some 4, some 5, some 6, some 7, some 8, some 9, some 10, some 11] (rV C0 (tX5_putBack l D cI cS F a0 a1 a2 a3 a4 a5 a6 a7 a8 a9 a10 a11 nw kp ad fd tp kn it wd sz nm mv ik td bg en so va iw im st ht (-1) z_22.1 z_22.2 e_23 (((hD (wX5 cI cS a0 a1 a2 a3 a4 a5 a6 a7 a8 a9 a10 a11 nw kp ad fd tp kn it wd sz nm mv ik td bg en so va iw im st ht) rfl).sub [0, 1, 2, 3, 4, 5, 6, 7, 8, 9, 10, 11] (by decide) rfl).weaken (fun _ _ _ _ => trivial))) RX5 gX5_lands_X5_putBack rfl ⟨rfl, rfl⟩ pdX5_putBack rfl ⟨Nat.le_of_ble_eq_true rfl, Nat.le_of_ble_eq_true rfl⟩ (fun _ _ _ _ q => q) (va_recv hE.1 hPc (ci := 4) (q0 := 0) rfl rfl) (fun U hU _ _ => by rw [hU]; exact hPc) hl.1 rfl (Nat.le_of_ble_eq_true rfl) dX5_lands_68 ⟨Nat.zero_le _, Nat.zero_le _⟩) hP (hD _ rfl) hS rfl rfl rfl (fun H locs hP hS => ?_)
          obtain ⟨z_24, e_25, h⟩ := bds h
          have hPc := hP.sub (ws' := (wX5 cI cS a0 a1 a2 a3 a4 a5 a6 a7 a8 a9 a10 a11 z_22.2 kp ad fd tp kn it wd sz nm mv ik td bg en so va iw im st ht)) [0, 1, 2, 3, 4, 5, 6, 7, 8, 9, 10, 11] rfl
          refine kMi (wf' := (wX5 cI cS a0 a1 a2 a3 a4 a5 a6 a7 a8 a9 a10 a11 z_22.2 kp ad z_24.2 tp kn it wd sz nm mv ik td bg en so va iw im st ht)) [0, 1, 2, 3, 4, 5, 6, 7, 8, 9, 10, 11] [some 0, some 1, some 2, some 3, some 4, some 5, some 6, some 7, some 8, some 9, some 10, some 11] (rV C0 (tX5_orNone l D cI cS a0 a1 a2 a3 a4 a5 a6 a7 a8 a9 a10 a11 z_22.2 kp ad fd tp kn it wd sz nm mv ik td bg en so va iw im st ht z_22.1 z_24.1 z_24.2 e_25 (((hD (wX5 cI cS a0 a1 a2 a3 a4 a5 a6 a7 a8 a9 a10 a11 z_22.2 kp ad fd tp kn it wd sz nm mv ik td bg en so va iw im st ht) rfl).sub [0, 1, 2, 3, 4, 5, 6, 7, 8, 9, 10, 11] (by decide) rfl).weaken (fun _ _ _ _ => trivial))) RX5 gX5_lands_X5_orNone rfl ⟨rfl, rfl⟩ pdX5_orNone rfl ⟨Nat.le_of_ble_eq_true rfl, Nat.le_of_ble_eq_true rfl⟩ (fun _ _ _ _ q => q) (va_recv hE.1 hPc (ci := 4) (q0 := 0) rfl rfl) (fun U hU _ _ => by rw [hU]; exact hPc) hl.1 rfl (Nat.le_of_ble_eq_true rfl) dX5_lands_71 ⟨Nat.zero_le _, Nat.zero_le _⟩) hP (hD _ rfl) hS rfl rfl rfl (fun H locs hP hS => ?_)
          obtain ⟨q0, g0⟩ := Prod.mk.inj (Option.some.inj h)
          obtain ⟨q1, g1⟩ := Prod.mk.inj g0
          obtain ⟨q2, q3⟩ := Prod.mk.inj g1
          subst q0 q1 q2 q3
          exact eMi C0 hP hS rfl rfl dX5_lands_74
        · have h := ifn c_21 h
          refine lv_iload_n hx hb dX5_lands_63 rfl (lv_at hl 2 rfl) ?_
          refine lv_goto (tgt := 68) hx hb dX5_lands_64 (by decide) ?_
          obtain ⟨z_26, e_27, h⟩ := bds h
          have hPc := hP.sub (ws' := (wX5 cI cS a0 a1 a2 a3 a4 a5 a6 a7 a8 a9 a10 a11 nw kp ad fd tp kn it wd sz nm mv ik td bg en so va iw im st ht)) [0, 1, 2, 3, 4, 5, 6, 7, 8, 9, 10, 11] rfl
          refine kMi (wf' := (wX5 cI cS a0 a1 a2 a3 a4 a5 a6 a7 a8 a9 a10 a11 z_26.2 kp ad fd tp kn it wd sz nm mv ik td bg en so va iw im st ht)) [0, 1, 2, 3, 4, 5, 6, 7, 8, 9, 10, 11] [some 0, some 1, some 2, some 3, some 4, some 5, some 6, some 7, some 8, some 9, some 10, some 11] (rV C0 (tX5_putBack l D cI cS F a0 a1 a2 a3 a4 a5 a6 a7 a8 a9 a10 a11 nw kp ad fd tp kn it wd sz nm mv ik td bg en so va iw im st ht v2 z_26.1 z_26.2 e_27 (((hD (wX5 cI cS a0 a1 a2 a3 a4 a5 a6 a7 a8 a9 a10 a11 nw kp ad fd tp kn it wd sz nm mv ik td bg en so va iw im st ht) rfl).sub [0, 1, 2, 3, 4, 5, 6, 7, 8, 9, 10, 11] (by decide) rfl).weaken (fun _ _ _ _ => trivial))) RX5 gX5_lands_X5_putBack rfl ⟨rfl, rfl⟩ pdX5_putBack rfl ⟨Nat.le_of_ble_eq_true rfl, Nat.le_of_ble_eq_true rfl⟩ (fun _ _ _ _ q => q) (va_recv hE.1 hPc (ci := 4) (q0 := 0) rfl rfl) (fun U hU _ _ => by rw [hU]; exact hPc) hl.1 rfl (Nat.le_of_ble_eq_true rfl) dX5_lands_68 ⟨Nat.zero_le _, Nat.zero_le _⟩) hP (hD _ rfl) hS rfl rfl rfl (fun H locs hP hS => ?_)
          obtain ⟨z_28, e_29, h⟩ := bds h
          have hPc := hP.sub (ws' := (wX5 cI cS a0 a1 a2 a3 a4 a5 a6 a7 a8 a9 a10 a11 z_26.2 kp ad fd tp kn it wd sz nm mv ik td bg en so va iw im st ht)) [0, 1, 2, 3, 4, 5, 6, 7, 8, 9, 10, 11] rfl
          refine kMi (wf' := (wX5 cI cS a0 a1 a2 a3 a4 a5 a6 a7 a8 a9 a10 a11 z_26.2 kp ad z_28.2 tp kn it wd sz nm mv ik td bg en so va iw im st ht)) [0, 1, 2, 3, 4, 5, 6, 7, 8, 9, 10, 11] [some 0, some 1, some 2, some 3, some 4, some 5, some 6, some 7, some 8, some 9, some 10, some 11] (rV C0 (tX5_orNone l D cI cS a0 a1 a2 a3 a4 a5 a6 a7 a8 a9 a10 a11 z_26.2 kp ad fd tp kn it wd sz nm mv ik td bg en so va iw im st ht z_26.1 z_28.1 z_28.2 e_29 (((hD (wX5 cI cS a0 a1 a2 a3 a4 a5 a6 a7 a8 a9 a10 a11 z_26.2 kp ad fd tp kn it wd sz nm mv ik td bg en so va iw im st ht) rfl).sub [0, 1, 2, 3, 4, 5, 6, 7, 8, 9, 10, 11] (by decide) rfl).weaken (fun _ _ _ _ => trivial))) RX5 gX5_lands_X5_orNone rfl ⟨rfl, rfl⟩ pdX5_orNone rfl ⟨Nat.le_of_ble_eq_true rfl, Nat.le_of_ble_eq_true rfl⟩ (fun _ _ _ _ q => q) (va_recv hE.1 hPc (ci := 4) (q0 := 0) rfl rfl) (fun U hU _ _ => by rw [hU]; exact hPc) hl.1 rfl (Nat.le_of_ble_eq_true rfl) dX5_lands_71 ⟨Nat.zero_le _, Nat.zero_le _⟩) hP (hD _ rfl) hS rfl rfl rfl (fun H locs hP hS => ?_)
          obtain ⟨q0, g0⟩ := Prod.mk.inj (Option.some.inj h)
          obtain ⟨q1, g1⟩ := Prod.mk.inj g0
          obtain ⟨q2, q3⟩ := Prod.mk.inj g1
          subst q0 q1 q2 q3
          exact eMi C0 hP hS rfl rfl dX5_lands_74
      · have h := ifp c_18 h
        refine lv_aload_n hx hb dX5_lands_43 rfl (lv_at hl 0 rfl) ?_
        obtain ⟨z_30, e_31, h⟩ := bds h
        have hPc := hP.sub (ws' := (wX5 cI cS a0 a1 a2 a3 a4 a5 a6 a7 a8 a9 a10 a11 nw kp ad fd tp kn it wd sz nm mv ik td bg en so va iw im st ht)) [0, 1, 2, 3, 4, 5, 6, 7, 8, 9, 10, 11] rfl
        refine kMv (wf' := (wX5 cI cS a0 a1 a2 a3 a4 a5 a6 a7 a8 a9 a10 a11 z_30 kp ad fd tp kn it wd sz nm mv ik td bg en so va iw im st ht)) [0, 1, 2, 3, 4, 5, 6, 7, 8, 9, 10, 11] [some 0, some 1, some 2, some 3, some 4, some 5, some 6, some 7, some 8, some 9, some 10, some 11] (rV C0 (tX5_day l D cI cS F a0 a1 a2 a3 a4 a5 a6 a7 a8 a9 a10 a11 nw kp ad fd tp kn it wd sz nm mv ik td bg en so va iw im st ht  z_30 e_31 (((hD (wX5 cI cS a0 a1 a2 a3 a4 a5 a6 a7 a8 a9 a10 a11 nw kp ad fd tp kn it wd sz nm mv ik td bg en so va iw im st ht) rfl).sub [0, 1, 2, 3, 4, 5, 6, 7, 8, 9, 10, 11] (by decide) rfl).weaken (fun _ _ _ _ => trivial))) RX5 gX5_lands_X5_day rfl ⟨rfl, rfl⟩ pdX5_day rfl ⟨Nat.le_of_ble_eq_true rfl, Nat.le_of_ble_eq_true rfl⟩ (fun _ _ _ _ q => q) (va_recv hE.1 hPc (ci := 4) (q0 := 0) rfl rfl) (fun U hU _ _ => by rw [hU]; exact hPc) hl.1 rfl (Nat.le_of_ble_eq_true rfl) dX5_lands_44 ⟨Nat.zero_le _, Nat.zero_le _⟩) hP (hD _ rfl) hS rfl rfl rfl (fun H locs hP hS => ?_)
        refine lv_iinc (v := v2 + 1) (lv' := [(2, .int (v2 + 1)), (0, .ref a0), (1, .int v1)]) hx hb dX5_lands_47 hl (k := 2) rfl rfl (by decide) rfl (fun ls hl => ?_)
        refine lv_goto (tgt := 28) hx hb dX5_lands_50 (by decide) ?_
        exact ih (v2 + 1) z_30 fd _ _ hP hS _ (lv_sub hl [1, 2, 0] rfl) h
set_option maxHeartbeats 4000000 in
set_option maxRecDepth 100000 in
theorem tX5_lands (l : Launch) (D : va_G) (cI cS : ClassId) (F : Nat) (a0 a1 a2 a3 a4 a5 a6 a7 a8 a9 a10 a11 : Nat) (nw : Nat → Int32) (kp : Nat → Int32) (ad : Nat → Int32) (fd : Nat → Int32) (tp : Nat → Int32) (kn : Nat → Option Nat) (it : Nat → Int32) (wd : Nat → Int32) (sz : Nat → Int32) (nm : Nat → Int32) (mv : Nat → Int32) (ik : Int32) (td : Int32) (bg : Int32) (en : Int32) (so : Int32) (va : Int32) (iw : Int32) (im : Int32) (st : Int32) (ht : Int32) (v1 : Int32) (z0 : Int32) (z1 : Nat → Int32) (z2 : Nat → Int32) (z3 : Nat → Int32) (h : fX5_lands F nw ad fd v1 = some (z0, z1, z2, z3)) (hD0 : va_D (fun _ => True) (wX5 cI cS a0 a1 a2 a3 a4 a5 a6 a7 a8 a9 a10 a11 nw kp ad fd tp kn it wd sz nm mv ik td bg en so va iw im st ht)) : Met l yX5_lands wsX5_lands rmX5_lands (PZ D cI cS [.ref a0, .int v1] (fun U => va_P D vwCl (wX5 cI cS a0 a1 a2 a3 a4 a5 a6 a7 a8 a9 a10 a11 nw kp ad fd tp kn it wd sz nm mv ik td bg en so va iw im st ht) U.heap)) (qI D (wX5 cI cS a0 a1 a2 a3 a4 a5 a6 a7 a8 a9 a10 a11 nw kp ad fd tp kn it wd sz nm mv ik td bg en so va iw im st ht) (wX5 cI cS a0 a1 a2 a3 a4 a5 a6 a7 a8 a9 a10 a11 z1 kp z2 z3 tp kn it wd sz nm mv ik td bg en so va iw im st ht) z0) 0 0 (wA (wX5 cI cS a0 a1 a2 a3 a4 a5 a6 a7 a8 a9 a10 a11 nw kp ad fd tp kn it wd sz nm mv ik td bg en so va iw im st ht)) := by
  refine Met.mk RX5 (by decide) rfl rfl (Nat.le_of_ble_eq_true rfl) ?_
  intro p e s m below meth c ls C0 hP hl
  have hl : lv_has ls 3 [(0, .ref a0), (1, .int v1)] := hl
  obtain ⟨hx, hb, hr, hml, hown, hts, hlk, hE⟩ := id C0
  have hinX5 : ∀ w ∈ u_ws RX5 TX5 21, w ∈ wsX5_lands := by decide +kernel
  have hD : ∀ W : va_W, W.map Prod.fst = [a0, a1, a2, a3, a4, a5, a6, a7, a8, a9, a10, a11] → va_D (wA (wX5 cI cS a0 a1 a2 a3 a4 a5 a6 a7 a8 a9 a10 a11 nw kp ad fd tp kn it wd sz nm mv ik td bg en so va iw im st ht)) W := fun W hW => hD0.own.re hW
  have hS : va_S (wA (wX5 cI cS a0 a1 a2 a3 a4 a5 a6 a7 a8 a9 a10 a11 nw kp ad fd tp kn it wd sz nm mv ik td bg en so va iw im st ht)) s.heap s.heap [] := va_S.rf
  have hP : va_P D vwCl (wX5 cI cS a0 a1 a2 a3 a4 a5 a6 a7 a8 a9 a10 a11 nw kp ad fd tp kn it wd sz nm mv ik td bg en so va iw im st ht) s.heap := hP
  rw [fX5_lands] at h
  refine lv_aload_n hx hb dX5_lands_0 rfl (lv_at hl 0 rfl) ?_
  refine lv_iload_n hx hb dX5_lands_1 rfl (lv_at hl 1 rfl) ?_
  have hPc := hP.sub (ws' := (wX5 cI cS a0 a1 a2 a3 a4 a5 a6 a7 a8 a9 a10 a11 nw kp ad fd tp kn it wd sz nm mv ik td bg en so va iw im st ht)) [0, 1, 2, 3, 4, 5, 6, 7, 8, 9, 10, 11] rfl
  refine kRi (rV C0 (tX5_isShip l D cI cS a0 a1 a2 a3 a4 a5 a6 a7 a8 a9 a10 a11 nw kp ad fd tp kn it wd sz nm mv ik td bg en so va iw im st ht v1 (fX5_isShip nw v1) rfl) RX5 gX5_lands_X5_isShip rfl ⟨rfl, rfl⟩ pdX5_isShip rfl ⟨Nat.le_of_ble_eq_true rfl, Nat.le_of_ble_eq_true rfl⟩ (fun _ _ _ _ q => q) (va_recv hE.1 hPc (ci := 4) (q0 := 0) rfl rfl) (fun U hU _ _ => by rw [hU]; exact hPc) hl.1 rfl (Nat.le_of_ble_eq_true rfl) dX5_lands_2 ⟨Nat.zero_le _, Nat.zero_le _⟩) ?_
  refine lv_if_ne (tgt := 15) hx hb dX5_lands_5 (by decide) (fun c_1 => ?_) (fun c_1 => ?_)
  · have h := ifn c_1 h
    refine lv_aload_n hx hb dX5_lands_15 rfl (lv_at hl 0 rfl) ?_
    refine va_get (D := D) (ci := 4) (v := .ref a1) (C := RX5) (T := TX5) (N := 21) hx hb hts hinX5 hown hE.1 hP 0 rfl rfl 0 (by decide) (hts _ (List.mem_of_getElem? (i := 2) rfl)) (fun _ h9 => h9) rfl dX5_lands_16 ?_
    refine lv_aload_n hx hb dX5_lands_19 rfl (lv_at hl 0 rfl) ?_
    refine va_get (D := D) (ci := 4) (v := .ref a3) (C := RX5) (T := TX5) (N := 21) hx hb hts hinX5 hown hE.1 hP 0 rfl rfl 2 (by decide) (hts _ (List.mem_of_getElem? (i := 3) rfl)) (fun _ h9 => h9) rfl dX5_lands_20 ?_
    obtain ⟨z_2, e_3, h⟩ := bds h
    have hPc := hP.sub (ws' := (wR2 cI cS a1 a3 nw ad)) [1, 3] rfl
    refine kMv (wf' := (wX5 cI cS a0 a1 a2 a3 a4 a5 a6 a7 a8 a9 a10 a11 nw kp z_2 fd tp kn it wd sz nm mv ik td bg en so va iw im st ht)) [1, 3] [none, some 0, none, some 1, none, none, none, none, none, none, none, none] (rS C0 (tX5_copyRow l D cI cS F a1 a3 nw ad  z_2 e_3 (((hD (wX5 cI cS a0 a1 a2 a3 a4 a5 a6 a7 a8 a9 a10 a11 nw kp ad fd tp kn it wd sz nm mv ik td bg en so va iw im st ht) rfl).sub [1, 3] (by decide) rfl).weaken (fun _ _ _ _ => trivial))) gX5_lands_X5_copyRow rfl ⟨rfl, rfl⟩ pdX5_copyRow rfl ⟨Nat.le_of_ble_eq_true rfl, Nat.le_of_ble_eq_true rfl⟩ (fun _ _ _ _ q => q) (fun U hU _ _ => by rw [hU]; exact hPc) hl.1 rfl (Nat.le_of_ble_eq_true rfl) dX5_lands_23 ⟨Nat.zero_le _, Nat.zero_le _⟩) hP (hD _ rfl) hS rfl rfl rfl (fun H locs hP hS => ?_)
    refine lv_iconst (v := 0) hx hb dX5_lands_26 (by decide) ?_
    refine lv_istore_n (lv' := [(2, .int 0), (0, .ref a0), (1, .int v1)]) hx hb dX5_lands_27 rfl hl (by decide) rfl (fun ls hl => ?_)
    exact lX5_lands_28 (l := l) (e := e) (below := below) C0 F kp z_2 tp kn it wd sz nm mv ik td bg en so va iw im st ht v1 z0 z1 z2 z3 hD F 0 nw fd _ _ hP hS _ (lv_sub hl [1, 2, 0] rfl) h
  · have h := ifp c_1 h
    refine lv_aload_n hx hb dX5_lands_8 rfl (lv_at hl 0 rfl) ?_
    refine lv_ldc (v := (-1000001)) hx hb hown (hts _ (List.mem_of_getElem? (i := 1) rfl)) dX5_lands_9 ?_
    obtain ⟨z_32, e_33, h⟩ := bds h
    have hPc := hP.sub (ws' := (wX5 cI cS a0 a1 a2 a3 a4 a5 a6 a7 a8 a9 a10 a11 nw kp ad fd tp kn it wd sz nm mv ik td bg en so va iw im st ht)) [0, 1, 2, 3, 4, 5, 6, 7, 8, 9, 10, 11] rfl
    refine kMi (wf' := (wX5 cI cS a0 a1 a2 a3 a4 a5 a6 a7 a8 a9 a10 a11 nw kp ad z_32.2 tp kn it wd sz nm mv ik td bg en so va iw im st ht)) [0, 1, 2, 3, 4, 5, 6, 7, 8, 9, 10, 11] [some 0, some 1, some 2, some 3, some 4, some 5, some 6, some 7, some 8, some 9, some 10, some 11] (rV C0 (tX5_finding l D cI cS a0 a1 a2 a3 a4 a5 a6 a7 a8 a9 a10 a11 nw kp ad fd tp kn it wd sz nm mv ik td bg en so va iw im st ht (-1000001) z_32.1 z_32.2 e_33 (((hD (wX5 cI cS a0 a1 a2 a3 a4 a5 a6 a7 a8 a9 a10 a11 nw kp ad fd tp kn it wd sz nm mv ik td bg en so va iw im st ht) rfl).sub [0, 1, 2, 3, 4, 5, 6, 7, 8, 9, 10, 11] (by decide) rfl).weaken (fun _ _ _ _ => trivial))) RX5 gX5_lands_X5_finding rfl ⟨rfl, rfl⟩ pdX5_finding rfl ⟨Nat.le_of_ble_eq_true rfl, Nat.le_of_ble_eq_true rfl⟩ (fun _ _ _ _ q => q) (va_recv hE.1 hPc (ci := 4) (q0 := 0) rfl rfl) (fun U hU _ _ => by rw [hU]; exact hPc) hl.1 rfl (Nat.le_of_ble_eq_true rfl) dX5_lands_11 ⟨Nat.zero_le _, Nat.zero_le _⟩) hP (hD _ rfl) hS rfl rfl rfl (fun H locs hP hS => ?_)
    obtain ⟨q0, g0⟩ := Prod.mk.inj (Option.some.inj h)
    obtain ⟨q1, g1⟩ := Prod.mk.inj g0
    obtain ⟨q2, q3⟩ := Prod.mk.inj g1
    subst q0 q1 q2 q3
    exact eMi C0 hP hS rfl rfl dX5_lands_14
def fX5_closes_38 (F : Nat) (ad : Nat → Int32) (v1 : Int32) (v2 : Int32) : Nat → Int32 → (Nat → Int32) → (Nat → Int32) → Option (Int32 × (Nat → Int32) × (Nat → Int32) × (Nat → Int32))
  | 0, _, _, _ => none
  | n + 1, v3, nw, fd => (if 200 ≤ v3 then Option.bind (fX5_thickAt F nw v1) (fun z_8 => (if v2 ≤ z_8 then Option.bind (fX5_putBack F nw ad v3) (fun z_11 => Option.bind (fX5_orNone fd z_11.1) (fun z_13 => some (z_13.1, z_11.2, ad, z_13.2))) else Option.bind (fX5_putBack F nw ad (-1)) (fun z_15 => Option.bind (fX5_orNone fd z_15.1) (fun z_17 => some (z_17.1, z_15.2, ad, z_17.2))))) else Option.bind (fX5_thickAt F nw v1) (fun z_19 => (if v2 ≤ z_19 then Option.bind (fX5_thickAt F nw v1) (fun z_22 => (if v2 ≤ z_22 then Option.bind (fX5_putBack F nw ad v3) (fun z_25 => Option.bind (fX5_orNone fd z_25.1) (fun z_27 => some (z_27.1, z_25.2, ad, z_27.2))) else Option.bind (fX5_putBack F nw ad (-1)) (fun z_29 => Option.bind (fX5_orNone fd z_29.1) (fun z_31 => some (z_31.1, z_29.2, ad, z_31.2))))) else Option.bind (fX5_day F nw) (fun z_33 => fX5_closes_38 F ad v1 v2 n (v3 + 1) z_33 fd))))
def fX5_closes (F : Nat) (nw : Nat → Int32) (ad : Nat → Int32) (fd : Nat → Int32) (v1 : Int32) (v2 : Int32) : Option (Int32 × (Nat → Int32) × (Nat → Int32) × (Nat → Int32)) := (if (fX5_isCell v1) = 0 then Option.bind (fX5_finding fd (-1000001)) (fun z_2 => some (z_2.1, nw, ad, z_2.2)) else (if (fX5_within v2 0 999) = 0 then Option.bind (fX5_finding fd (-1000001)) (fun z_35 => some (z_35.1, nw, ad, z_35.2)) else Option.bind (fX5_copyRow F nw ad) (fun z_5 => fX5_closes_38 F z_5 v1 v2 F 0 nw fd)))
abbrev rmX5_closes : Room := { frames := 6, cells := 0, slots := 0, locals := 135 }
theorem pdX5_closes : (yX5_closes.cls = RX5 ∧ yX5_closes.cls ≠ "java/lang/invoke/MethodHandle" ∧ yX5_closes.cls ≠ "java/lang/invoke/VarHandle" ∧ (parseMethodDescriptor yX5_closes.desc).map (fun d => d.parameters.length) = some 2) := by decide +kernel
set_option maxHeartbeats 4000000 in
set_option maxRecDepth 100000 in
theorem lX5_closes_38 {p : Program} {l : Launch} {e : Env} {s : State} {m : MethodId} {av : Array Value} {below : List Frame} {meth : Method} {c : Code} {D : va_G} {cI cS : ClassId} {a0 a1 a2 a3 a4 a5 a6 a7 a8 a9 a10 a11 : Nat} {W0 : va_W} (C0 : CX p s m av meth c RX5 cX5_closes 4 (some .int) wsX5_closes D cI cS) (F : Nat) (kp : Nat → Int32) (ad : Nat → Int32) (tp : Nat → Int32) (kn : Nat → Option Nat) (it : Nat → Int32) (wd : Nat → Int32) (sz : Nat → Int32) (nm : Nat → Int32) (mv : Nat → Int32) (ik : Int32) (td : Int32) (bg : Int32) (en : Int32) (so : Int32) (va : Int32) (iw : Int32) (im : Int32) (st : Int32) (ht : Int32) (v1 : Int32) (v2 : Int32) (z0 : Int32) (z1 : Nat → Int32) (z2 : Nat → Int32) (z3 : Nat → Int32) (hD : ∀ W : va_W, W.map Prod.fst = [a0, a1, a2, a3, a4, a5, a6, a7, a8, a9, a10, a11] → va_D (wA W0) W) : ∀ (n : Nat) (v3 : Int32) (nw : Nat → Int32) (fd : Nat → Int32) (H : Heap) (locs : List Loc), va_P D vwCl (wX5 cI cS a0 a1 a2 a3 a4 a5 a6 a7 a8 a9 a10 a11 nw kp ad fd tp kn it wd sz nm mv ik td bg en so va iw im st ht) H → va_S (wA W0) s.heap H locs → ∀ (ls : Array Slot), lv_has ls 4 [(0, .ref a0), (1, .int v1), (2, .int v2), (3, .int v3)] → fX5_closes_38 F ad v1 v2 n v3 nw fd = some (z0, z1, z2, z3) → W p l e rmX5_closes s m av below meth c H locs 0 0 (MQ below (qI D W0 (wX5 cI cS a0 a1 a2 a3 a4 a5 a6 a7 a8 a9 a10 a11 z1 kp z2 z3 tp kn it wd sz nm mv ik td bg en so va iw im st ht) z0) av s 0 0 (wA W0)) (F0 m 38 ls []) := by
  obtain ⟨hx, hb, hr, hml, hown, hts, hlk, hE⟩ := id C0
  have hinX5 : ∀ w ∈ u_ws RX5 TX5 21, w ∈ wsX5_closes := by decide +kernel
  intro n
  induction n with
  | zero =>
    intro v3 nw fd H locs hP hS ls hl h
    cases (show none = some (z0, z1, z2, z3) from h)
  | succ n ih =>
    intro v3 nw fd H locs hP hS ls hl h
    rw [fX5_closes_38] at h
    refine lv_iload_n hx hb dX5_closes_38 rfl (lv_at hl 3 rfl) ?_
    refine lv_sipush (v := 200) hx hb dX5_closes_39 (by decide) ?_
    refine lv_icmp_ge (tgt := 64) hx hb dX5_closes_42 (by decide) (fun c_7 => ?_) (fun c_7 => ?_)
    · have h := ifp c_7 h
      refine lv_aload_n hx hb dX5_closes_64 rfl (lv_at hl 0 rfl) ?_
      refine lv_aload_n hx hb dX5_closes_65 rfl (lv_at hl 0 rfl) ?_
      refine lv_aload_n hx hb dX5_closes_66 rfl (lv_at hl 0 rfl) ?_
      refine lv_iload_n hx hb dX5_closes_67 rfl (lv_at hl 1 rfl) ?_
      obtain ⟨z_8, e_9, h⟩ := bds h
      have hPc := hP.sub (ws' := (wX5 cI cS a0 a1 a2 a3 a4 a5 a6 a7 a8 a9 a10 a11 nw kp ad fd tp kn it wd sz nm mv ik td bg en so va iw im st ht)) [0, 1, 2, 3, 4, 5, 6, 7, 8, 9, 10, 11] rfl
      refine kRi (rV C0 (tX5_thickAt l D cI cS F a0 a1 a2 a3 a4 a5 a6 a7 a8 a9 a10 a11 nw kp ad fd tp kn it wd sz nm mv ik td bg en so va iw im st ht v1 z_8 e_9) RX5 gX5_closes_X5_thickAt rfl ⟨rfl, rfl⟩ pdX5_thickAt rfl ⟨Nat.le_of_ble_eq_true rfl, Nat.le_of_ble_eq_true rfl⟩ (fun _ _ _ _ q => q) (va_recv hE.1 hPc (ci := 4) (q0 := 0) rfl rfl) (fun U hU _ _ => by rw [hU]; exact hPc) hl.1 rfl (Nat.le_of_ble_eq_true rfl) dX5_closes_68 ⟨Nat.zero_le _, Nat.zero_le _⟩) ?_
      refine lv_iload_n hx hb dX5_closes_71 rfl (lv_at hl 2 rfl) ?_
      refine lv_icmp_ge (tgt := 79) hx hb dX5_closes_72 (by decide) (fun c_10 => ?_) (fun c_10 => ?_)
      · have h := ifp c_10 h
        refine lv_iload_n hx hb dX5_closes_79 rfl (lv_at hl 3 rfl) ?_
        obtain ⟨z_11, e_12, h⟩ := bds h
        have hPc := hP.sub (ws' := (wX5 cI cS a0 a1 a2 a3 a4 a5 a6 a7 a8 a9 a10 a11 nw kp ad fd tp kn it wd sz nm mv ik td bg en so va iw im st ht)) [0, 1, 2, 3, 4, 5, 6, 7, 8, 9, 10, 11] rfl
        refine kMi (wf' := (wX5 cI cS a0 a1 a2 a3 a4 a5 a6 a7 a8 a9 a10 a11 z_11.2 kp ad fd tp kn it wd sz nm mv ik td bg en so va iw im st ht)) [0, 1, 2, 3, 4, 5, 6, 7, 8, 9, 10, 11] [some 0, some 1, some 2, some 3, some 4, some 5, some 6, some 7, some 8, some 9, some 10, some 11] (rV C0 (tX5_putBack l D cI cS F a0 a1 a2 a3 a4 a5 a6 a7 a8 a9 a10 a11 nw kp ad fd tp kn it wd sz nm mv ik td bg en so va iw im st ht v3 z_11.1 z_11.2 e_12 (((hD (wX5 cI cS a0 a1 a2 a3 a4 a5 a6 a7 a8 a9 a10 a11 nw kp ad fd tp kn it wd sz nm mv ik td bg en so va iw im st ht) rfl).sub [0, 1, 2, 3, 4, 5, 6, 7, 8, 9, 10, 11] (by decide) rfl).weaken (fun _ _ _ _ => trivial))) RX5 gX5_closes_X5_putBack rfl ⟨rfl, rfl⟩ pdX5_putBack rfl ⟨Nat.le_of_ble_eq_true rfl, Nat.le_of_ble_eq_true rfl⟩ (fun _ _ _ _ q => q) (va_recv hE.1 hPc (ci := 4) (q0 := 0) rfl rfl) (fun U hU _ _ => by rw [hU]; exact hPc) hl.1 rfl (Nat.le_of_ble_eq_true rfl) dX5_closes_80 ⟨Nat.zero_le _, Nat.zero_le _⟩) hP (hD _ rfl) hS rfl rfl rfl (fun H locs hP hS => ?_)
        obtain ⟨z_13, e_14, h⟩ := bds h
        have hPc := hP.sub (ws' := (wX5 cI cS a0 a1 a2 a3 a4 a5 a6 a7 a8 a9 a10 a11 z_11.2 kp ad fd tp kn it wd sz nm mv ik td bg en so va iw im st ht)) [0, 1, 2, 3, 4, 5, 6, 7, 8, 9, 10, 11] rfl
        refine kMi (wf' := (wX5 cI cS a0 a1 a2 a3 a4 a5 a6 a7 a8 a9 a10 a11 z_11.2 kp ad z_13.2 tp kn it wd sz nm mv ik td bg en so va iw im st ht)) [0, 1, 2, 3, 4, 5, 6, 7, 8, 9, 10, 11] [some 0, some 1, some 2, some 3, some 4, some 5, some 6, some 7, some 8, some 9, some 10, some 11] (rV C0 (tX5_orNone l D cI cS a0 a1 a2 a3 a4 a5 a6 a7 a8 a9 a10 a11 z_11.2 kp ad fd tp kn it wd sz nm mv ik td bg en so va iw im st ht z_11.1 z_13.1 z_13.2 e_14 (((hD (wX5 cI cS a0 a1 a2 a3 a4 a5 a6 a7 a8 a9 a10 a11 z_11.2 kp ad fd tp kn it wd sz nm mv ik td bg en so va iw im st ht) rfl).sub [0, 1, 2, 3, 4, 5, 6, 7, 8, 9, 10, 11] (by decide) rfl).weaken (fun _ _ _ _ => trivial))) RX5 gX5_closes_X5_orNone rfl ⟨rfl, rfl⟩ pdX5_orNone rfl ⟨Nat.le_of_ble_eq_true rfl, Nat.le_of_ble_eq_true rfl⟩ (fun _ _ _ _ q => q) (va_recv hE.1 hPc (ci := 4) (q0 := 0) rfl rfl) (fun U hU _ _ => by rw [hU]; exact hPc) hl.1 rfl (Nat.le_of_ble_eq_true rfl) dX5_closes_83 ⟨Nat.zero_le _, Nat.zero_le _⟩) hP (hD _ rfl) hS rfl rfl rfl (fun H locs hP hS => ?_)
        obtain ⟨q0, g0⟩ := Prod.mk.inj (Option.some.inj h)
        obtain ⟨q1, g1⟩ := Prod.mk.inj g0
        obtain ⟨q2, q3⟩ := Prod.mk.inj g1
        subst q0 q1 q2 q3
        exact eMi C0 hP hS rfl rfl dX5_closes_86
      · have h := ifn c_10 h
        refine lv_iconst (v := (-1)) hx hb dX5_closes_75 (by decide) ?_
        refine lv_goto (tgt := 80) hx hb dX5_closes_76 (by decide) ?_
        obtain ⟨z_15, e_16, h⟩ := bds h
        have hPc := hP.sub (ws' := (wX5 cI cS a0 a1 a2 a3 a4 a5 a6 a7 a8 a9 a10 a11 nw kp ad fd tp kn it wd sz nm mv ik td bg en so va iw im st ht)) [0, 1, 2, 3, 4, 5, 6, 7, 8, 9, 10, 11] rfl
        refine kMi (wf' := (wX5 cI cS a0 a1 a2 a3 a4 a5 a6 a7 a8 a9 a10 a11 z_15.2 kp ad fd tp kn it wd sz nm mv ik td bg en so va iw im st ht)) [0, 1, 2, 3, 4, 5, 6, 7, 8, 9, 10, 11] [some 0, some 1, some 2, some 3, some 4, some 5, some 6, some 7, some 8, some 9, some 10, some 11] (rV C0 (tX5_putBack l D cI cS F a0 a1 a2 a3 a4 a5 a6 a7 a8 a9 a10 a11 nw kp ad fd tp kn it wd sz nm mv ik td bg en so va iw im st ht (-1) z_15.1 z_15.2 e_16 (((hD (wX5 cI cS a0 a1 a2 a3 a4 a5 a6 a7 a8 a9 a10 a11 nw kp ad fd tp kn it wd sz nm mv ik td bg en so va iw im st ht) rfl).sub [0, 1, 2, 3, 4, 5, 6, 7, 8, 9, 10, 11] (by decide) rfl).weaken (fun _ _ _ _ => trivial))) RX5 gX5_closes_X5_putBack rfl ⟨rfl, rfl⟩ pdX5_putBack rfl ⟨Nat.le_of_ble_eq_true rfl, Nat.le_of_ble_eq_true rfl⟩ (fun _ _ _ _ q => q) (va_recv hE.1 hPc (ci := 4) (q0 := 0) rfl rfl) (fun U hU _ _ => by rw [hU]; exact hPc) hl.1 rfl (Nat.le_of_ble_eq_true rfl) dX5_closes_80 ⟨Nat.zero_le _, Nat.zero_le _⟩) hP (hD _ rfl) hS rfl rfl rfl (fun H locs hP hS => ?_)
        obtain ⟨z_17, e_18, h⟩ := bds h
        have hPc := hP.sub (ws' := (wX5 cI cS a0 a1 a2 a3 a4 a5 a6 a7 a8 a9 a10 a11 z_15.2 kp ad fd tp kn it wd sz nm mv ik td bg en so va iw im st ht)) [0, 1, 2, 3, 4, 5, 6, 7, 8, 9, 10, 11] rfl
        refine kMi (wf' := (wX5 cI cS a0 a1 a2 a3 a4 a5 a6 a7 a8 a9 a10 a11 z_15.2 kp ad z_17.2 tp kn it wd sz nm mv ik td bg en so va iw im st ht)) [0, 1, 2, 3, 4, 5, 6, 7, 8, 9, 10, 11] [some 0, some 1, some 2, some 3, some 4, some 5, some 6, some 7, some 8, some 9, some 10, some 11] (rV C0 (tX5_orNone l D cI cS a0 a1 a2 a3 a4 a5 a6 a7 a8 a9 a10 a11 z_15.2 kp ad fd tp kn it wd sz nm mv ik td bg en so va iw im st ht z_15.1 z_17.1 z_17.2 e_18 (((hD (wX5 cI cS a0 a1 a2 a3 a4 a5 a6 a7 a8 a9 a10 a11 z_15.2 kp ad fd tp kn it wd sz nm mv ik td bg en so va iw im st ht) rfl).sub [0, 1, 2, 3, 4, 5, 6, 7, 8, 9, 10, 11] (by decide) rfl).weaken (fun _ _ _ _ => trivial))) RX5 gX5_closes_X5_orNone rfl ⟨rfl, rfl⟩ pdX5_orNone rfl ⟨Nat.le_of_ble_eq_true rfl, Nat.le_of_ble_eq_true rfl⟩ (fun _ _ _ _ q => q) (va_recv hE.1 hPc (ci := 4) (q0 := 0) rfl rfl) (fun U hU _ _ => by rw [hU]; exact hPc) hl.1 rfl (Nat.le_of_ble_eq_true rfl) dX5_closes_83 ⟨Nat.zero_le _, Nat.zero_le _⟩) hP (hD _ rfl) hS rfl rfl rfl (fun H locs hP hS => ?_)
        obtain ⟨q0, g0⟩ := Prod.mk.inj (Option.some.inj h)
        obtain ⟨q1, g1⟩ := Prod.mk.inj g0
        obtain ⟨q2, q3⟩ := Prod.mk.inj g1
        subst q0 q1 q2 q3
        exact eMi C0 hP hS rfl rfl dX5_closes_86
    · have h := ifn c_7 h
      refine lv_aload_n hx hb dX5_closes_45 rfl (lv_at hl 0 rfl) ?_
      refine lv_iload_n hx hb dX5_closes_46 rfl (lv_at hl 1 rfl) ?_
      obtain ⟨z_19, e_20, h⟩ := bds h
      have hPc := hP.sub (ws' := (wX5 cI cS a0 a1 a2 a3 a4 a5 a6 a7 a8 a9 a10 a11 nw kp ad fd tp kn it wd sz nm mv ik td bg en so va iw im st ht)) [0, 1, 2, 3, 4, 5, 6, 7, 8, 9, 10, 11] rfl
      refine kRi (rV C0 (tX5_thickAt l D cI cS F a0 a1 a2 a3 a4 a5 a6 a7 a8 a9 a10 a11 nw kp ad fd tp kn it wd sz nm mv ik td bg en so va iw im st ht v1 z_19 e_20) RX5 gX5_closes_X5_thickAt rfl ⟨rfl, rfl⟩ pdX5_thickAt rfl ⟨Nat.le_of_ble_eq_true rfl, Nat.le_of_ble_eq_true rfl⟩ (fun _ _ _ _ q => q) (va_recv hE.1 hPc (ci := 4) (q0 := 0) rfl rfl) (fun U hU _ _ => by rw [hU]; exact hPc) hl.1 rfl (Nat.le_of_ble_eq_true rfl) dX5_closes_47 ⟨Nat.zero_le _, Nat.zero_le _⟩) ?_
      refine lv_iload_n hx hb dX5_closes_50 rfl (lv_at hl 2 rfl) ?_
      refine lv_icmp_ge (tgt := 64) hx hb dX5_closes_51 (by decide) (fun c_21 => ?_) (fun c_21 => ?_)
      · have h := ifp c_21 h
        refine lv_aload_n hx hb dX5_closes_64 rfl (lv_at hl 0 rfl) ?_
        refine lv_aload_n hx hb dX5_closes_65 rfl (lv_at hl 0 rfl) ?_
        refine lv_aload_n hx hb dX5_closes_66 rfl (lv_at hl 0 rfl) ?_
        refine lv_iload_n hx hb dX5_closes_67 rfl (lv_at hl 1 rfl) ?_
        obtain ⟨z_22, e_23, h⟩ := bds h
        have hPc := hP.sub (ws' := (wX5 cI cS a0 a1 a2 a3 a4 a5 a6 a7 a8 a9 a10 a11 nw kp ad fd tp kn it wd sz nm mv ik td bg en so va iw im st ht)) [0, 1, 2, 3, 4, 5, 6, 7, 8, 9, 10, 11] rfl
        refine kRi (rV C0 (tX5_thickAt l D cI cS F a0 a1 a2 a3 a4 a5 a6 a7 a8 a9 a10 a11 nw kp ad fd tp kn it wd sz nm mv ik td bg en so va iw im st ht v1 z_22 e_23) RX5 gX5_closes_X5_thickAt rfl ⟨rfl, rfl⟩ pdX5_thickAt rfl ⟨Nat.le_of_ble_eq_true rfl, Nat.le_of_ble_eq_true rfl⟩ (fun _ _ _ _ q => q) (va_recv hE.1 hPc (ci := 4) (q0 := 0) rfl rfl) (fun U hU _ _ => by rw [hU]; exact hPc) hl.1 rfl (Nat.le_of_ble_eq_true rfl) dX5_closes_68 ⟨Nat.zero_le _, Nat.zero_le _⟩) ?_
        refine lv_iload_n hx hb dX5_closes_71 rfl (lv_at hl 2 rfl) ?_
        refine lv_icmp_ge (tgt := 79) hx hb dX5_closes_72 (by decide) (fun c_24 => ?_) (fun c_24 => ?_)
        · have h := ifp c_24 h
          refine lv_iload_n hx hb dX5_closes_79 rfl (lv_at hl 3 rfl) ?_
          obtain ⟨z_25, e_26, h⟩ := bds h
          have hPc := hP.sub (ws' := (wX5 cI cS a0 a1 a2 a3 a4 a5 a6 a7 a8 a9 a10 a11 nw kp ad fd tp kn it wd sz nm mv ik td bg en so va iw im st ht)) [0, 1, 2, 3, 4, 5, 6, 7, 8, 9, 10, 11] rfl
          refine kMi (wf' := (wX5 cI cS a0 a1 a2 a3 a4 a5 a6 a7 a8 a9 a10 a11 z_25.2 kp ad fd tp kn it wd sz nm mv ik td bg en so va iw im st ht)) [0, 1, 2, 3, 4, 5, 6, 7, 8, 9, 10, 11] [some 0, some 1, some 2, some 3, some 4, some 5, some 6, some 7, some 8, some 9, some 10, some 11] (rV C0 (tX5_putBack l D cI cS F a0 a1 a2 a3 a4 a5 a6 a7 a8 a9 a10 a11 nw kp ad fd tp kn it wd sz nm mv ik td bg en so va iw im st ht v3 z_25.1 z_25.2 e_26 (((hD (wX5 cI cS a0 a1 a2 a3 a4 a5 a6 a7 a8 a9 a10 a11 nw kp ad fd tp kn it wd sz nm mv ik td bg en so va iw im st ht) rfl).sub [0, 1, 2, 3, 4, 5, 6, 7, 8, 9, 10, 11] (by decide) rfl).weaken (fun _ _ _ _ => trivial))) RX5 gX5_closes_X5_putBack rfl ⟨rfl, rfl⟩ pdX5_putBack rfl ⟨Nat.le_of_ble_eq_true rfl, Nat.le_of_ble_eq_true rfl⟩ (fun _ _ _ _ q => q) (va_recv hE.1 hPc (ci := 4) (q0 := 0) rfl rfl) (fun U hU _ _ => by rw [hU]; exact hPc) hl.1 rfl (Nat.le_of_ble_eq_true rfl) dX5_closes_80 ⟨Nat.zero_le _, Nat.zero_le _⟩) hP (hD _ rfl) hS rfl rfl rfl (fun H locs hP hS => ?_)
          obtain ⟨z_27, e_28, h⟩ := bds h
          have hPc := hP.sub (ws' := (wX5 cI cS a0 a1 a2 a3 a4 a5 a6 a7 a8 a9 a10 a11 z_25.2 kp ad fd tp kn it wd sz nm mv ik td bg en so va iw im st ht)) [0, 1, 2, 3, 4, 5, 6, 7, 8, 9, 10, 11] rfl
          refine kMi (wf' := (wX5 cI cS a0 a1 a2 a3 a4 a5 a6 a7 a8 a9 a10 a11 z_25.2 kp ad z_27.2 tp kn it wd sz nm mv ik td bg en so va iw im st ht)) [0, 1, 2, 3, 4, 5, 6, 7, 8, 9, 10, 11] [some 0, some 1, some 2, some 3, some 4, some 5, some 6, some 7, some 8, some 9, some 10, some 11] (rV C0 (tX5_orNone l D cI cS a0 a1 a2 a3 a4 a5 a6 a7 a8 a9 a10 a11 z_25.2 kp ad fd tp kn it wd sz nm mv ik td bg en so va iw im st ht z_25.1 z_27.1 z_27.2 e_28 (((hD (wX5 cI cS a0 a1 a2 a3 a4 a5 a6 a7 a8 a9 a10 a11 z_25.2 kp ad fd tp kn it wd sz nm mv ik td bg en so va iw im st ht) rfl).sub [0, 1, 2, 3, 4, 5, 6, 7, 8, 9, 10, 11] (by decide) rfl).weaken (fun _ _ _ _ => trivial))) RX5 gX5_closes_X5_orNone rfl ⟨rfl, rfl⟩ pdX5_orNone rfl ⟨Nat.le_of_ble_eq_true rfl, Nat.le_of_ble_eq_true rfl⟩ (fun _ _ _ _ q => q) (va_recv hE.1 hPc (ci := 4) (q0 := 0) rfl rfl) (fun U hU _ _ => by rw [hU]; exact hPc) hl.1 rfl (Nat.le_of_ble_eq_true rfl) dX5_closes_83 ⟨Nat.zero_le _, Nat.zero_le _⟩) hP (hD _ rfl) hS rfl rfl rfl (fun H locs hP hS => ?_)
          obtain ⟨q0, g0⟩ := Prod.mk.inj (Option.some.inj h)
          obtain ⟨q1, g1⟩ := Prod.mk.inj g0
          obtain ⟨q2, q3⟩ := Prod.mk.inj g1
          subst q0 q1 q2 q3
          exact eMi C0 hP hS rfl rfl dX5_closes_86
        · have h := ifn c_24 h
          refine lv_iconst (v := (-1)) hx hb dX5_closes_75 (by decide) ?_
          refine lv_goto (tgt := 80) hx hb dX5_closes_76 (by decide) ?_
          obtain ⟨z_29, e_30, h⟩ := bds h
          have hPc := hP.sub (ws' := (wX5 cI cS a0 a1 a2 a3 a4 a5 a6 a7 a8 a9 a10 a11 nw kp ad fd tp kn it wd sz nm mv ik td bg en so va iw im st ht)) [0, 1, 2, 3, 4, 5, 6, 7, 8, 9, 10, 11] rfl
          refine kMi (wf' := (wX5 cI cS a0 a1 a2 a3 a4 a5 a6 a7 a8 a9 a10 a11 z_29.2 kp ad fd tp kn it wd sz nm mv ik td bg en so va iw im st ht)) [0, 1, 2, 3, 4, 5, 6, 7, 8, 9, 10, 11] [some 0, some 1, some 2, some 3, some 4, some 5, some 6, some 7, some 8, some 9, some 10, some 11] (rV C0 (tX5_putBack l D cI cS F a0 a1 a2 a3 a4 a5 a6 a7 a8 a9 a10 a11 nw kp ad fd tp kn it wd sz nm mv ik td bg en so va iw im st ht (-1) z_29.1 z_29.2 e_30 (((hD (wX5 cI cS a0 a1 a2 a3 a4 a5 a6 a7 a8 a9 a10 a11 nw kp ad fd tp kn it wd sz nm mv ik td bg en so va iw im st ht) rfl).sub [0, 1, 2, 3, 4, 5, 6, 7, 8, 9, 10, 11] (by decide) rfl).weaken (fun _ _ _ _ => trivial))) RX5 gX5_closes_X5_putBack rfl ⟨rfl, rfl⟩ pdX5_putBack rfl ⟨Nat.le_of_ble_eq_true rfl, Nat.le_of_ble_eq_true rfl⟩ (fun _ _ _ _ q => q) (va_recv hE.1 hPc (ci := 4) (q0 := 0) rfl rfl) (fun U hU _ _ => by rw [hU]; exact hPc) hl.1 rfl (Nat.le_of_ble_eq_true rfl) dX5_closes_80 ⟨Nat.zero_le _, Nat.zero_le _⟩) hP (hD _ rfl) hS rfl rfl rfl (fun H locs hP hS => ?_)
          obtain ⟨z_31, e_32, h⟩ := bds h
          have hPc := hP.sub (ws' := (wX5 cI cS a0 a1 a2 a3 a4 a5 a6 a7 a8 a9 a10 a11 z_29.2 kp ad fd tp kn it wd sz nm mv ik td bg en so va iw im st ht)) [0, 1, 2, 3, 4, 5, 6, 7, 8, 9, 10, 11] rfl
          refine kMi (wf' := (wX5 cI cS a0 a1 a2 a3 a4 a5 a6 a7 a8 a9 a10 a11 z_29.2 kp ad z_31.2 tp kn it wd sz nm mv ik td bg en so va iw im st ht)) [0, 1, 2, 3, 4, 5, 6, 7, 8, 9, 10, 11] [some 0, some 1, some 2, some 3, some 4, some 5, some 6, some 7, some 8, some 9, some 10, some 11] (rV C0 (tX5_orNone l D cI cS a0 a1 a2 a3 a4 a5 a6 a7 a8 a9 a10 a11 z_29.2 kp ad fd tp kn it wd sz nm mv ik td bg en so va iw im st ht z_29.1 z_31.1 z_31.2 e_32 (((hD (wX5 cI cS a0 a1 a2 a3 a4 a5 a6 a7 a8 a9 a10 a11 z_29.2 kp ad fd tp kn it wd sz nm mv ik td bg en so va iw im st ht) rfl).sub [0, 1, 2, 3, 4, 5, 6, 7, 8, 9, 10, 11] (by decide) rfl).weaken (fun _ _ _ _ => trivial))) RX5 gX5_closes_X5_orNone rfl ⟨rfl, rfl⟩ pdX5_orNone rfl ⟨Nat.le_of_ble_eq_true rfl, Nat.le_of_ble_eq_true rfl⟩ (fun _ _ _ _ q => q) (va_recv hE.1 hPc (ci := 4) (q0 := 0) rfl rfl) (fun U hU _ _ => by rw [hU]; exact hPc) hl.1 rfl (Nat.le_of_ble_eq_true rfl) dX5_closes_83 ⟨Nat.zero_le _, Nat.zero_le _⟩) hP (hD _ rfl) hS rfl rfl rfl (fun H locs hP hS => ?_)
          obtain ⟨q0, g0⟩ := Prod.mk.inj (Option.some.inj h)
          obtain ⟨q1, g1⟩ := Prod.mk.inj g0
          obtain ⟨q2, q3⟩ := Prod.mk.inj g1
          subst q0 q1 q2 q3
          exact eMi C0 hP hS rfl rfl dX5_closes_86
      · have h := ifn c_21 h
        refine lv_aload_n hx hb dX5_closes_54 rfl (lv_at hl 0 rfl) ?_
        obtain ⟨z_33, e_34, h⟩ := bds h
        have hPc := hP.sub (ws' := (wX5 cI cS a0 a1 a2 a3 a4 a5 a6 a7 a8 a9 a10 a11 nw kp ad fd tp kn it wd sz nm mv ik td bg en so va iw im st ht)) [0, 1, 2, 3, 4, 5, 6, 7, 8, 9, 10, 11] rfl
        refine kMv (wf' := (wX5 cI cS a0 a1 a2 a3 a4 a5 a6 a7 a8 a9 a10 a11 z_33 kp ad fd tp kn it wd sz nm mv ik td bg en so va iw im st ht)) [0, 1, 2, 3, 4, 5, 6, 7, 8, 9, 10, 11] [some 0, some 1, some 2, some 3, some 4, some 5, some 6, some 7, some 8, some 9, some 10, some 11] (rV C0 (tX5_day l D cI cS F a0 a1 a2 a3 a4 a5 a6 a7 a8 a9 a10 a11 nw kp ad fd tp kn it wd sz nm mv ik td bg en so va iw im st ht  z_33 e_34 (((hD (wX5 cI cS a0 a1 a2 a3 a4 a5 a6 a7 a8 a9 a10 a11 nw kp ad fd tp kn it wd sz nm mv ik td bg en so va iw im st ht) rfl).sub [0, 1, 2, 3, 4, 5, 6, 7, 8, 9, 10, 11] (by decide) rfl).weaken (fun _ _ _ _ => trivial))) RX5 gX5_closes_X5_day rfl ⟨rfl, rfl⟩ pdX5_day rfl ⟨Nat.le_of_ble_eq_true rfl, Nat.le_of_ble_eq_true rfl⟩ (fun _ _ _ _ q => q) (va_recv hE.1 hPc (ci := 4) (q0 := 0) rfl rfl) (fun U hU _ _ => by rw [hU]; exact hPc) hl.1 rfl (Nat.le_of_ble_eq_true rfl) dX5_closes_55 ⟨Nat.zero_le _, Nat.zero_le _⟩) hP (hD _ rfl) hS rfl rfl rfl (fun H locs hP hS => ?_)
        refine lv_iinc (v := v3 + 1) (lv' := [(3, .int (v3 + 1)), (0, .ref a0), (1, .int v1), (2, .int v2)]) hx hb dX5_closes_58 hl (k := 3) rfl rfl (by decide) rfl (fun ls hl => ?_)
        refine lv_goto (tgt := 38) hx hb dX5_closes_61 (by decide) ?_
        exact ih (v3 + 1) z_33 fd _ _ hP hS _ (lv_sub hl [1, 2, 3, 0] rfl) h
set_option maxHeartbeats 4000000 in
set_option maxRecDepth 100000 in
theorem tX5_closes (l : Launch) (D : va_G) (cI cS : ClassId) (F : Nat) (a0 a1 a2 a3 a4 a5 a6 a7 a8 a9 a10 a11 : Nat) (nw : Nat → Int32) (kp : Nat → Int32) (ad : Nat → Int32) (fd : Nat → Int32) (tp : Nat → Int32) (kn : Nat → Option Nat) (it : Nat → Int32) (wd : Nat → Int32) (sz : Nat → Int32) (nm : Nat → Int32) (mv : Nat → Int32) (ik : Int32) (td : Int32) (bg : Int32) (en : Int32) (so : Int32) (va : Int32) (iw : Int32) (im : Int32) (st : Int32) (ht : Int32) (v1 : Int32) (v2 : Int32) (z0 : Int32) (z1 : Nat → Int32) (z2 : Nat → Int32) (z3 : Nat → Int32) (h : fX5_closes F nw ad fd v1 v2 = some (z0, z1, z2, z3)) (hD0 : va_D (fun _ => True) (wX5 cI cS a0 a1 a2 a3 a4 a5 a6 a7 a8 a9 a10 a11 nw kp ad fd tp kn it wd sz nm mv ik td bg en so va iw im st ht)) : Met l yX5_closes wsX5_closes rmX5_closes (PZ D cI cS [.ref a0, .int v1, .int v2] (fun U => va_P D vwCl (wX5 cI cS a0 a1 a2 a3 a4 a5 a6 a7 a8 a9 a10 a11 nw kp ad fd tp kn it wd sz nm mv ik td bg en so va iw im st ht) U.heap)) (qI D (wX5 cI cS a0 a1 a2 a3 a4 a5 a6 a7 a8 a9 a10 a11 nw kp ad fd tp kn it wd sz nm mv ik td bg en so va iw im st ht) (wX5 cI cS a0 a1 a2 a3 a4 a5 a6 a7 a8 a9 a10 a11 z1 kp z2 z3 tp kn it wd sz nm mv ik td bg en so va iw im st ht) z0) 0 0 (wA (wX5 cI cS a0 a1 a2 a3 a4 a5 a6 a7 a8 a9 a10 a11 nw kp ad fd tp kn it wd sz nm mv ik td bg en so va iw im st ht)) := by
  refine Met.mk RX5 (by decide) rfl rfl (Nat.le_of_ble_eq_true rfl) ?_
  intro p e s m below meth c ls C0 hP hl
  have hl : lv_has ls 4 [(0, .ref a0), (1, .int v1), (2, .int v2)] := hl
  obtain ⟨hx, hb, hr, hml, hown, hts, hlk, hE⟩ := id C0
  have hinX5 : ∀ w ∈ u_ws RX5 TX5 21, w ∈ wsX5_closes := by decide +kernel
  have hD : ∀ W : va_W, W.map Prod.fst = [a0, a1, a2, a3, a4, a5, a6, a7, a8, a9, a10, a11] → va_D (wA (wX5 cI cS a0 a1 a2 a3 a4 a5 a6 a7 a8 a9 a10 a11 nw kp ad fd tp kn it wd sz nm mv ik td bg en so va iw im st ht)) W := fun W hW => hD0.own.re hW
  have hS : va_S (wA (wX5 cI cS a0 a1 a2 a3 a4 a5 a6 a7 a8 a9 a10 a11 nw kp ad fd tp kn it wd sz nm mv ik td bg en so va iw im st ht)) s.heap s.heap [] := va_S.rf
  have hP : va_P D vwCl (wX5 cI cS a0 a1 a2 a3 a4 a5 a6 a7 a8 a9 a10 a11 nw kp ad fd tp kn it wd sz nm mv ik td bg en so va iw im st ht) s.heap := hP
  rw [fX5_closes] at h
  refine lv_iload_n hx hb dX5_closes_0 rfl (lv_at hl 1 rfl) ?_
  refine kRi (rS C0 (tX5_isCell l D cI cS v1 (fX5_isCell v1) rfl) gX5_closes_X5_isCell rfl ⟨rfl, rfl⟩ pdX5_isCell rfl ⟨Nat.le_of_ble_eq_true rfl, Nat.le_of_ble_eq_true rfl⟩ (fun _ _ _ _ q => q) (fun _ _ _ _ => vp0) hl.1 rfl (Nat.le_of_ble_eq_true rfl) dX5_closes_1 ⟨Nat.zero_le _, Nat.zero_le _⟩) ?_
  refine lv_if_eq (tgt := 18) hx hb dX5_closes_4 (by decide) (fun c_1 => ?_) (fun c_1 => ?_)
  · have h := ifp c_1 h
    refine lv_aload_n hx hb dX5_closes_18 rfl (lv_at hl 0 rfl) ?_
    refine lv_ldc (v := (-1000001)) hx hb hown (hts _ (List.mem_of_getElem? (i := 1) rfl)) dX5_closes_19 ?_
    obtain ⟨z_2, e_3, h⟩ := bds h
    have hPc := hP.sub (ws' := (wX5 cI cS a0 a1 a2 a3 a4 a5 a6 a7 a8 a9 a10 a11 nw kp ad fd tp kn it wd sz nm mv ik td bg en so va iw im st ht)) [0, 1, 2, 3, 4, 5, 6, 7, 8, 9, 10, 11] rfl
    refine kMi (wf' := (wX5 cI cS a0 a1 a2 a3 a4 a5 a6 a7 a8 a9 a10 a11 nw kp ad z_2.2 tp kn it wd sz nm mv ik td bg en so va iw im st ht)) [0, 1, 2, 3, 4, 5, 6, 7, 8, 9, 10, 11] [some 0, some 1, some 2, some 3, some 4, some 5, some 6, some 7, some 8, some 9, some 10, some 11] (rV C0 (tX5_finding l D cI cS a0 a1 a2 a3 a4 a5 a6 a7 a8 a9 a10 a11 nw kp ad fd tp kn it wd sz nm mv ik td bg en so va iw im st ht (-1000001) z_2.1 z_2.2 e_3 (((hD (wX5 cI cS a0 a1 a2 a3 a4 a5 a6 a7 a8 a9 a10 a11 nw kp ad fd tp kn it wd sz nm mv ik td bg en so va iw im st ht) rfl).sub [0, 1, 2, 3, 4, 5, 6, 7, 8, 9, 10, 11] (by decide) rfl).weaken (fun _ _ _ _ => trivial))) RX5 gX5_closes_X5_finding rfl ⟨rfl, rfl⟩ pdX5_finding rfl ⟨Nat.le_of_ble_eq_true rfl, Nat.le_of_ble_eq_true rfl⟩ (fun _ _ _ _ q => q) (va_recv hE.1 hPc (ci := 4) (q0 := 0) rfl rfl) (fun U hU _ _ => by rw [hU]; exact hPc) hl.1 rfl (Nat.le_of_ble_eq_true rfl) dX5_closes_21 ⟨Nat.zero_le _, Nat.zero_le _⟩) hP (hD _ rfl) hS rfl rfl rfl (fun H locs hP hS => ?_)
    obtain ⟨q0, g0⟩ := Prod.mk.inj (Option.some.inj h)
    obtain ⟨q1, g1⟩ := Prod.mk.inj g0
    obtain ⟨q2, q3⟩ := Prod.mk.inj g1
    subst q0 q1 q2 q3
    exact eMi C0 hP hS rfl rfl dX5_closes_24
  · have h := ifn c_1 h
    refine lv_iload_n hx hb dX5_closes_7 rfl (lv_at hl 2 rfl) ?_
    refine lv_iconst (v := 0) hx hb dX5_closes_8 (by decide) ?_
    refine lv_sipush (v := 999) hx hb dX5_closes_9 (by decide) ?_
    refine kRi (rS C0 (tX5_within l D cI cS v2 0 999 (fX5_within v2 0 999) rfl) gX5_closes_X5_within rfl ⟨rfl, rfl⟩ pdX5_within rfl ⟨Nat.le_of_ble_eq_true rfl, Nat.le_of_ble_eq_true rfl⟩ (fun _ _ _ _ q => q) (fun _ _ _ _ => vp0) hl.1 rfl (Nat.le_of_ble_eq_true rfl) dX5_closes_12 ⟨Nat.zero_le _, Nat.zero_le _⟩) ?_
    refine lv_if_ne (tgt := 25) hx hb dX5_closes_15 (by decide) (fun c_4 => ?_) (fun c_4 => ?_)
    · have h := ifn c_4 h
      refine lv_aload_n hx hb dX5_closes_25 rfl (lv_at hl 0 rfl) ?_
      refine va_get (D := D) (ci := 4) (v := .ref a1) (C := RX5) (T := TX5) (N := 21) hx hb hts hinX5 hown hE.1 hP 0 rfl rfl 0 (by decide) (hts _ (List.mem_of_getElem? (i := 2) rfl)) (fun _ h9 => h9) rfl dX5_closes_26 ?_
      refine lv_aload_n hx hb dX5_closes_29 rfl (lv_at hl 0 rfl) ?_
      refine va_get (D := D) (ci := 4) (v := .ref a3) (C := RX5) (T := TX5) (N := 21) hx hb hts hinX5 hown hE.1 hP 0 rfl rfl 2 (by decide) (hts _ (List.mem_of_getElem? (i := 3) rfl)) (fun _ h9 => h9) rfl dX5_closes_30 ?_
      obtain ⟨z_5, e_6, h⟩ := bds h
      have hPc := hP.sub (ws' := (wR2 cI cS a1 a3 nw ad)) [1, 3] rfl
      refine kMv (wf' := (wX5 cI cS a0 a1 a2 a3 a4 a5 a6 a7 a8 a9 a10 a11 nw kp z_5 fd tp kn it wd sz nm mv ik td bg en so va iw im st ht)) [1, 3] [none, some 0, none, some 1, none, none, none, none, none, none, none, none] (rS C0 (tX5_copyRow l D cI cS F a1 a3 nw ad  z_5 e_6 (((hD (wX5 cI cS a0 a1 a2 a3 a4 a5 a6 a7 a8 a9 a10 a11 nw kp ad fd tp kn it wd sz nm mv ik td bg en so va iw im st ht) rfl).sub [1, 3] (by decide) rfl).weaken (fun _ _ _ _ => trivial))) gX5_closes_X5_copyRow rfl ⟨rfl, rfl⟩ pdX5_copyRow rfl ⟨Nat.le_of_ble_eq_true rfl, Nat.le_of_ble_eq_true rfl⟩ (fun _ _ _ _ q => q) (fun U hU _ _ => by rw [hU]; exact hPc) hl.1 rfl (Nat.le_of_ble_eq_true rfl) dX5_closes_33 ⟨Nat.zero_le _, Nat.zero_le _⟩) hP (hD _ rfl) hS rfl rfl rfl (fun H locs hP hS => ?_)
      refine lv_iconst (v := 0) hx hb dX5_closes_36 (by decide) ?_
      refine lv_istore_n (lv' := [(3, .int 0), (0, .ref a0), (1, .int v1), (2, .int v2)]) hx hb dX5_closes_37 rfl hl (by decide) rfl (fun ls hl => ?_)
      exact lX5_closes_38 (l := l) (e := e) (below := below) C0 F kp z_5 tp kn it wd sz nm mv ik td bg en so va iw im st ht v1 v2 z0 z1 z2 z3 hD F 0 nw fd _ _ hP hS _ (lv_sub hl [1, 2, 3, 0] rfl) h
    · have h := ifp c_4 h
      refine lv_aload_n hx hb dX5_closes_18 rfl (lv_at hl 0 rfl) ?_
      refine lv_ldc (v := (-1000001)) hx hb hown (hts _ (List.mem_of_getElem? (i := 1) rfl)) dX5_closes_19 ?_
      obtain ⟨z_35, e_36, h⟩ := bds h
      have hPc := hP.sub (ws' := (wX5 cI cS a0 a1 a2 a3 a4 a5 a6 a7 a8 a9 a10 a11 nw kp ad fd tp kn it wd sz nm mv ik td bg en so va iw im st ht)) [0, 1, 2, 3, 4, 5, 6, 7, 8, 9, 10, 11] rfl
      refine kMi (wf' := (wX5 cI cS a0 a1 a2 a3 a4 a5 a6 a7 a8 a9 a10 a11 nw kp ad z_35.2 tp kn it wd sz nm mv ik td bg en so va iw im st ht)) [0, 1, 2, 3, 4, 5, 6, 7, 8, 9, 10, 11] [some 0, some 1, some 2, some 3, some 4, some 5, some 6, some 7, some 8, some 9, some 10, some 11] (rV C0 (tX5_finding l D cI cS a0 a1 a2 a3 a4 a5 a6 a7 a8 a9 a10 a11 nw kp ad fd tp kn it wd sz nm mv ik td bg en so va iw im st ht (-1000001) z_35.1 z_35.2 e_36 (((hD (wX5 cI cS a0 a1 a2 a3 a4 a5 a6 a7 a8 a9 a10 a11 nw kp ad fd tp kn it wd sz nm mv ik td bg en so va iw im st ht) rfl).sub [0, 1, 2, 3, 4, 5, 6, 7, 8, 9, 10, 11] (by decide) rfl).weaken (fun _ _ _ _ => trivial))) RX5 gX5_closes_X5_finding rfl ⟨rfl, rfl⟩ pdX5_finding rfl ⟨Nat.le_of_ble_eq_true rfl, Nat.le_of_ble_eq_true rfl⟩ (fun _ _ _ _ q => q) (va_recv hE.1 hPc (ci := 4) (q0 := 0) rfl rfl) (fun U hU _ _ => by rw [hU]; exact hPc) hl.1 rfl (Nat.le_of_ble_eq_true rfl) dX5_closes_21 ⟨Nat.zero_le _, Nat.zero_le _⟩) hP (hD _ rfl) hS rfl rfl rfl (fun H locs hP hS => ?_)
      obtain ⟨q0, g0⟩ := Prod.mk.inj (Option.some.inj h)
      obtain ⟨q1, g1⟩ := Prod.mk.inj g0
      obtain ⟨q2, q3⟩ := Prod.mk.inj g1
      subst q0 q1 q2 q3
      exact eMi C0 hP hS rfl rfl dX5_closes_24
def fX5_isSettled (F : Nat) (nw : Nat → Int32) : Option (Int32) := Option.bind (fX5_finishedOnes F nw) (fun z_1 => (if z_1 = ((1 <<< ((nw 1) &&& 31)) - 1) then some 1 else some 0))
abbrev rmX5_isSettled : Room := { frames := 3, cells := 0, slots := 0, locals := 65 }
theorem pdX5_isSettled : (yX5_isSettled.cls = RX5 ∧ yX5_isSettled.cls ≠ "java/lang/invoke/MethodHandle" ∧ yX5_isSettled.cls ≠ "java/lang/invoke/VarHandle" ∧ (parseMethodDescriptor yX5_isSettled.desc).map (fun d => d.parameters.length) = some 0) := by decide +kernel
set_option maxHeartbeats 4000000 in
set_option maxRecDepth 100000 in
theorem tX5_isSettled (l : Launch) (D : va_G) (cI cS : ClassId) (F : Nat) (a0 a1 a2 a3 a4 a5 a6 a7 a8 a9 a10 a11 : Nat) (nw : Nat → Int32) (kp : Nat → Int32) (ad : Nat → Int32) (fd : Nat → Int32) (tp : Nat → Int32) (kn : Nat → Option Nat) (it : Nat → Int32) (wd : Nat → Int32) (sz : Nat → Int32) (nm : Nat → Int32) (mv : Nat → Int32) (ik : Int32) (td : Int32) (bg : Int32) (en : Int32) (so : Int32) (va : Int32) (iw : Int32) (im : Int32) (st : Int32) (ht : Int32) (z0 : Int32) (h : fX5_isSettled F nw = some z0) : Met l yX5_isSettled wsX5_isSettled rmX5_isSettled (PZ D cI cS [.ref a0] (fun U => va_P D vwCl (wX5 cI cS a0 a1 a2 a3 a4 a5 a6 a7 a8 a9 a10 a11 nw kp ad fd tp kn it wd sz nm mv ik td bg en so va iw im st ht) U.heap)) (vp_Si (fun x => x = z0)) 0 0 (fun _ => False) := by
  refine Met.mk RX5 (by decide) rfl rfl (Nat.le_of_ble_eq_true rfl) ?_
  intro p e s m below meth c ls C0 hP hl
  have hl : lv_has ls 1 [(0, .ref a0)] := hl
  obtain ⟨hx, hb, hr, hml, hown, hts, hlk, hE⟩ := id C0
  have hinX5 : ∀ w ∈ u_ws RX5 TX5 21, w ∈ wsX5_isSettled := by decide +kernel
  rw [fX5_isSettled] at h
  refine lv_aload_n hx hb dX5_isSettled_0 rfl (lv_at hl 0 rfl) ?_
  obtain ⟨z_1, e_2, h⟩ := bds h
  have hPc := hP.sub (ws' := (wX5 cI cS a0 a1 a2 a3 a4 a5 a6 a7 a8 a9 a10 a11 nw kp ad fd tp kn it wd sz nm mv ik td bg en so va iw im st ht)) [0, 1, 2, 3, 4, 5, 6, 7, 8, 9, 10, 11] rfl
  refine kRi (rV C0 (tX5_finishedOnes l D cI cS F a0 a1 a2 a3 a4 a5 a6 a7 a8 a9 a10 a11 nw kp ad fd tp kn it wd sz nm mv ik td bg en so va iw im st ht  z_1 e_2) RX5 gX5_isSettled_X5_finishedOnes rfl ⟨rfl, rfl⟩ pdX5_finishedOnes rfl ⟨Nat.le_of_ble_eq_true rfl, Nat.le_of_ble_eq_true rfl⟩ (fun _ _ _ _ q => q) (va_recv hE.1 hPc (ci := 4) (q0 := 0) rfl rfl) (fun U hU _ _ => by rw [hU]; exact hPc) hl.1 rfl (Nat.le_of_ble_eq_true rfl) dX5_isSettled_1 ⟨Nat.zero_le _, Nat.zero_le _⟩) ?_
  refine lv_iconst (v := 1) hx hb dX5_isSettled_4 (by decide) ?_
  refine lv_aload_n hx hb dX5_isSettled_5 rfl (lv_at hl 0 rfl) ?_
  refine va_get (D := D) (ci := 4) (v := .ref a1) (C := RX5) (T := TX5) (N := 21) hx hb hts hinX5 hown hE.1 hP 0 rfl rfl 0 (by decide) (hts _ (List.mem_of_getElem? (i := 1) rfl)) (fun _ h9 => h9) rfl dX5_isSettled_6 ?_
  refine lv_iconst (v := 1) hx hb dX5_isSettled_9 (by decide) ?_
  refine va_iald hx hb hE.1 hP 1 0 rfl rfl (by unfold vp_in; decide : vp_in 1 84) dX5_isSettled_10 ?_
  refine lv_eqi (y := nw 1) rfl ?_
  refine lv_ishl hx hb dX5_isSettled_11 ?_
  refine lv_iconst (v := 1) hx hb dX5_isSettled_12 (by decide) ?_
  refine lv_isub hx hb dX5_isSettled_13 ?_
  refine lv_icmp_ne (tgt := 21) hx hb dX5_isSettled_14 (by decide) (fun c_3 => ?_) (fun c_3 => ?_)
  · have h := ifn c_3 h
    refine lv_iconst (v := 0) hx hb dX5_isSettled_21 (by decide) ?_
    exact eRz C0 rfl (Option.some.inj h) dX5_isSettled_22
  · have h := ifp c_3 h
    refine lv_iconst (v := 1) hx hb dX5_isSettled_17 (by decide) ?_
    refine lv_goto (tgt := 22) hx hb dX5_isSettled_18 (by decide) ?_
    exact eRz C0 rfl (Option.some.inj h) dX5_isSettled_22
def fX5_settled_13 (F : Nat) (ad : Nat → Int32) : Nat → Int32 → (Nat → Int32) → (Nat → Int32) → Option (Int32 × (Nat → Int32) × (Nat → Int32) × (Nat → Int32))
  | 0, _, _, _ => none
  | n + 1, v1, nw, fd => (if 200 ≤ v1 then Option.bind (fX5_isSettled F nw) (fun z_4 => (if z_4 = 0 then Option.bind (fX5_putBack F nw ad (-1)) (fun z_7 => Option.bind (fX5_orNone fd z_7.1) (fun z_9 => some (z_9.1, z_7.2, ad, z_9.2))) else Option.bind (fX5_putBack F nw ad v1) (fun z_11 => Option.bind (fX5_orNone fd z_11.1) (fun z_13 => some (z_13.1, z_11.2, ad, z_13.2))))) else Option.bind (fX5_isSettled F nw) (fun z_15 => (if z_15 = 0 then Option.bind (fX5_day F nw) (fun z_29 => fX5_settled_13 F ad n (v1 + 1) z_29 fd) else Option.bind (fX5_isSettled F nw) (fun z_18 => (if z_18 = 0 then Option.bind (fX5_putBack F nw ad (-1)) (fun z_21 => Option.bind (fX5_orNone fd z_21.1) (fun z_23 => some (z_23.1, z_21.2, ad, z_23.2))) else Option.bind (fX5_putBack F nw ad v1) (fun z_25 => Option.bind (fX5_orNone fd z_25.1) (fun z_27 => some (z_27.1, z_25.2, ad, z_27.2))))))))
def fX5_settled (F : Nat) (nw : Nat → Int32) (ad : Nat → Int32) (fd : Nat → Int32) : Option (Int32 × (Nat → Int32) × (Nat → Int32) × (Nat → Int32)) := Option.bind (fX5_copyRow F nw ad) (fun z_1 => fX5_settled_13 F z_1 F 0 nw fd)
abbrev rmX5_settled : Room := { frames := 6, cells := 0, slots := 0, locals := 135 }
theorem pdX5_settled : (yX5_settled.cls = RX5 ∧ yX5_settled.cls ≠ "java/lang/invoke/MethodHandle" ∧ yX5_settled.cls ≠ "java/lang/invoke/VarHandle" ∧ (parseMethodDescriptor yX5_settled.desc).map (fun d => d.parameters.length) = some 0) := by decide +kernel
set_option maxHeartbeats 4000000 in
set_option maxRecDepth 100000 in
theorem lX5_settled_13 {p : Program} {l : Launch} {e : Env} {s : State} {m : MethodId} {av : Array Value} {below : List Frame} {meth : Method} {c : Code} {D : va_G} {cI cS : ClassId} {a0 a1 a2 a3 a4 a5 a6 a7 a8 a9 a10 a11 : Nat} {W0 : va_W} (C0 : CX p s m av meth c RX5 cX5_settled 2 (some .int) wsX5_settled D cI cS) (F : Nat) (kp : Nat → Int32) (ad : Nat → Int32) (tp : Nat → Int32) (kn : Nat → Option Nat) (it : Nat → Int32) (wd : Nat → Int32) (sz : Nat → Int32) (nm : Nat → Int32) (mv : Nat → Int32) (ik : Int32) (td : Int32) (bg : Int32) (en : Int32) (so : Int32) (va : Int32) (iw : Int32) (im : Int32) (st : Int32) (ht : Int32) (z0 : Int32) (z1 : Nat → Int32) (z2 : Nat → Int32) (z3 : Nat → Int32) (hD : ∀ W : va_W, W.map Prod.fst = [a0, a1, a2, a3, a4, a5, a6, a7, a8, a9, a10, a11] → va_D (wA W0) W) : ∀ (n : Nat) (v1 : Int32) (nw : Nat → Int32) (fd : Nat → Int32) (H : Heap) (locs : List Loc), va_P D vwCl (wX5 cI cS a0 a1 a2 a3 a4 a5 a6 a7 a8 a9 a10 a11 nw kp ad fd tp kn it wd sz nm mv ik td bg en so va iw im st ht) H → va_S (wA W0) s.heap H locs → ∀ (ls : Array Slot), lv_has ls 2 [(0, .ref a0), (1, .int v1)] → fX5_settled_13 F ad n v1 nw fd = some (z0, z1, z2, z3) → W p l e rmX5_settled s m av below meth c H locs 0 0 (MQ below (qI D W0 (wX5 cI cS a0 a1 a2 a3 a4 a5 a6 a7 a8 a9 a10 a11 z1 kp z2 z3 tp kn it wd sz nm mv ik td bg en so va iw im st ht) z0) av s 0 0 (wA W0)) (F0 m 13 ls []) := by
  obtain ⟨hx, hb, hr, hml, hown, hts, hlk, hE⟩ := id C0
  have hinX5 : ∀ w ∈ u_ws RX5 TX5 21, w ∈ wsX5_settled := by decide +kernel
  intro n
  induction n with
  | zero =>
    intro v1 nw fd H locs hP hS ls hl h
    cases (show none = some (z0, z1, z2, z3) from h)
  | succ n ih =>
    intro v1 nw fd H locs hP hS ls hl h
    rw [fX5_settled_13] at h
    refine lv_iload_n hx hb dX5_settled_13 rfl (lv_at hl 1 rfl) ?_
    refine lv_sipush (v := 200) hx hb dX5_settled_14 (by decide) ?_
    refine lv_icmp_ge (tgt := 37) hx hb dX5_settled_17 (by decide) (fun c_3 => ?_) (fun c_3 => ?_)
    · have h := ifp c_3 h
      refine lv_aload_n hx hb dX5_settled_37 rfl (lv_at hl 0 rfl) ?_
      refine lv_aload_n hx hb dX5_settled_38 rfl (lv_at hl 0 rfl) ?_
      refine lv_aload_n hx hb dX5_settled_39 rfl (lv_at hl 0 rfl) ?_
      obtain ⟨z_4, e_5, h⟩ := bds h
      have hPc := hP.sub (ws' := (wX5 cI cS a0 a1 a2 a3 a4 a5 a6 a7 a8 a9 a10 a11 nw kp ad fd tp kn it wd sz nm mv ik td bg en so va iw im st ht)) [0, 1, 2, 3, 4, 5, 6, 7, 8, 9, 10, 11] rfl
      refine kRi (rV C0 (tX5_isSettled l D cI cS F a0 a1 a2 a3 a4 a5 a6 a7 a8 a9 a10 a11 nw kp ad fd tp kn it wd sz nm mv ik td bg en so va iw im st ht  z_4 e_5) RX5 gX5_settled_X5_isSettled rfl ⟨rfl, rfl⟩ pdX5_isSettled rfl ⟨Nat.le_of_ble_eq_true rfl, Nat.le_of_ble_eq_true rfl⟩ (fun _ _ _ _ q => q) (va_recv hE.1 hPc (ci := 4) (q0 := 0) rfl rfl) (fun U hU _ _ => by rw [hU]; exact hPc) hl.1 rfl (Nat.le_of_ble_eq_true rfl) dX5_settled_40 ⟨Nat.zero_le _, Nat.zero_le _⟩) ?_
      refine lv_if_eq (tgt := 50) hx hb dX5_settled_43 (by decide) (fun c_6 => ?_) (fun c_6 => ?_)
      · have h := ifp c_6 h
        refine lv_iconst (v := (-1)) hx hb dX5_settled_50 (by decide) ?_
        obtain ⟨z_7, e_8, h⟩ := bds h
        have hPc := hP.sub (ws' := (wX5 cI cS a0 a1 a2 a3 a4 a5 a6 a7 a8 a9 a10 a11 nw kp ad fd tp kn it wd sz nm mv ik td bg en so va iw im st ht)) [0, 1, 2, 3, 4, 5, 6, 7, 8, 9, 10, 11] rfl
        refine kMi (wf' := (wX5 cI cS a0 a1 a2 a3 a4 a5 a6 a7 a8 a9 a10 a11 z_7.2 kp ad fd tp kn it wd sz nm mv ik td bg en so va iw im st ht)) [0, 1, 2, 3, 4, 5, 6, 7, 8, 9, 10, 11] [some 0, some 1, some 2, some 3, some 4, some 5, some 6, some 7, some 8, some 9, some 10, some 11] (rV C0 (tX5_putBack l D cI cS F a0 a1 a2 a3 a4 a5 a6 a7 a8 a9 a10 a11 nw kp ad fd tp kn it wd sz nm mv ik td bg en so va iw im st ht (-1) z_7.1 z_7.2 e_8 (((hD (wX5 cI cS a0 a1 a2 a3 a4 a5 a6 a7 a8 a9 a10 a11 nw kp ad fd tp kn it wd sz nm mv ik td bg en so va iw im st ht) rfl).sub [0, 1, 2, 3, 4, 5, 6, 7, 8, 9, 10, 11] (by decide) rfl).weaken (fun _ _ _ _ => trivial))) RX5 gX5_settled_X5_putBack rfl ⟨rfl, rfl⟩ pdX5_putBack rfl ⟨Nat.le_of_ble_eq_true rfl, Nat.le_of_ble_eq_true rfl⟩ (fun _ _ _ _ q => q) (va_recv hE.1 hPc (ci := 4) (q0 := 0) rfl rfl) (fun U hU _ _ => by rw [hU]; exact hPc) hl.1 rfl (Nat.le_of_ble_eq_true rfl) dX5_settled_51 ⟨Nat.zero_le _, Nat.zero_le _⟩) hP (hD _ rfl) hS rfl rfl rfl (fun H locs hP hS => ?_)
        obtain ⟨z_9, e_10, h⟩ := bds h
        have hPc := hP.sub (ws' := (wX5 cI cS a0 a1 a2 a3 a4 a5 a6 a7 a8 a9 a10 a11 z_7.2 kp ad fd tp kn it wd sz nm mv ik td bg en so va iw im st ht)) [0, 1, 2, 3, 4, 5, 6, 7, 8, 9, 10, 11] rfl
        refine kMi (wf' := (wX5 cI cS a0 a1 a2 a3 a4 a5 a6 a7 a8 a9 a10 a11 z_7.2 kp ad z_9.2 tp kn it wd sz nm mv ik td bg en so va iw im st ht)) [0, 1, 2, 3, 4, 5, 6, 7, 8, 9, 10, 11] [some 0, some 1, some 2, some 3, some 4, some 5, some 6, some 7, some 8, some 9, some 10, some 11] (rV C0 (tX5_orNone l D cI cS a0 a1 a2 a3 a4 a5 a6 a7 a8 a9 a10 a11 z_7.2 kp ad fd tp kn it wd sz nm mv ik td bg en so va iw im st ht z_7.1 z_9.1 z_9.2 e_10 (((hD (wX5 cI cS a0 a1 a2 a3 a4 a5 a6 a7 a8 a9 a10 a11 z_7.2 kp ad fd tp kn it wd sz nm mv ik td bg en so va iw im st ht) rfl).sub [0, 1, 2, 3, 4, 5, 6, 7, 8, 9, 10, 11] (by decide) rfl).weaken (fun _ _ _ _ => trivial))) RX5 gX5_settled_X5_orNone rfl ⟨rfl, rfl⟩ pdX5_orNone rfl ⟨Nat.le_of_ble_eq_true rfl, Nat.le_of_ble_eq_true rfl⟩ (fun _ _ _ _ q => q) (va_recv hE.1 hPc (ci := 4) (q0 := 0) rfl rfl) (fun U hU _ _ => by rw [hU]; exact hPc) hl.1 rfl (Nat.le_of_ble_eq_true rfl) dX5_settled_54 ⟨Nat.zero_le _, Nat.zero_le _⟩) hP (hD _ rfl) hS rfl rfl rfl (fun H locs hP hS => ?_)
        obtain ⟨q0, g0⟩ := Prod.mk.inj (Option.some.inj h)
        obtain ⟨q1, g1⟩ := Prod.mk.inj g0
        obtain ⟨q2, q3⟩ := Prod.mk.inj g1
        subst q0 q1 q2 q3
        exact eMi C0 hP hS rfl rfl dX5_settled_57
      · have h := ifn c_6 h
        refine lv_iload_n hx hb dX5_settled_46 rfl (lv_at hl 1 rfl) ?_
        refine lv_goto (tgt := 51) hx hb dX5_settled_47 (by decide) ?_
        obtain ⟨z_11, e_12, h⟩ := bds h
        have hPc := hP.sub (ws' := (wX5 cI cS a0 a1 a2 a3 a4 a5 a6 a7 a8 a9 a10 a11 nw kp ad fd tp kn it wd sz nm mv ik td bg en so va iw im st ht)) [0, 1, 2, 3, 4, 5, 6, 7, 8, 9, 10, 11] rfl
        refine kMi (wf' := (wX5 cI cS a0 a1 a2 a3 a4 a5 a6 a7 a8 a9 a10 a11 z_11.2 kp ad fd tp kn it wd sz nm mv ik td bg en so va iw im st ht)) [0, 1, 2, 3, 4, 5, 6, 7, 8, 9, 10, 11] [some 0, some 1, some 2, some 3, some 4, some 5, some 6, some 7, some 8, some 9, some 10, some 11] (rV C0 (tX5_putBack l D cI cS F a0 a1 a2 a3 a4 a5 a6 a7 a8 a9 a10 a11 nw kp ad fd tp kn it wd sz nm mv ik td bg en so va iw im st ht v1 z_11.1 z_11.2 e_12 (((hD (wX5 cI cS a0 a1 a2 a3 a4 a5 a6 a7 a8 a9 a10 a11 nw kp ad fd tp kn it wd sz nm mv ik td bg en so va iw im st ht) rfl).sub [0, 1, 2, 3, 4, 5, 6, 7, 8, 9, 10, 11] (by decide) rfl).weaken (fun _ _ _ _ => trivial))) RX5 gX5_settled_X5_putBack rfl ⟨rfl, rfl⟩ pdX5_putBack rfl ⟨Nat.le_of_ble_eq_true rfl, Nat.le_of_ble_eq_true rfl⟩ (fun _ _ _ _ q => q) (va_recv hE.1 hPc (ci := 4) (q0 := 0) rfl rfl) (fun U hU _ _ => by rw [hU]; exact hPc) hl.1 rfl (Nat.le_of_ble_eq_true rfl) dX5_settled_51 ⟨Nat.zero_le _, Nat.zero_le _⟩) hP (hD _ rfl) hS rfl rfl rfl (fun H locs hP hS => ?_)
        obtain ⟨z_13, e_14, h⟩ := bds h
        have hPc := hP.sub (ws' := (wX5 cI cS a0 a1 a2 a3 a4 a5 a6 a7 a8 a9 a10 a11 z_11.2 kp ad fd tp kn it wd sz nm mv ik td bg en so va iw im st ht)) [0, 1, 2, 3, 4, 5, 6, 7, 8, 9, 10, 11] rfl
        refine kMi (wf' := (wX5 cI cS a0 a1 a2 a3 a4 a5 a6 a7 a8 a9 a10 a11 z_11.2 kp ad z_13.2 tp kn it wd sz nm mv ik td bg en so va iw im st ht)) [0, 1, 2, 3, 4, 5, 6, 7, 8, 9, 10, 11] [some 0, some 1, some 2, some 3, some 4, some 5, some 6, some 7, some 8, some 9, some 10, some 11] (rV C0 (tX5_orNone l D cI cS a0 a1 a2 a3 a4 a5 a6 a7 a8 a9 a10 a11 z_11.2 kp ad fd tp kn it wd sz nm mv ik td bg en so va iw im st ht z_11.1 z_13.1 z_13.2 e_14 (((hD (wX5 cI cS a0 a1 a2 a3 a4 a5 a6 a7 a8 a9 a10 a11 z_11.2 kp ad fd tp kn it wd sz nm mv ik td bg en so va iw im st ht) rfl).sub [0, 1, 2, 3, 4, 5, 6, 7, 8, 9, 10, 11] (by decide) rfl).weaken (fun _ _ _ _ => trivial))) RX5 gX5_settled_X5_orNone rfl ⟨rfl, rfl⟩ pdX5_orNone rfl ⟨Nat.le_of_ble_eq_true rfl, Nat.le_of_ble_eq_true rfl⟩ (fun _ _ _ _ q => q) (va_recv hE.1 hPc (ci := 4) (q0 := 0) rfl rfl) (fun U hU _ _ => by rw [hU]; exact hPc) hl.1 rfl (Nat.le_of_ble_eq_true rfl) dX5_settled_54 ⟨Nat.zero_le _, Nat.zero_le _⟩) hP (hD _ rfl) hS rfl rfl rfl (fun H locs hP hS => ?_)
        obtain ⟨q0, g0⟩ := Prod.mk.inj (Option.some.inj h)
        obtain ⟨q1, g1⟩ := Prod.mk.inj g0
        obtain ⟨q2, q3⟩ := Prod.mk.inj g1
        subst q0 q1 q2 q3
        exact eMi C0 hP hS rfl rfl dX5_settled_57
    · have h := ifn c_3 h
      refine lv_aload_n hx hb dX5_settled_20 rfl (lv_at hl 0 rfl) ?_
      obtain ⟨z_15, e_16, h⟩ := bds h
      have hPc := hP.sub (ws' := (wX5 cI cS a0 a1 a2 a3 a4 a5 a6 a7 a8 a9 a10 a11 nw kp ad fd tp kn it wd sz nm mv ik td bg en so va iw im st ht)) [0, 1, 2, 3, 4, 5, 6, 7, 8, 9, 10, 11] rfl
      refine kRi (rV C0 (tX5_isSettled l D cI cS F a0 a1 a2 a3 a4 a5 a6 a7 a8 a9 a10 a11 nw kp ad fd tp kn it wd sz nm mv ik td bg en so va iw im st ht  z_15 e_16) RX5 gX5_settled_X5_isSettled rfl ⟨rfl, rfl⟩ pdX5_isSettled rfl ⟨Nat.le_of_ble_eq_true rfl, Nat.le_of_ble_eq_true rfl⟩ (fun _ _ _ _ q => q) (va_recv hE.1 hPc (ci := 4) (q0 := 0) rfl rfl) (fun U hU _ _ => by rw [hU]; exact hPc) hl.1 rfl (Nat.le_of_ble_eq_true rfl) dX5_settled_21 ⟨Nat.zero_le _, Nat.zero_le _⟩) ?_
      refine lv_if_ne (tgt := 37) hx hb dX5_settled_24 (by decide) (fun c_17 => ?_) (fun c_17 => ?_)
      · have h := ifn c_17 h
        refine lv_aload_n hx hb dX5_settled_37 rfl (lv_at hl 0 rfl) ?_
        refine lv_aload_n hx hb dX5_settled_38 rfl (lv_at hl 0 rfl) ?_
        refine lv_aload_n hx hb dX5_settled_39 rfl (lv_at hl 0 rfl) ?_
        obtain ⟨z_18, e_19, h⟩ := bds h
        have hPc := hP.sub (ws' := (wX5 cI cS a0 a1 a2 a3 a4 a5 a6 a7 a8 a9 a10 a11 nw kp ad fd tp kn it wd sz nm mv ik td bg en so va iw im st ht)) [0, 1, 2, 3, 4, 5, 6, 7, 8, 9, 10, 11] rfl
        refine kRi (rV C0 (tX5_isSettled l D cI cS F a0 a1 a2 a3 a4 a5 a6 a7 a8 a9 a10 a11 nw kp ad fd tp kn it wd sz nm mv ik td bg en so va iw im st ht  z_18 e_19) RX5 gX5_settled_X5_isSettled rfl ⟨rfl, rfl⟩ pdX5_isSettled rfl ⟨Nat.le_of_ble_eq_true rfl, Nat.le_of_ble_eq_true rfl⟩ (fun _ _ _ _ q => q) (va_recv hE.1 hPc (ci := 4) (q0 := 0) rfl rfl) (fun U hU _ _ => by rw [hU]; exact hPc) hl.1 rfl (Nat.le_of_ble_eq_true rfl) dX5_settled_40 ⟨Nat.zero_le _, Nat.zero_le _⟩) ?_
        refine lv_if_eq (tgt := 50) hx hb dX5_settled_43 (by decide) (fun c_20 => ?_) (fun c_20 => ?_)
        · have h := ifp c_20 h
          refine lv_iconst (v := (-1)) hx hb dX5_settled_50 (by decide) ?_
          obtain ⟨z_21, e_22, h⟩ := bds h
          have hPc := hP.sub (ws' := (wX5 cI cS a0 a1 a2 a3 a4 a5 a6 a7 a8 a9 a10 a11 nw kp ad fd tp kn it wd sz nm mv ik td bg en so va iw im st ht)) [0, 1, 2, 3, 4, 5, 6, 7, 8, 9, 10, 11] rfl
          refine kMi (wf' := (wX5 cI cS a0 a1 a2 a3 a4 a5 a6 a7 a8 a9 a10 a11 z_21.2 kp ad fd tp kn it wd sz nm mv ik td bg en so va iw im st ht)) [0, 1, 2, 3, 4, 5, 6, 7, 8, 9, 10, 11] [some 0, some 1, some 2, some 3, some 4, some 5, some 6, some 7, some 8, some 9, some 10, some 11] (rV C0 (tX5_putBack l D cI cS F a0 a1 a2 a3 a4 a5 a6 a7 a8 a9 a10 a11 nw kp ad fd tp kn it wd sz nm mv ik td bg en so va iw im st ht (-1) z_21.1 z_21.2 e_22 (((hD (wX5 cI cS a0 a1 a2 a3 a4 a5 a6 a7 a8 a9 a10 a11 nw kp ad fd tp kn it wd sz nm mv ik td bg en so va iw im st ht) rfl).sub [0, 1, 2, 3, 4, 5, 6, 7, 8, 9, 10, 11] (by decide) rfl).weaken (fun _ _ _ _ => trivial))) RX5 gX5_settled_X5_putBack rfl ⟨rfl, rfl⟩ pdX5_putBack rfl ⟨Nat.le_of_ble_eq_true rfl, Nat.le_of_ble_eq_true rfl⟩ (fun _ _ _ _ q => q) (va_recv hE.1 hPc (ci := 4) (q0 := 0) rfl rfl) (fun U hU _ _ => by rw [hU]; exact hPc) hl.1 rfl (Nat.le_of_ble_eq_true rfl) dX5_settled_51 ⟨Nat.zero_le _, Nat.zero_le _⟩) hP (hD _ rfl) hS rfl rfl rfl (fun H locs hP hS => ?_)
          obtain ⟨z_23, e_24, h⟩ := bds h
          have hPc := hP.sub (ws' := (wX5 cI cS a0 a1 a2 a3 a4 a5 a6 a7 a8 a9 a10 a11 z_21.2 kp ad fd tp kn it wd sz nm mv ik td bg en so va iw im st ht)) [0, 1, 2, 3, 4, 5, 6, 7, 8, 9, 10, 11] rfl
          refine kMi (wf' := (wX5 cI cS a0 a1 a2 a3 a4 a5 a6 a7 a8 a9 a10 a11 z_21.2 kp ad z_23.2 tp kn it wd sz nm mv ik td bg en so va iw im st ht)) [0, 1, 2, 3, 4, 5, 6, 7, 8, 9, 10, 11] [some 0, some 1, some 2, some 3, some 4, some 5, some 6, some 7, some 8, some 9, some 10, some 11] (rV C0 (tX5_orNone l D cI cS a0 a1 a2 a3 a4 a5 a6 a7 a8 a9 a10 a11 z_21.2 kp ad fd tp kn it wd sz nm mv ik td bg en so va iw im st ht z_21.1 z_23.1 z_23.2 e_24 (((hD (wX5 cI cS a0 a1 a2 a3 a4 a5 a6 a7 a8 a9 a10 a11 z_21.2 kp ad fd tp kn it wd sz nm mv ik td bg en so va iw im st ht) rfl).sub [0, 1, 2, 3, 4, 5, 6, 7, 8, 9, 10, 11] (by decide) rfl).weaken (fun _ _ _ _ => trivial))) RX5 gX5_settled_X5_orNone rfl ⟨rfl, rfl⟩ pdX5_orNone rfl ⟨Nat.le_of_ble_eq_true rfl, Nat.le_of_ble_eq_true rfl⟩ (fun _ _ _ _ q => q) (va_recv hE.1 hPc (ci := 4) (q0 := 0) rfl rfl) (fun U hU _ _ => by rw [hU]; exact hPc) hl.1 rfl (Nat.le_of_ble_eq_true rfl) dX5_settled_54 ⟨Nat.zero_le _, Nat.zero_le _⟩) hP (hD _ rfl) hS rfl rfl rfl (fun H locs hP hS => ?_)
          obtain ⟨q0, g0⟩ := Prod.mk.inj (Option.some.inj h)
          obtain ⟨q1, g1⟩ := Prod.mk.inj g0
          obtain ⟨q2, q3⟩ := Prod.mk.inj g1
          subst q0 q1 q2 q3
          exact eMi C0 hP hS rfl rfl dX5_settled_57
        · have h := ifn c_20 h
          refine lv_iload_n hx hb dX5_settled_46 rfl (lv_at hl 1 rfl) ?_
          refine lv_goto (tgt := 51) hx hb dX5_settled_47 (by decide) ?_
          obtain ⟨z_25, e_26, h⟩ := bds h
          have hPc := hP.sub (ws' := (wX5 cI cS a0 a1 a2 a3 a4 a5 a6 a7 a8 a9 a10 a11 nw kp ad fd tp kn it wd sz nm mv ik td bg en so va iw im st ht)) [0, 1, 2, 3, 4, 5, 6, 7, 8, 9, 10, 11] rfl
          refine kMi (wf' := (wX5 cI cS a0 a1 a2 a3 a4 a5 a6 a7 a8 a9 a10 a11 z_25.2 kp ad fd tp kn it wd sz nm mv ik td bg en so va iw im st ht)) [0, 1, 2, 3, 4, 5, 6, 7, 8, 9, 10, 11] [some 0, some 1, some 2, some 3, some 4, some 5, some 6, some 7, some 8, some 9, some 10, some 11] (rV C0 (tX5_putBack l D cI cS F a0 a1 a2 a3 a4 a5 a6 a7 a8 a9 a10 a11 nw kp ad fd tp kn it wd sz nm mv ik td bg en so va iw im st ht v1 z_25.1 z_25.2 e_26 (((hD (wX5 cI cS a0 a1 a2 a3 a4 a5 a6 a7 a8 a9 a10 a11 nw kp ad fd tp kn it wd sz nm mv ik td bg en so va iw im st ht) rfl).sub [0, 1, 2, 3, 4, 5, 6, 7, 8, 9, 10, 11] (by decide) rfl).weaken (fun _ _ _ _ => trivial))) RX5 gX5_settled_X5_putBack rfl ⟨rfl, rfl⟩ pdX5_putBack rfl ⟨Nat.le_of_ble_eq_true rfl, Nat.le_of_ble_eq_true rfl⟩ (fun _ _ _ _ q => q) (va_recv hE.1 hPc (ci := 4) (q0 := 0) rfl rfl) (fun U hU _ _ => by rw [hU]; exact hPc) hl.1 rfl (Nat.le_of_ble_eq_true rfl) dX5_settled_51 ⟨Nat.zero_le _, Nat.zero_le _⟩) hP (hD _ rfl) hS rfl rfl rfl (fun H locs hP hS => ?_)
          obtain ⟨z_27, e_28, h⟩ := bds h
          have hPc := hP.sub (ws' := (wX5 cI cS a0 a1 a2 a3 a4 a5 a6 a7 a8 a9 a10 a11 z_25.2 kp ad fd tp kn it wd sz nm mv ik td bg en so va iw im st ht)) [0, 1, 2, 3, 4, 5, 6, 7, 8, 9, 10, 11] rfl
          refine kMi (wf' := (wX5 cI cS a0 a1 a2 a3 a4 a5 a6 a7 a8 a9 a10 a11 z_25.2 kp ad z_27.2 tp kn it wd sz nm mv ik td bg en so va iw im st ht)) [0, 1, 2, 3, 4, 5, 6, 7, 8, 9, 10, 11] [some 0, some 1, some 2, some 3, some 4, some 5, some 6, some 7, some 8, some 9, some 10, some 11] (rV C0 (tX5_orNone l D cI cS a0 a1 a2 a3 a4 a5 a6 a7 a8 a9 a10 a11 z_25.2 kp ad fd tp kn it wd sz nm mv ik td bg en so va iw im st ht z_25.1 z_27.1 z_27.2 e_28 (((hD (wX5 cI cS a0 a1 a2 a3 a4 a5 a6 a7 a8 a9 a10 a11 z_25.2 kp ad fd tp kn it wd sz nm mv ik td bg en so va iw im st ht) rfl).sub [0, 1, 2, 3, 4, 5, 6, 7, 8, 9, 10, 11] (by decide) rfl).weaken (fun _ _ _ _ => trivial))) RX5 gX5_settled_X5_orNone rfl ⟨rfl, rfl⟩ pdX5_orNone rfl ⟨Nat.le_of_ble_eq_true rfl, Nat.le_of_ble_eq_true rfl⟩ (fun _ _ _ _ q => q) (va_recv hE.1 hPc (ci := 4) (q0 := 0) rfl rfl) (fun U hU _ _ => by rw [hU]; exact hPc) hl.1 rfl (Nat.le_of_ble_eq_true rfl) dX5_settled_54 ⟨Nat.zero_le _, Nat.zero_le _⟩) hP (hD _ rfl) hS rfl rfl rfl (fun H locs hP hS => ?_)
          obtain ⟨q0, g0⟩ := Prod.mk.inj (Option.some.inj h)
          obtain ⟨q1, g1⟩ := Prod.mk.inj g0
          obtain ⟨q2, q3⟩ := Prod.mk.inj g1
          subst q0 q1 q2 q3
          exact eMi C0 hP hS rfl rfl dX5_settled_57
      · have h := ifp c_17 h
        refine lv_aload_n hx hb dX5_settled_27 rfl (lv_at hl 0 rfl) ?_
        obtain ⟨z_29, e_30, h⟩ := bds h
        have hPc := hP.sub (ws' := (wX5 cI cS a0 a1 a2 a3 a4 a5 a6 a7 a8 a9 a10 a11 nw kp ad fd tp kn it wd sz nm mv ik td bg en so va iw im st ht)) [0, 1, 2, 3, 4, 5, 6, 7, 8, 9, 10, 11] rfl
        refine kMv (wf' := (wX5 cI cS a0 a1 a2 a3 a4 a5 a6 a7 a8 a9 a10 a11 z_29 kp ad fd tp kn it wd sz nm mv ik td bg en so va iw im st ht)) [0, 1, 2, 3, 4, 5, 6, 7, 8, 9, 10, 11] [some 0, some 1, some 2, some 3, some 4, some 5, some 6, some 7, some 8, some 9, some 10, some 11] (rV C0 (tX5_day l D cI cS F a0 a1 a2 a3 a4 a5 a6 a7 a8 a9 a10 a11 nw kp ad fd tp kn it wd sz nm mv ik td bg en so va iw im st ht  z_29 e_30 (((hD (wX5 cI cS a0 a1 a2 a3 a4 a5 a6 a7 a8 a9 a10 a11 nw kp ad fd tp kn it wd sz nm mv ik td bg en so va iw im st ht) rfl).sub [0, 1, 2, 3, 4, 5, 6, 7, 8, 9, 10, 11] (by decide) rfl).weaken (fun _ _ _ _ => trivial))) RX5 gX5_settled_X5_day rfl ⟨rfl, rfl⟩ pdX5_day rfl ⟨Nat.le_of_ble_eq_true rfl, Nat.le_of_ble_eq_true rfl⟩ (fun _ _ _ _ q => q) (va_recv hE.1 hPc (ci := 4) (q0 := 0) rfl rfl) (fun U hU _ _ => by rw [hU]; exact hPc) hl.1 rfl (Nat.le_of_ble_eq_true rfl) dX5_settled_28 ⟨Nat.zero_le _, Nat.zero_le _⟩) hP (hD _ rfl) hS rfl rfl rfl (fun H locs hP hS => ?_)
        refine lv_iinc (v := v1 + 1) (lv' := [(1, .int (v1 + 1)), (0, .ref a0)]) hx hb dX5_settled_31 hl (k := 1) rfl rfl (by decide) rfl (fun ls hl => ?_)
        refine lv_goto (tgt := 13) hx hb dX5_settled_34 (by decide) ?_
        exact ih (v1 + 1) z_29 fd _ _ hP hS _ (lv_sub hl [1, 0] rfl) h
set_option maxHeartbeats 4000000 in
set_option maxRecDepth 100000 in
theorem tX5_settled (l : Launch) (D : va_G) (cI cS : ClassId) (F : Nat) (a0 a1 a2 a3 a4 a5 a6 a7 a8 a9 a10 a11 : Nat) (nw : Nat → Int32) (kp : Nat → Int32) (ad : Nat → Int32) (fd : Nat → Int32) (tp : Nat → Int32) (kn : Nat → Option Nat) (it : Nat → Int32) (wd : Nat → Int32) (sz : Nat → Int32) (nm : Nat → Int32) (mv : Nat → Int32) (ik : Int32) (td : Int32) (bg : Int32) (en : Int32) (so : Int32) (va : Int32) (iw : Int32) (im : Int32) (st : Int32) (ht : Int32) (z0 : Int32) (z1 : Nat → Int32) (z2 : Nat → Int32) (z3 : Nat → Int32) (h : fX5_settled F nw ad fd = some (z0, z1, z2, z3)) (hD0 : va_D (fun _ => True) (wX5 cI cS a0 a1 a2 a3 a4 a5 a6 a7 a8 a9 a10 a11 nw kp ad fd tp kn it wd sz nm mv ik td bg en so va iw im st ht)) : Met l yX5_settled wsX5_settled rmX5_settled (PZ D cI cS [.ref a0] (fun U => va_P D vwCl (wX5 cI cS a0 a1 a2 a3 a4 a5 a6 a7 a8 a9 a10 a11 nw kp ad fd tp kn it wd sz nm mv ik td bg en so va iw im st ht) U.heap)) (qI D (wX5 cI cS a0 a1 a2 a3 a4 a5 a6 a7 a8 a9 a10 a11 nw kp ad fd tp kn it wd sz nm mv ik td bg en so va iw im st ht) (wX5 cI cS a0 a1 a2 a3 a4 a5 a6 a7 a8 a9 a10 a11 z1 kp z2 z3 tp kn it wd sz nm mv ik td bg en so va iw im st ht) z0) 0 0 (wA (wX5 cI cS a0 a1 a2 a3 a4 a5 a6 a7 a8 a9 a10 a11 nw kp ad fd tp kn it wd sz nm mv ik td bg en so va iw im st ht)) := by
  refine Met.mk RX5 (by decide) rfl rfl (Nat.le_of_ble_eq_true rfl) ?_
  intro p e s m below meth c ls C0 hP hl
  have hl : lv_has ls 2 [(0, .ref a0)] := hl
  obtain ⟨hx, hb, hr, hml, hown, hts, hlk, hE⟩ := id C0
  have hinX5 : ∀ w ∈ u_ws RX5 TX5 21, w ∈ wsX5_settled := by decide +kernel
  have hD : ∀ W : va_W, W.map Prod.fst = [a0, a1, a2, a3, a4, a5, a6, a7, a8, a9, a10, a11] → va_D (wA (wX5 cI cS a0 a1 a2 a3 a4 a5 a6 a7 a8 a9 a10 a11 nw kp ad fd tp kn it wd sz nm mv ik td bg en so va iw im st ht)) W := fun W hW => hD0.own.re hW
  have hS : va_S (wA (wX5 cI cS a0 a1 a2 a3 a4 a5 a6 a7 a8 a9 a10 a11 nw kp ad fd tp kn it wd sz nm mv ik td bg en so va iw im st ht)) s.heap s.heap [] := va_S.rf
  have hP : va_P D vwCl (wX5 cI cS a0 a1 a2 a3 a4 a5 a6 a7 a8 a9 a10 a11 nw kp ad fd tp kn it wd sz nm mv ik td bg en so va iw im st ht) s.heap := hP
  rw [fX5_settled] at h
  refine lv_aload_n hx hb dX5_settled_0 rfl (lv_at hl 0 rfl) ?_
  refine va_get (D := D) (ci := 4) (v := .ref a1) (C := RX5) (T := TX5) (N := 21) hx hb hts hinX5 hown hE.1 hP 0 rfl rfl 0 (by decide) (hts _ (List.mem_of_getElem? (i := 1) rfl)) (fun _ h9 => h9) rfl dX5_settled_1 ?_
  refine lv_aload_n hx hb dX5_settled_4 rfl (lv_at hl 0 rfl) ?_
  refine va_get (D := D) (ci := 4) (v := .ref a3) (C := RX5) (T := TX5) (N := 21) hx hb hts hinX5 hown hE.1 hP 0 rfl rfl 2 (by decide) (hts _ (List.mem_of_getElem? (i := 2) rfl)) (fun _ h9 => h9) rfl dX5_settled_5 ?_
  obtain ⟨z_1, e_2, h⟩ := bds h
  have hPc := hP.sub (ws' := (wR2 cI cS a1 a3 nw ad)) [1, 3] rfl
  refine kMv (wf' := (wX5 cI cS a0 a1 a2 a3 a4 a5 a6 a7 a8 a9 a10 a11 nw kp z_1 fd tp kn it wd sz nm mv ik td bg en so va iw im st ht)) [1, 3] [none, some 0, none, some 1, none, none, none, none, none, none, none, none] (rS C0 (tX5_copyRow l D cI cS F a1 a3 nw ad  z_1 e_2 (((hD (wX5 cI cS a0 a1 a2 a3 a4 a5 a6 a7 a8 a9 a10 a11 nw kp ad fd tp kn it wd sz nm mv ik td bg en so va iw im st ht) rfl).sub [1, 3] (by decide) rfl).weaken (fun _ _ _ _ => trivial))) gX5_settled_X5_copyRow rfl ⟨rfl, rfl⟩ pdX5_copyRow rfl ⟨Nat.le_of_ble_eq_true rfl, Nat.le_of_ble_eq_true rfl⟩ (fun _ _ _ _ q => q) (fun U hU _ _ => by rw [hU]; exact hPc) hl.1 rfl (Nat.le_of_ble_eq_true rfl) dX5_settled_8 ⟨Nat.zero_le _, Nat.zero_le _⟩) hP (hD _ rfl) hS rfl rfl rfl (fun H locs hP hS => ?_)
  refine lv_iconst (v := 0) hx hb dX5_settled_11 (by decide) ?_
  refine lv_istore_n (lv' := [(1, .int 0), (0, .ref a0)]) hx hb dX5_settled_12 rfl hl (by decide) rfl (fun ls hl => ?_)
  exact lX5_settled_13 (l := l) (e := e) (below := below) C0 F kp z_1 tp kn it wd sz nm mv ik td bg en so va iw im st ht z0 z1 z2 z3 hD F 0 nw fd _ _ hP hS _ (lv_sub hl [1, 0] rfl) h
def fX5_isThought (v0 : Int32) : Int32 := (fX5_within v0 0 40)
abbrev rmX5_isThought : Room := { frames := 1, cells := 0, slots := 0, locals := 22 }
theorem pdX5_isThought : (yX5_isThought.cls ≠ "java/lang/invoke/MethodHandle" ∧ yX5_isThought.cls ≠ "java/lang/invoke/VarHandle" ∧ (parseMethodDescriptor yX5_isThought.desc).map (fun d => d.parameters.length) = some 1) := by decide +kernel
set_option maxHeartbeats 4000000 in
set_option maxRecDepth 100000 in
theorem tX5_isThought (l : Launch) (D : va_G) (cI cS : ClassId) (v0 : Int32) (z0 : Int32) (h : fX5_isThought v0 = z0) : Met l yX5_isThought wsX5_isThought rmX5_isThought (PZ D cI cS [.int v0] (fun U => va_P D vwCl ([] : va_W) U.heap)) (vp_Si (fun x => x = z0)) 0 0 (fun _ => False) := by
  refine Met.mk RX5 (by decide) rfl rfl (Nat.le_of_ble_eq_true rfl) ?_
  intro p e s m below meth c ls C0 hP hl
  have hl : lv_has ls 1 [(0, .int v0)] := hl
  obtain ⟨hx, hb, hr, hml, hown, hts, hlk, hE⟩ := id C0
  rw [fX5_isThought] at h
  refine lv_iload_n hx hb dX5_isThought_0 rfl (lv_at hl 0 rfl) ?_
  refine lv_iconst (v := 0) hx hb dX5_isThought_1 (by decide) ?_
  refine lv_bipush (v := 40) hx hb dX5_isThought_2 (by decide) ?_
  refine kRi (rS C0 (tX5_within l D cI cS v0 0 40 (fX5_within v0 0 40) rfl) gX5_isThought_X5_within rfl ⟨rfl, rfl⟩ pdX5_within rfl ⟨Nat.le_of_ble_eq_true rfl, Nat.le_of_ble_eq_true rfl⟩ (fun _ _ _ _ q => q) (fun _ _ _ _ => vp0) hl.1 rfl (Nat.le_of_ble_eq_true rfl) dX5_isThought_4 ⟨Nat.zero_le _, Nat.zero_le _⟩) ?_
  exact eRz C0 (zzX5_within ..) h dX5_isThought_7
theorem zzX5_isThought (v0 : Int32) : narrow .boolean (.int (fX5_isThought v0)) = .int (fX5_isThought v0) := zzX5_within ..
def fX5_waitedBehind (F : Nat) (nw : Nat → Int32) (ad : Nat → Int32) (v1 : Int32) : Option (Int32 × (Nat → Int32) × (Nat → Int32)) := Option.bind (fX5_copyRow F nw ad) (fun z_1 => Option.bind (fX5_daysGo F nw v1) (fun z_3 => Option.bind (fX5_waitedInAll F z_3) (fun z_5 => Option.bind (fX5_putBack F z_3 z_1 z_5) (fun z_7 => some (z_7.1, z_7.2, z_1)))))
abbrev rmX5_waitedBehind : Room := { frames := 7, cells := 0, slots := 0, locals := 157 }
theorem pdX5_waitedBehind : (yX5_waitedBehind.cls = RX5 ∧ yX5_waitedBehind.cls ≠ "java/lang/invoke/MethodHandle" ∧ yX5_waitedBehind.cls ≠ "java/lang/invoke/VarHandle" ∧ (parseMethodDescriptor yX5_waitedBehind.desc).map (fun d => d.parameters.length) = some 1) := by decide +kernel
set_option maxHeartbeats 4000000 in
set_option maxRecDepth 100000 in
theorem tX5_waitedBehind (l : Launch) (D : va_G) (cI cS : ClassId) (F : Nat) (a0 a1 a2 a3 a4 a5 a6 a7 a8 a9 a10 a11 : Nat) (nw : Nat → Int32) (kp : Nat → Int32) (ad : Nat → Int32) (fd : Nat → Int32) (tp : Nat → Int32) (kn : Nat → Option Nat) (it : Nat → Int32) (wd : Nat → Int32) (sz : Nat → Int32) (nm : Nat → Int32) (mv : Nat → Int32) (ik : Int32) (td : Int32) (bg : Int32) (en : Int32) (so : Int32) (va : Int32) (iw : Int32) (im : Int32) (st : Int32) (ht : Int32) (v1 : Int32) (z0 : Int32) (z1 : Nat → Int32) (z2 : Nat → Int32) (h : fX5_waitedBehind F nw ad v1 = some (z0, z1, z2)) (hD0 : va_D (fun _ => True) (wX5 cI cS a0 a1 a2 a3 a4 a5 a6 a7 a8 a9 a10 a11 nw kp ad fd tp kn it wd sz nm mv ik td bg en so va iw im st ht)) : Met l yX5_waitedBehind wsX5_waitedBehind rmX5_waitedBehind (PZ D cI cS [.ref a0, .int v1] (fun U => va_P D vwCl (wX5 cI cS a0 a1 a2 a3 a4 a5 a6 a7 a8 a9 a10 a11 nw kp ad fd tp kn it wd sz nm mv ik td bg en so va iw im st ht) U.heap)) (qI D (wX5 cI cS a0 a1 a2 a3 a4 a5 a6 a7 a8 a9 a10 a11 nw kp ad fd tp kn it wd sz nm mv ik td bg en so va iw im st ht) (wX5 cI cS a0 a1 a2 a3 a4 a5 a6 a7 a8 a9 a10 a11 z1 kp z2 fd tp kn it wd sz nm mv ik td bg en so va iw im st ht) z0) 0 0 (wA (wX5 cI cS a0 a1 a2 a3 a4 a5 a6 a7 a8 a9 a10 a11 nw kp ad fd tp kn it wd sz nm mv ik td bg en so va iw im st ht)) := by
  refine Met.mk RX5 (by decide) rfl rfl (Nat.le_of_ble_eq_true rfl) ?_
  intro p e s m below meth c ls C0 hP hl
  have hl : lv_has ls 2 [(0, .ref a0), (1, .int v1)] := hl
  obtain ⟨hx, hb, hr, hml, hown, hts, hlk, hE⟩ := id C0
  have hinX5 : ∀ w ∈ u_ws RX5 TX5 21, w ∈ wsX5_waitedBehind := by decide +kernel
  have hD : ∀ W : va_W, W.map Prod.fst = [a0, a1, a2, a3, a4, a5, a6, a7, a8, a9, a10, a11] → va_D (wA (wX5 cI cS a0 a1 a2 a3 a4 a5 a6 a7 a8 a9 a10 a11 nw kp ad fd tp kn it wd sz nm mv ik td bg en so va iw im st ht)) W := fun W hW => hD0.own.re hW
  have hS : va_S (wA (wX5 cI cS a0 a1 a2 a3 a4 a5 a6 a7 a8 a9 a10 a11 nw kp ad fd tp kn it wd sz nm mv ik td bg en so va iw im st ht)) s.heap s.heap [] := va_S.rf
  have hP : va_P D vwCl (wX5 cI cS a0 a1 a2 a3 a4 a5 a6 a7 a8 a9 a10 a11 nw kp ad fd tp kn it wd sz nm mv ik td bg en so va iw im st ht) s.heap := hP
  rw [fX5_waitedBehind] at h
  refine lv_aload_n hx hb dX5_waitedBehind_0 rfl (lv_at hl 0 rfl) ?_
  refine va_get (D := D) (ci := 4) (v := .ref a1) (C := RX5) (T := TX5) (N := 21) hx hb hts hinX5 hown hE.1 hP 0 rfl rfl 0 (by decide) (hts _ (List.mem_of_getElem? (i := 1) rfl)) (fun _ h9 => h9) rfl dX5_waitedBehind_1 ?_
  refine lv_aload_n hx hb dX5_waitedBehind_4 rfl (lv_at hl 0 rfl) ?_
  refine va_get (D := D) (ci := 4) (v := .ref a3) (C := RX5) (T := TX5) (N := 21) hx hb hts hinX5 hown hE.1 hP 0 rfl rfl 2 (by decide) (hts _ (List.mem_of_getElem? (i := 2) rfl)) (fun _ h9 => h9) rfl dX5_waitedBehind_5 ?_
  obtain ⟨z_1, e_2, h⟩ := bds h
  have hPc := hP.sub (ws' := (wR2 cI cS a1 a3 nw ad)) [1, 3] rfl
  refine kMv (wf' := (wX5 cI cS a0 a1 a2 a3 a4 a5 a6 a7 a8 a9 a10 a11 nw kp z_1 fd tp kn it wd sz nm mv ik td bg en so va iw im st ht)) [1, 3] [none, some 0, none, some 1, none, none, none, none, none, none, none, none] (rS C0 (tX5_copyRow l D cI cS F a1 a3 nw ad  z_1 e_2 (((hD (wX5 cI cS a0 a1 a2 a3 a4 a5 a6 a7 a8 a9 a10 a11 nw kp ad fd tp kn it wd sz nm mv ik td bg en so va iw im st ht) rfl).sub [1, 3] (by decide) rfl).weaken (fun _ _ _ _ => trivial))) gX5_waitedBehind_X5_copyRow rfl ⟨rfl, rfl⟩ pdX5_copyRow rfl ⟨Nat.le_of_ble_eq_true rfl, Nat.le_of_ble_eq_true rfl⟩ (fun _ _ _ _ q => q) (fun U hU _ _ => by rw [hU]; exact hPc) hl.1 rfl (Nat.le_of_ble_eq_true rfl) dX5_waitedBehind_8 ⟨Nat.zero_le _, Nat.zero_le _⟩) hP (hD _ rfl) hS rfl rfl rfl (fun H locs hP hS => ?_)
  refine lv_aload_n hx hb dX5_waitedBehind_11 rfl (lv_at hl 0 rfl) ?_
  refine lv_iload_n hx hb dX5_waitedBehind_12 rfl (lv_at hl 1 rfl) ?_
  obtain ⟨z_3, e_4, h⟩ := bds h
  have hPc := hP.sub (ws' := (wX5 cI cS a0 a1 a2 a3 a4 a5 a6 a7 a8 a9 a10 a11 nw kp z_1 fd tp kn it wd sz nm mv ik td bg en so va iw im st ht)) [0, 1, 2, 3, 4, 5, 6, 7, 8, 9, 10, 11] rfl
  refine kMv (wf' := (wX5 cI cS a0 a1 a2 a3 a4 a5 a6 a7 a8 a9 a10 a11 z_3 kp z_1 fd tp kn it wd sz nm mv ik td bg en so va iw im st ht)) [0, 1, 2, 3, 4, 5, 6, 7, 8, 9, 10, 11] [some 0, some 1, some 2, some 3, some 4, some 5, some 6, some 7, some 8, some 9, some 10, some 11] (rV C0 (tX5_daysGo l D cI cS F a0 a1 a2 a3 a4 a5 a6 a7 a8 a9 a10 a11 nw kp z_1 fd tp kn it wd sz nm mv ik td bg en so va iw im st ht v1 z_3 e_4 (((hD (wX5 cI cS a0 a1 a2 a3 a4 a5 a6 a7 a8 a9 a10 a11 nw kp z_1 fd tp kn it wd sz nm mv ik td bg en so va iw im st ht) rfl).sub [0, 1, 2, 3, 4, 5, 6, 7, 8, 9, 10, 11] (by decide) rfl).weaken (fun _ _ _ _ => trivial))) RX5 gX5_waitedBehind_X5_daysGo rfl ⟨rfl, rfl⟩ pdX5_daysGo rfl ⟨Nat.le_of_ble_eq_true rfl, Nat.le_of_ble_eq_true rfl⟩ (fun _ _ _ _ q => q) (va_recv hE.1 hPc (ci := 4) (q0 := 0) rfl rfl) (fun U hU _ _ => by rw [hU]; exact hPc) hl.1 rfl (Nat.le_of_ble_eq_true rfl) dX5_waitedBehind_13 ⟨Nat.zero_le _, Nat.zero_le _⟩) hP (hD _ rfl) hS rfl rfl rfl (fun H locs hP hS => ?_)
  refine lv_aload_n hx hb dX5_waitedBehind_16 rfl (lv_at hl 0 rfl) ?_
  refine lv_aload_n hx hb dX5_waitedBehind_17 rfl (lv_at hl 0 rfl) ?_
  obtain ⟨z_5, e_6, h⟩ := bds h
  have hPc := hP.sub (ws' := (wX5 cI cS a0 a1 a2 a3 a4 a5 a6 a7 a8 a9 a10 a11 z_3 kp z_1 fd tp kn it wd sz nm mv ik td bg en so va iw im st ht)) [0, 1, 2, 3, 4, 5, 6, 7, 8, 9, 10, 11] rfl
  refine kRi (rV C0 (tX5_waitedInAll l D cI cS F a0 a1 a2 a3 a4 a5 a6 a7 a8 a9 a10 a11 z_3 kp z_1 fd tp kn it wd sz nm mv ik td bg en so va iw im st ht  z_5 e_6) RX5 gX5_waitedBehind_X5_waitedInAll rfl ⟨rfl, rfl⟩ pdX5_waitedInAll rfl ⟨Nat.le_of_ble_eq_true rfl, Nat.le_of_ble_eq_true rfl⟩ (fun _ _ _ _ q => q) (va_recv hE.1 hPc (ci := 4) (q0 := 0) rfl rfl) (fun U hU _ _ => by rw [hU]; exact hPc) hl.1 rfl (Nat.le_of_ble_eq_true rfl) dX5_waitedBehind_18 ⟨Nat.zero_le _, Nat.zero_le _⟩) ?_
  obtain ⟨z_7, e_8, h⟩ := bds h
  have hPc := hP.sub (ws' := (wX5 cI cS a0 a1 a2 a3 a4 a5 a6 a7 a8 a9 a10 a11 z_3 kp z_1 fd tp kn it wd sz nm mv ik td bg en so va iw im st ht)) [0, 1, 2, 3, 4, 5, 6, 7, 8, 9, 10, 11] rfl
  refine kMi (wf' := (wX5 cI cS a0 a1 a2 a3 a4 a5 a6 a7 a8 a9 a10 a11 z_7.2 kp z_1 fd tp kn it wd sz nm mv ik td bg en so va iw im st ht)) [0, 1, 2, 3, 4, 5, 6, 7, 8, 9, 10, 11] [some 0, some 1, some 2, some 3, some 4, some 5, some 6, some 7, some 8, some 9, some 10, some 11] (rV C0 (tX5_putBack l D cI cS F a0 a1 a2 a3 a4 a5 a6 a7 a8 a9 a10 a11 z_3 kp z_1 fd tp kn it wd sz nm mv ik td bg en so va iw im st ht z_5 z_7.1 z_7.2 e_8 (((hD (wX5 cI cS a0 a1 a2 a3 a4 a5 a6 a7 a8 a9 a10 a11 z_3 kp z_1 fd tp kn it wd sz nm mv ik td bg en so va iw im st ht) rfl).sub [0, 1, 2, 3, 4, 5, 6, 7, 8, 9, 10, 11] (by decide) rfl).weaken (fun _ _ _ _ => trivial))) RX5 gX5_waitedBehind_X5_putBack rfl ⟨rfl, rfl⟩ pdX5_putBack rfl ⟨Nat.le_of_ble_eq_true rfl, Nat.le_of_ble_eq_true rfl⟩ (fun _ _ _ _ q => q) (va_recv hE.1 hPc (ci := 4) (q0 := 0) rfl rfl) (fun U hU _ _ => by rw [hU]; exact hPc) hl.1 rfl (Nat.le_of_ble_eq_true rfl) dX5_waitedBehind_21 ⟨Nat.zero_le _, Nat.zero_le _⟩) hP (hD _ rfl) hS rfl rfl rfl (fun H locs hP hS => ?_)
  obtain ⟨q0, g0⟩ := Prod.mk.inj (Option.some.inj h)
  obtain ⟨q1, q2⟩ := Prod.mk.inj g0
  subst q0 q1 q2
  exact eMi C0 hP hS rfl rfl dX5_waitedBehind_24
def fX5_waitedWith (F : Nat) (nw : Nat → Int32) (ad : Nat → Int32) (v1 : Int32) (v2 : Int32) (v3 : Int32) : Option (Int32 × (Nat → Int32) × (Nat → Int32)) := if ¬ (v1 < 0 ∨ 84 ≤ v1.toNatClampNeg) then Option.bind (fX5_waitedBehind F (upd nw v1.toNatClampNeg v2) ad v3) (fun z_2 => some (z_2.1, z_2.2.1, z_2.2.2)) else none
abbrev rmX5_waitedWith : Room := { frames := 8, cells := 0, slots := 0, locals := 178 }
theorem pdX5_waitedWith : (yX5_waitedWith.cls = RX5 ∧ yX5_waitedWith.cls ≠ "java/lang/invoke/MethodHandle" ∧ yX5_waitedWith.cls ≠ "java/lang/invoke/VarHandle" ∧ (parseMethodDescriptor yX5_waitedWith.desc).map (fun d => d.parameters.length) = some 3) := by decide +kernel
set_option maxHeartbeats 4000000 in
set_option maxRecDepth 100000 in
theorem tX5_waitedWith (l : Launch) (D : va_G) (cI cS : ClassId) (F : Nat) (a0 a1 a2 a3 a4 a5 a6 a7 a8 a9 a10 a11 : Nat) (nw : Nat → Int32) (kp : Nat → Int32) (ad : Nat → Int32) (fd : Nat → Int32) (tp : Nat → Int32) (kn : Nat → Option Nat) (it : Nat → Int32) (wd : Nat → Int32) (sz : Nat → Int32) (nm : Nat → Int32) (mv : Nat → Int32) (ik : Int32) (td : Int32) (bg : Int32) (en : Int32) (so : Int32) (va : Int32) (iw : Int32) (im : Int32) (st : Int32) (ht : Int32) (v1 : Int32) (v2 : Int32) (v3 : Int32) (z0 : Int32) (z1 : Nat → Int32) (z2 : Nat → Int32) (h : fX5_waitedWith F nw ad v1 v2 v3 = some (z0, z1, z2)) (hD0 : va_D (fun _ => True) (wX5 cI cS a0 a1 a2 a3 a4 a5 a6 a7 a8 a9 a10 a11 nw kp ad fd tp kn it wd sz nm mv ik td bg en so va iw im st ht)) : Met l yX5_waitedWith wsX5_waitedWith rmX5_waitedWith (PZ D cI cS [.ref a0, .int v1, .int v2, .int v3] (fun U => va_P D vwCl (wX5 cI cS a0 a1 a2 a3 a4 a5 a6 a7 a8 a9 a10 a11 nw kp ad fd tp kn it wd sz nm mv ik td bg en so va iw im st ht) U.heap)) (qI D (wX5 cI cS a0 a1 a2 a3 a4 a5 a6 a7 a8 a9 a10 a11 nw kp ad fd tp kn it wd sz nm mv ik td bg en so va iw im st ht) (wX5 cI cS a0 a1 a2 a3 a4 a5 a6 a7 a8 a9 a10 a11 z1 kp z2 fd tp kn it wd sz nm mv ik td bg en so va iw im st ht) z0) 0 0 (wA (wX5 cI cS a0 a1 a2 a3 a4 a5 a6 a7 a8 a9 a10 a11 nw kp ad fd tp kn it wd sz nm mv ik td bg en so va iw im st ht)) := by
  refine Met.mk RX5 (by decide) rfl rfl (Nat.le_of_ble_eq_true rfl) ?_
  intro p e s m below meth c ls C0 hP hl
  have hl : lv_has ls 4 [(0, .ref a0), (1, .int v1), (2, .int v2), (3, .int v3)] := hl
  obtain ⟨hx, hb, hr, hml, hown, hts, hlk, hE⟩ := id C0
  have hinX5 : ∀ w ∈ u_ws RX5 TX5 21, w ∈ wsX5_waitedWith := by decide +kernel
  have hD : ∀ W : va_W, W.map Prod.fst = [a0, a1, a2, a3, a4, a5, a6, a7, a8, a9, a10, a11] → va_D (wA (wX5 cI cS a0 a1 a2 a3 a4 a5 a6 a7 a8 a9 a10 a11 nw kp ad fd tp kn it wd sz nm mv ik td bg en so va iw im st ht)) W := fun W hW => hD0.own.re hW
  have hS : va_S (wA (wX5 cI cS a0 a1 a2 a3 a4 a5 a6 a7 a8 a9 a10 a11 nw kp ad fd tp kn it wd sz nm mv ik td bg en so va iw im st ht)) s.heap s.heap [] := va_S.rf
  have hP : va_P D vwCl (wX5 cI cS a0 a1 a2 a3 a4 a5 a6 a7 a8 a9 a10 a11 nw kp ad fd tp kn it wd sz nm mv ik td bg en so va iw im st ht) s.heap := hP
  rw [fX5_waitedWith] at h
  refine lv_aload_n hx hb dX5_waitedWith_0 rfl (lv_at hl 0 rfl) ?_
  refine va_get (D := D) (ci := 4) (v := .ref a1) (C := RX5) (T := TX5) (N := 21) hx hb hts hinX5 hown hE.1 hP 0 rfl rfl 0 (by decide) (hts _ (List.mem_of_getElem? (i := 1) rfl)) (fun _ h9 => h9) rfl dX5_waitedWith_1 ?_
  refine lv_iload_n hx hb dX5_waitedWith_4 rfl (lv_at hl 1 rfl) ?_
  refine lv_iload_n hx hb dX5_waitedWith_5 rfl (lv_at hl 2 rfl) ?_
  obtain ⟨hi_1, h⟩ := ifs h
  refine va_iast hx hb hE.1 hP (hD _ rfl) hS 1 0 rfl rfl hi_1 dX5_waitedWith_6 (fun H locs hP _ hS => ?_)
  have hP : va_P D vwCl (wX5 cI cS a0 a1 a2 a3 a4 a5 a6 a7 a8 a9 a10 a11 (upd nw v1.toNatClampNeg v2) kp ad fd tp kn it wd sz nm mv ik td bg en so va iw im st ht) H := hP
  refine lv_aload_n hx hb dX5_waitedWith_7 rfl (lv_at hl 0 rfl) ?_
  refine lv_iload_n hx hb dX5_waitedWith_8 rfl (lv_at hl 3 rfl) ?_
  obtain ⟨z_2, e_3, h⟩ := bds h
  have hPc := hP.sub (ws' := (wX5 cI cS a0 a1 a2 a3 a4 a5 a6 a7 a8 a9 a10 a11 (upd nw v1.toNatClampNeg v2) kp ad fd tp kn it wd sz nm mv ik td bg en so va iw im st ht)) [0, 1, 2, 3, 4, 5, 6, 7, 8, 9, 10, 11] rfl
  refine kMi (wf' := (wX5 cI cS a0 a1 a2 a3 a4 a5 a6 a7 a8 a9 a10 a11 z_2.2.1 kp z_2.2.2 fd tp kn it wd sz nm mv ik td bg en so va iw im st ht)) [0, 1, 2, 3, 4, 5, 6, 7, 8, 9, 10, 11] [some 0, some 1, some 2, some 3, some 4, some 5, some 6, some 7, some 8, some 9, some 10, some 11] (rV C0 (tX5_waitedBehind l D cI cS F a0 a1 a2 a3 a4 a5 a6 a7 a8 a9 a10 a11 (upd nw v1.toNatClampNeg v2) kp ad fd tp kn it wd sz nm mv ik td bg en so va iw im st ht v3 z_2.1 z_2.2.1 z_2.2.2 e_3 (((hD (wX5 cI cS a0 a1 a2 a3 a4 a5 a6 a7 a8 a9 a10 a11 (upd nw v1.toNatClampNeg v2) kp ad fd tp kn it wd sz nm mv ik td bg en so va iw im st ht) rfl).sub [0, 1, 2, 3, 4, 5, 6, 7, 8, 9, 10, 11] (by decide) rfl).weaken (fun _ _ _ _ => trivial))) RX5 gX5_waitedWith_X5_waitedBehind rfl ⟨rfl, rfl⟩ pdX5_waitedBehind rfl ⟨Nat.le_of_ble_eq_true rfl, Nat.le_of_ble_eq_true rfl⟩ (fun _ _ _ _ q => q) (va_recv hE.1 hPc (ci := 4) (q0 := 0) rfl rfl) (fun U hU _ _ => by rw [hU]; exact hPc) hl.1 rfl (Nat.le_of_ble_eq_true rfl) dX5_waitedWith_9 ⟨Nat.zero_le _, Nat.zero_le _⟩) hP (hD _ rfl) hS rfl rfl rfl (fun H locs hP hS => ?_)
  obtain ⟨q0, g0⟩ := Prod.mk.inj (Option.some.inj h)
  obtain ⟨q1, q2⟩ := Prod.mk.inj g0
  subst q0 q1 q2
  exact eMi C0 hP hS rfl rfl dX5_waitedWith_12
