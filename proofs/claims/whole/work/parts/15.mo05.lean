def fX5_leastFor_23 (F : Nat) (v1 : Int32) (v2 : Int32) (v3 : Int32) (v4 : Int32) : Nat → Int32 → Int32 → Int32 → (Nat → Int32) → (Nat → Int32) → Option (Int32 × (Nat → Int32) × (Nat → Int32))
  | 0, _, _, _, _, _ => none
  | n + 1, v5, v6, v7, nw, ad => (if v2 < v7 then if ¬ (v1 < 0 ∨ 84 ≤ v1.toNatClampNeg) then some (v5, upd nw v1.toNatClampNeg v4, ad) else none else Option.bind (fX5_waitedWith F nw ad v1 v7 v3) (fun z_6 => (if v6 ≤ z_6.1 then fX5_leastFor_23 F v1 v2 v3 v4 n v5 v6 (v7 + 1) z_6.2.1 z_6.2.2 else fX5_leastFor_23 F v1 v2 v3 v4 n v7 z_6.1 (v7 + 1) z_6.2.1 z_6.2.2)))
def fX5_leastFor (F : Nat) (nw : Nat → Int32) (ad : Nat → Int32) (v1 : Int32) (v2 : Int32) (v3 : Int32) : Option (Int32 × (Nat → Int32) × (Nat → Int32)) := if ¬ (v1 < 0 ∨ 84 ≤ v1.toNatClampNeg) then Option.bind (fX5_waitedWith F nw ad v1 0 v3) (fun z_2 => fX5_leastFor_23 F v1 v2 v3 (nw v1.toNatClampNeg) F 0 z_2.1 1 z_2.2.1 z_2.2.2) else none
abbrev rmX5_leastFor : Room := { frames := 9, cells := 0, slots := 0, locals := 201 }
theorem pdX5_leastFor : (yX5_leastFor.cls = RX5 ∧ yX5_leastFor.cls ≠ "java/lang/invoke/MethodHandle" ∧ yX5_leastFor.cls ≠ "java/lang/invoke/VarHandle" ∧ (parseMethodDescriptor yX5_leastFor.desc).map (fun d => d.parameters.length) = some 3) := by decide +kernel
set_option maxHeartbeats 4000000 in
set_option maxRecDepth 100000 in
theorem lX5_leastFor_23 {p : Program} {l : Launch} {e : Env} {s : State} {m : MethodId} {av : Array Value} {below : List Frame} {meth : Method} {c : Code} {D : va_G} {cI cS : ClassId} {a0 a1 a2 a3 a4 a5 a6 a7 a8 a9 a10 a11 : Nat} {W0 : va_W} (C0 : CX p s m av meth c RX5 cX5_leastFor 9 (some .int) wsX5_leastFor D cI cS) (F : Nat) (kp : Nat → Int32) (fd : Nat → Int32) (tp : Nat → Int32) (kn : Nat → Option Nat) (it : Nat → Int32) (wd : Nat → Int32) (sz : Nat → Int32) (nm : Nat → Int32) (mv : Nat → Int32) (ik : Int32) (td : Int32) (bg : Int32) (en : Int32) (so : Int32) (va : Int32) (iw : Int32) (im : Int32) (st : Int32) (ht : Int32) (v1 : Int32) (v2 : Int32) (v3 : Int32) (v4 : Int32) (z0 : Int32) (z1 : Nat → Int32) (z2 : Nat → Int32) (hD : ∀ W : va_W, W.map Prod.fst = [a0, a1, a2, a3, a4, a5, a6, a7, a8, a9, a10, a11] → va_D (wA W0) W) : ∀ (n : Nat) (v5 : Int32) (v6 : Int32) (v7 : Int32) (nw : Nat → Int32) (ad : Nat → Int32) (H : Heap) (locs : List Loc), va_P D vwCl (wX5 cI cS a0 a1 a2 a3 a4 a5 a6 a7 a8 a9 a10 a11 nw kp ad fd tp kn it wd sz nm mv ik td bg en so va iw im st ht) H → va_S (wA W0) s.heap H locs → ∀ (ls : Array Slot), lv_has ls 9 [(0, .ref a0), (1, .int v1), (2, .int v2), (3, .int v3), (4, .int v4), (5, .int v5), (6, .int v6), (7, .int v7)] → fX5_leastFor_23 F v1 v2 v3 v4 n v5 v6 v7 nw ad = some (z0, z1, z2) → W p l e rmX5_leastFor s m av below meth c H locs 0 0 (MQ below (qI D W0 (wX5 cI cS a0 a1 a2 a3 a4 a5 a6 a7 a8 a9 a10 a11 z1 kp z2 fd tp kn it wd sz nm mv ik td bg en so va iw im st ht) z0) av s 0 0 (wA W0)) (F0 m 23 ls []) := by
  obtain ⟨hx, hb, hr, hml, hown, hts, hlk, hE⟩ := id C0
  have hinX5 : ∀ w ∈ u_ws RX5 TX5 21, w ∈ wsX5_leastFor := by decide +kernel
  intro n
  induction n with
  | zero =>
    intro v5 v6 v7 nw ad H locs hP hS ls hl h
    cases (show none = some (z0, z1, z2) from h)
  | succ n ih =>
    intro v5 v6 v7 nw ad H locs hP hS ls hl h
    rw [fX5_leastFor_23] at h
    refine lv_iload hx hb dX5_leastFor_23 (lv_at hl 7 rfl) ?_
    refine lv_iload_n hx hb dX5_leastFor_25 rfl (lv_at hl 2 rfl) ?_
    refine lv_icmp_gt (tgt := 60) hx hb dX5_leastFor_26 (by decide) (fun c_4 => ?_) (fun c_4 => ?_)
    · have h := ifp c_4 h
      refine lv_aload_n hx hb dX5_leastFor_60 rfl (lv_at hl 0 rfl) ?_
      refine va_get (D := D) (ci := 4) (v := .ref a1) (C := RX5) (T := TX5) (N := 21) hx hb hts hinX5 hown hE.1 hP 0 rfl rfl 0 (by decide) (hts _ (List.mem_of_getElem? (i := 1) rfl)) (fun _ h9 => h9) rfl dX5_leastFor_61 ?_
      refine lv_iload_n hx hb dX5_leastFor_64 rfl (lv_at hl 1 rfl) ?_
      refine lv_iload hx hb dX5_leastFor_65 (lv_at hl 4 rfl) ?_
      obtain ⟨hi_5, h⟩ := ifs h
      refine va_iast hx hb hE.1 hP (hD _ rfl) hS 1 0 rfl rfl hi_5 dX5_leastFor_67 (fun H locs hP _ hS => ?_)
      have hP : va_P D vwCl (wX5 cI cS a0 a1 a2 a3 a4 a5 a6 a7 a8 a9 a10 a11 (upd nw v1.toNatClampNeg v4) kp ad fd tp kn it wd sz nm mv ik td bg en so va iw im st ht) H := hP
      refine lv_iload hx hb dX5_leastFor_68 (lv_at hl 5 rfl) ?_
      obtain ⟨q0, g0⟩ := Prod.mk.inj (Option.some.inj h)
      obtain ⟨q1, q2⟩ := Prod.mk.inj g0
      subst q0 q1 q2
      exact eMi C0 hP hS rfl rfl dX5_leastFor_70
    · have h := ifn c_4 h
      refine lv_aload_n hx hb dX5_leastFor_29 rfl (lv_at hl 0 rfl) ?_
      refine lv_iload_n hx hb dX5_leastFor_30 rfl (lv_at hl 1 rfl) ?_
      refine lv_iload hx hb dX5_leastFor_31 (lv_at hl 7 rfl) ?_
      refine lv_iload_n hx hb dX5_leastFor_33 rfl (lv_at hl 3 rfl) ?_
      obtain ⟨z_6, e_7, h⟩ := bds h
      have hPc := hP.sub (ws' := (wX5 cI cS a0 a1 a2 a3 a4 a5 a6 a7 a8 a9 a10 a11 nw kp ad fd tp kn it wd sz nm mv ik td bg en so va iw im st ht)) [0, 1, 2, 3, 4, 5, 6, 7, 8, 9, 10, 11] rfl
      refine kMi (wf' := (wX5 cI cS a0 a1 a2 a3 a4 a5 a6 a7 a8 a9 a10 a11 z_6.2.1 kp z_6.2.2 fd tp kn it wd sz nm mv ik td bg en so va iw im st ht)) [0, 1, 2, 3, 4, 5, 6, 7, 8, 9, 10, 11] [some 0, some 1, some 2, some 3, some 4, some 5, some 6, some 7, some 8, some 9, some 10, some 11] (rV C0 (tX5_waitedWith l D cI cS F a0 a1 a2 a3 a4 a5 a6 a7 a8 a9 a10 a11 nw kp ad fd tp kn it wd sz nm mv ik td bg en so va iw im st ht v1 v7 v3 z_6.1 z_6.2.1 z_6.2.2 e_7 (((hD (wX5 cI cS a0 a1 a2 a3 a4 a5 a6 a7 a8 a9 a10 a11 nw kp ad fd tp kn it wd sz nm mv ik td bg en so va iw im st ht) rfl).sub [0, 1, 2, 3, 4, 5, 6, 7, 8, 9, 10, 11] (by decide) rfl).weaken (fun _ _ _ _ => trivial))) RX5 gX5_leastFor_X5_waitedWith rfl ⟨rfl, rfl⟩ pdX5_waitedWith rfl ⟨Nat.le_of_ble_eq_true rfl, Nat.le_of_ble_eq_true rfl⟩ (fun _ _ _ _ q => q) (va_recv hE.1 hPc (ci := 4) (q0 := 0) rfl rfl) (fun U hU _ _ => by rw [hU]; exact hPc) hl.1 rfl (Nat.le_of_ble_eq_true rfl) dX5_leastFor_34 ⟨Nat.zero_le _, Nat.zero_le _⟩) hP (hD _ rfl) hS rfl rfl rfl (fun H locs hP hS => ?_)
      refine lv_istore (lv' := [(8, .int z_6.1), (0, .ref a0), (1, .int v1), (2, .int v2), (3, .int v3), (4, .int v4), (5, .int v5), (6, .int v6), (7, .int v7)]) hx hb dX5_leastFor_37 hl (by decide) rfl (fun ls hl => ?_)
      refine lv_iload hx hb dX5_leastFor_39 (lv_at hl 0 rfl) ?_
      refine lv_iload hx hb dX5_leastFor_41 (lv_at hl 7 rfl) ?_
      refine lv_icmp_ge (tgt := 54) hx hb dX5_leastFor_43 (by decide) (fun c_8 => ?_) (fun c_8 => ?_)
      · have h := ifp c_8 h
        refine lv_iinc (v := v7 + 1) (lv' := [(7, .int (v7 + 1)), (8, .int z_6.1), (0, .ref a0), (1, .int v1), (2, .int v2), (3, .int v3), (4, .int v4), (5, .int v5), (6, .int v6)]) hx hb dX5_leastFor_54 hl (k := 8) rfl rfl (by decide) rfl (fun ls hl => ?_)
        refine lv_goto (tgt := 23) hx hb dX5_leastFor_57 (by decide) ?_
        exact ih v5 v6 (v7 + 1) z_6.2.1 z_6.2.2 _ _ hP hS _ (lv_sub hl [2, 3, 4, 5, 6, 7, 8, 0] rfl) h
      · have h := ifn c_8 h
        refine lv_iload hx hb dX5_leastFor_46 (lv_at hl 8 rfl) ?_
        refine lv_istore (lv' := [(5, .int v7), (8, .int z_6.1), (0, .ref a0), (1, .int v1), (2, .int v2), (3, .int v3), (4, .int v4), (6, .int v6), (7, .int v7)]) hx hb dX5_leastFor_48 hl (by decide) rfl (fun ls hl => ?_)
        refine lv_iload hx hb dX5_leastFor_50 (lv_at hl 1 rfl) ?_
        refine lv_istore (lv' := [(6, .int z_6.1), (5, .int v7), (8, .int z_6.1), (0, .ref a0), (1, .int v1), (2, .int v2), (3, .int v3), (4, .int v4), (7, .int v7)]) hx hb dX5_leastFor_52 hl (by decide) rfl (fun ls hl => ?_)
        refine lv_iinc (v := v7 + 1) (lv' := [(7, .int (v7 + 1)), (6, .int z_6.1), (5, .int v7), (8, .int z_6.1), (0, .ref a0), (1, .int v1), (2, .int v2), (3, .int v3), (4, .int v4)]) hx hb dX5_leastFor_54 hl (k := 8) rfl rfl (by decide) rfl (fun ls hl => ?_)
        refine lv_goto (tgt := 23) hx hb dX5_leastFor_57 (by decide) ?_
        exact ih v7 z_6.1 (v7 + 1) z_6.2.1 z_6.2.2 _ _ hP hS _ (lv_sub hl [4, 5, 6, 7, 8, 2, 1, 0] rfl) h
set_option maxHeartbeats 4000000 in
set_option maxRecDepth 100000 in
theorem tX5_leastFor (l : Launch) (D : va_G) (cI cS : ClassId) (F : Nat) (a0 a1 a2 a3 a4 a5 a6 a7 a8 a9 a10 a11 : Nat) (nw : Nat → Int32) (kp : Nat → Int32) (ad : Nat → Int32) (fd : Nat → Int32) (tp : Nat → Int32) (kn : Nat → Option Nat) (it : Nat → Int32) (wd : Nat → Int32) (sz : Nat → Int32) (nm : Nat → Int32) (mv : Nat → Int32) (ik : Int32) (td : Int32) (bg : Int32) (en : Int32) (so : Int32) (va : Int32) (iw : Int32) (im : Int32) (st : Int32) (ht : Int32) (v1 : Int32) (v2 : Int32) (v3 : Int32) (z0 : Int32) (z1 : Nat → Int32) (z2 : Nat → Int32) (h : fX5_leastFor F nw ad v1 v2 v3 = some (z0, z1, z2)) (hD0 : va_D (fun _ => True) (wX5 cI cS a0 a1 a2 a3 a4 a5 a6 a7 a8 a9 a10 a11 nw kp ad fd tp kn it wd sz nm mv ik td bg en so va iw im st ht)) : Met l yX5_leastFor wsX5_leastFor rmX5_leastFor (PZ D cI cS [.ref a0, .int v1, .int v2, .int v3] (fun U => va_P D vwCl (wX5 cI cS a0 a1 a2 a3 a4 a5 a6 a7 a8 a9 a10 a11 nw kp ad fd tp kn it wd sz nm mv ik td bg en so va iw im st ht) U.heap)) (qI D (wX5 cI cS a0 a1 a2 a3 a4 a5 a6 a7 a8 a9 a10 a11 nw kp ad fd tp kn it wd sz nm mv ik td bg en so va iw im st ht) (wX5 cI cS a0 a1 a2 a3 a4 a5 a6 a7 a8 a9 a10 a11 z1 kp z2 fd tp kn it wd sz nm mv ik td bg en so va iw im st ht) z0) 0 0 (wA (wX5 cI cS a0 a1 a2 a3 a4 a5 a6 a7 a8 a9 a10 a11 nw kp ad fd tp kn it wd sz nm mv ik td bg en so va iw im st ht)) := by
  refine Met.mk RX5 (by decide) rfl rfl (Nat.le_of_ble_eq_true rfl) ?_
  intro p e s m below meth c ls C0 hP hl
  have hl : lv_has ls 9 [(0, .ref a0), (1, .int v1), (2, .int v2), (3, .int v3)] := hl
  obtain ⟨hx, hb, hr, hml, hown, hts, hlk, hE⟩ := id C0
  have hinX5 : ∀ w ∈ u_ws RX5 TX5 21, w ∈ wsX5_leastFor := by decide +kernel
  have hD : ∀ W : va_W, W.map Prod.fst = [a0, a1, a2, a3, a4, a5, a6, a7, a8, a9, a10, a11] → va_D (wA (wX5 cI cS a0 a1 a2 a3 a4 a5 a6 a7 a8 a9 a10 a11 nw kp ad fd tp kn it wd sz nm mv ik td bg en so va iw im st ht)) W := fun W hW => hD0.own.re hW
  have hS : va_S (wA (wX5 cI cS a0 a1 a2 a3 a4 a5 a6 a7 a8 a9 a10 a11 nw kp ad fd tp kn it wd sz nm mv ik td bg en so va iw im st ht)) s.heap s.heap [] := va_S.rf
  have hP : va_P D vwCl (wX5 cI cS a0 a1 a2 a3 a4 a5 a6 a7 a8 a9 a10 a11 nw kp ad fd tp kn it wd sz nm mv ik td bg en so va iw im st ht) s.heap := hP
  rw [fX5_leastFor] at h
  refine lv_aload_n hx hb dX5_leastFor_0 rfl (lv_at hl 0 rfl) ?_
  refine va_get (D := D) (ci := 4) (v := .ref a1) (C := RX5) (T := TX5) (N := 21) hx hb hts hinX5 hown hE.1 hP 0 rfl rfl 0 (by decide) (hts _ (List.mem_of_getElem? (i := 1) rfl)) (fun _ h9 => h9) rfl dX5_leastFor_1 ?_
  refine lv_iload_n hx hb dX5_leastFor_4 rfl (lv_at hl 1 rfl) ?_
  obtain ⟨hi_1, h⟩ := ifs h
  refine va_iald hx hb hE.1 hP 1 0 rfl rfl hi_1 dX5_leastFor_5 ?_
  refine lv_istore (lv' := [(4, .int (nw v1.toNatClampNeg)), (0, .ref a0), (1, .int v1), (2, .int v2), (3, .int v3)]) hx hb dX5_leastFor_6 hl (by decide) rfl (fun ls hl => ?_)
  refine lv_iconst (v := 0) hx hb dX5_leastFor_8 (by decide) ?_
  refine lv_istore (lv' := [(5, .int 0), (4, .int (nw v1.toNatClampNeg)), (0, .ref a0), (1, .int v1), (2, .int v2), (3, .int v3)]) hx hb dX5_leastFor_9 hl (by decide) rfl (fun ls hl => ?_)
  refine lv_aload_n hx hb dX5_leastFor_11 rfl (lv_at hl 2 rfl) ?_
  refine lv_iload_n hx hb dX5_leastFor_12 rfl (lv_at hl 3 rfl) ?_
  refine lv_iconst (v := 0) hx hb dX5_leastFor_13 (by decide) ?_
  refine lv_iload_n hx hb dX5_leastFor_14 rfl (lv_at hl 5 rfl) ?_
  obtain ⟨z_2, e_3, h⟩ := bds h
  have hPc := hP.sub (ws' := (wX5 cI cS a0 a1 a2 a3 a4 a5 a6 a7 a8 a9 a10 a11 nw kp ad fd tp kn it wd sz nm mv ik td bg en so va iw im st ht)) [0, 1, 2, 3, 4, 5, 6, 7, 8, 9, 10, 11] rfl
  refine kMi (wf' := (wX5 cI cS a0 a1 a2 a3 a4 a5 a6 a7 a8 a9 a10 a11 z_2.2.1 kp z_2.2.2 fd tp kn it wd sz nm mv ik td bg en so va iw im st ht)) [0, 1, 2, 3, 4, 5, 6, 7, 8, 9, 10, 11] [some 0, some 1, some 2, some 3, some 4, some 5, some 6, some 7, some 8, some 9, some 10, some 11] (rV C0 (tX5_waitedWith l D cI cS F a0 a1 a2 a3 a4 a5 a6 a7 a8 a9 a10 a11 nw kp ad fd tp kn it wd sz nm mv ik td bg en so va iw im st ht v1 0 v3 z_2.1 z_2.2.1 z_2.2.2 e_3 (((hD (wX5 cI cS a0 a1 a2 a3 a4 a5 a6 a7 a8 a9 a10 a11 nw kp ad fd tp kn it wd sz nm mv ik td bg en so va iw im st ht) rfl).sub [0, 1, 2, 3, 4, 5, 6, 7, 8, 9, 10, 11] (by decide) rfl).weaken (fun _ _ _ _ => trivial))) RX5 gX5_leastFor_X5_waitedWith rfl ⟨rfl, rfl⟩ pdX5_waitedWith rfl ⟨Nat.le_of_ble_eq_true rfl, Nat.le_of_ble_eq_true rfl⟩ (fun _ _ _ _ q => q) (va_recv hE.1 hPc (ci := 4) (q0 := 0) rfl rfl) (fun U hU _ _ => by rw [hU]; exact hPc) hl.1 rfl (Nat.le_of_ble_eq_true rfl) dX5_leastFor_15 ⟨Nat.zero_le _, Nat.zero_le _⟩) hP (hD _ rfl) hS rfl rfl rfl (fun H locs hP hS => ?_)
  refine lv_istore (lv' := [(6, .int z_2.1), (5, .int 0), (4, .int (nw v1.toNatClampNeg)), (0, .ref a0), (1, .int v1), (2, .int v2), (3, .int v3)]) hx hb dX5_leastFor_18 hl (by decide) rfl (fun ls hl => ?_)
  refine lv_iconst (v := 1) hx hb dX5_leastFor_20 (by decide) ?_
  refine lv_istore (lv' := [(7, .int 1), (6, .int z_2.1), (5, .int 0), (4, .int (nw v1.toNatClampNeg)), (0, .ref a0), (1, .int v1), (2, .int v2), (3, .int v3)]) hx hb dX5_leastFor_21 hl (by decide) rfl (fun ls hl => ?_)
  exact lX5_leastFor_23 (l := l) (e := e) (below := below) C0 F kp fd tp kn it wd sz nm mv ik td bg en so va iw im st ht v1 v2 v3 (nw v1.toNatClampNeg) z0 z1 z2 hD F 0 z_2.1 1 z_2.2.1 z_2.2.2 _ _ hP hS _ (lv_sub hl [4, 5, 6, 7, 3, 2, 1, 0] rfl) h
def fX5_finishFor (F : Nat) (nw : Nat → Int32) (ad : Nat → Int32) (fd : Nat → Int32) (v1 : Int32) (v2 : Int32) : Option (Int32 × (Nat → Int32) × (Nat → Int32) × (Nat → Int32)) := (if (fX5_isPlace v1) = 0 then Option.bind (fX5_finding fd (-1000001)) (fun z_2 => some (z_2.1, nw, ad, z_2.2)) else (if (fX5_isThought v2) = 0 then Option.bind (fX5_finding fd (-1000001)) (fun z_5 => some (z_5.1, nw, ad, z_5.2)) else Option.bind (fX5_leastFor F nw ad (4 + v1) 8 v2) (fun z_7 => some (z_7.1, z_7.2.1, z_7.2.2, fd))))
abbrev rmX5_finishFor : Room := { frames := 10, cells := 0, slots := 0, locals := 229 }
theorem pdX5_finishFor : (yX5_finishFor.cls = RX5 ∧ yX5_finishFor.cls ≠ "java/lang/invoke/MethodHandle" ∧ yX5_finishFor.cls ≠ "java/lang/invoke/VarHandle" ∧ (parseMethodDescriptor yX5_finishFor.desc).map (fun d => d.parameters.length) = some 2) := by decide +kernel
set_option maxHeartbeats 4000000 in
set_option maxRecDepth 100000 in
theorem tX5_finishFor (l : Launch) (D : va_G) (cI cS : ClassId) (F : Nat) (a0 a1 a2 a3 a4 a5 a6 a7 a8 a9 a10 a11 : Nat) (nw : Nat → Int32) (kp : Nat → Int32) (ad : Nat → Int32) (fd : Nat → Int32) (tp : Nat → Int32) (kn : Nat → Option Nat) (it : Nat → Int32) (wd : Nat → Int32) (sz : Nat → Int32) (nm : Nat → Int32) (mv : Nat → Int32) (ik : Int32) (td : Int32) (bg : Int32) (en : Int32) (so : Int32) (va : Int32) (iw : Int32) (im : Int32) (st : Int32) (ht : Int32) (v1 : Int32) (v2 : Int32) (z0 : Int32) (z1 : Nat → Int32) (z2 : Nat → Int32) (z3 : Nat → Int32) (h : fX5_finishFor F nw ad fd v1 v2 = some (z0, z1, z2, z3)) (hD0 : va_D (fun _ => True) (wX5 cI cS a0 a1 a2 a3 a4 a5 a6 a7 a8 a9 a10 a11 nw kp ad fd tp kn it wd sz nm mv ik td bg en so va iw im st ht)) : Met l yX5_finishFor wsX5_finishFor rmX5_finishFor (PZ D cI cS [.ref a0, .int v1, .int v2] (fun U => va_P D vwCl (wX5 cI cS a0 a1 a2 a3 a4 a5 a6 a7 a8 a9 a10 a11 nw kp ad fd tp kn it wd sz nm mv ik td bg en so va iw im st ht) U.heap)) (qI D (wX5 cI cS a0 a1 a2 a3 a4 a5 a6 a7 a8 a9 a10 a11 nw kp ad fd tp kn it wd sz nm mv ik td bg en so va iw im st ht) (wX5 cI cS a0 a1 a2 a3 a4 a5 a6 a7 a8 a9 a10 a11 z1 kp z2 z3 tp kn it wd sz nm mv ik td bg en so va iw im st ht) z0) 0 0 (wA (wX5 cI cS a0 a1 a2 a3 a4 a5 a6 a7 a8 a9 a10 a11 nw kp ad fd tp kn it wd sz nm mv ik td bg en so va iw im st ht)) := by
  refine Met.mk RX5 (by decide) rfl rfl (Nat.le_of_ble_eq_true rfl) ?_
  intro p e s m below meth c ls C0 hP hl
  have hl : lv_has ls 3 [(0, .ref a0), (1, .int v1), (2, .int v2)] := hl
  obtain ⟨hx, hb, hr, hml, hown, hts, hlk, hE⟩ := id C0
  have hD : ∀ W : va_W, W.map Prod.fst = [a0, a1, a2, a3, a4, a5, a6, a7, a8, a9, a10, a11] → va_D (wA (wX5 cI cS a0 a1 a2 a3 a4 a5 a6 a7 a8 a9 a10 a11 nw kp ad fd tp kn it wd sz nm mv ik td bg en so va iw im st ht)) W := fun W hW => hD0.own.re hW
  have hS : va_S (wA (wX5 cI cS a0 a1 a2 a3 a4 a5 a6 a7 a8 a9 a10 a11 nw kp ad fd tp kn it wd sz nm mv ik td bg en so va iw im st ht)) s.heap s.heap [] := va_S.rf
  have hP : va_P D vwCl (wX5 cI cS a0 a1 a2 a3 a4 a5 a6 a7 a8 a9 a10 a11 nw kp ad fd tp kn it wd sz nm mv ik td bg en so va iw im st ht) s.heap := hP
  rw [fX5_finishFor] at h
  refine lv_iload_n hx hb dX5_finishFor_0 rfl (lv_at hl 1 rfl) ?_
  refine kRi (rS C0 (tX5_isPlace l D cI cS v1 (fX5_isPlace v1) rfl) gX5_finishFor_X5_isPlace rfl ⟨rfl, rfl⟩ pdX5_isPlace rfl ⟨Nat.le_of_ble_eq_true rfl, Nat.le_of_ble_eq_true rfl⟩ (fun _ _ _ _ q => q) (fun _ _ _ _ => vp0) hl.1 rfl (Nat.le_of_ble_eq_true rfl) dX5_finishFor_1 ⟨Nat.zero_le _, Nat.zero_le _⟩) ?_
  refine lv_if_eq (tgt := 27) hx hb dX5_finishFor_4 (by decide) (fun c_1 => ?_) (fun c_1 => ?_)
  · have h := ifp c_1 h
    refine lv_aload_n hx hb dX5_finishFor_27 rfl (lv_at hl 0 rfl) ?_
    refine lv_ldc (v := (-1000001)) hx hb hown (hts _ (List.mem_of_getElem? (i := 1) rfl)) dX5_finishFor_28 ?_
    obtain ⟨z_2, e_3, h⟩ := bds h
    have hPc := hP.sub (ws' := (wX5 cI cS a0 a1 a2 a3 a4 a5 a6 a7 a8 a9 a10 a11 nw kp ad fd tp kn it wd sz nm mv ik td bg en so va iw im st ht)) [0, 1, 2, 3, 4, 5, 6, 7, 8, 9, 10, 11] rfl
    refine kMi (wf' := (wX5 cI cS a0 a1 a2 a3 a4 a5 a6 a7 a8 a9 a10 a11 nw kp ad z_2.2 tp kn it wd sz nm mv ik td bg en so va iw im st ht)) [0, 1, 2, 3, 4, 5, 6, 7, 8, 9, 10, 11] [some 0, some 1, some 2, some 3, some 4, some 5, some 6, some 7, some 8, some 9, some 10, some 11] (rV C0 (tX5_finding l D cI cS a0 a1 a2 a3 a4 a5 a6 a7 a8 a9 a10 a11 nw kp ad fd tp kn it wd sz nm mv ik td bg en so va iw im st ht (-1000001) z_2.1 z_2.2 e_3 (((hD (wX5 cI cS a0 a1 a2 a3 a4 a5 a6 a7 a8 a9 a10 a11 nw kp ad fd tp kn it wd sz nm mv ik td bg en so va iw im st ht) rfl).sub [0, 1, 2, 3, 4, 5, 6, 7, 8, 9, 10, 11] (by decide) rfl).weaken (fun _ _ _ _ => trivial))) RX5 gX5_finishFor_X5_finding rfl ⟨rfl, rfl⟩ pdX5_finding rfl ⟨Nat.le_of_ble_eq_true rfl, Nat.le_of_ble_eq_true rfl⟩ (fun _ _ _ _ q => q) (va_recv hE.1 hPc (ci := 4) (q0 := 0) rfl rfl) (fun U hU _ _ => by rw [hU]; exact hPc) hl.1 rfl (Nat.le_of_ble_eq_true rfl) dX5_finishFor_30 ⟨Nat.zero_le _, Nat.zero_le _⟩) hP (hD _ rfl) hS rfl rfl rfl (fun H locs hP hS => ?_)
    obtain ⟨q0, g0⟩ := Prod.mk.inj (Option.some.inj h)
    obtain ⟨q1, g1⟩ := Prod.mk.inj g0
    obtain ⟨q2, q3⟩ := Prod.mk.inj g1
    subst q0 q1 q2 q3
    exact eMi C0 hP hS rfl rfl dX5_finishFor_33
  · have h := ifn c_1 h
    refine lv_iload_n hx hb dX5_finishFor_7 rfl (lv_at hl 2 rfl) ?_
    refine kRi (rS C0 (tX5_isThought l D cI cS v2 (fX5_isThought v2) rfl) gX5_finishFor_X5_isThought rfl ⟨rfl, rfl⟩ pdX5_isThought rfl ⟨Nat.le_of_ble_eq_true rfl, Nat.le_of_ble_eq_true rfl⟩ (fun _ _ _ _ q => q) (fun _ _ _ _ => vp0) hl.1 rfl (Nat.le_of_ble_eq_true rfl) dX5_finishFor_8 ⟨Nat.zero_le _, Nat.zero_le _⟩) ?_
    refine lv_if_eq (tgt := 27) hx hb dX5_finishFor_11 (by decide) (fun c_4 => ?_) (fun c_4 => ?_)
    · have h := ifp c_4 h
      refine lv_aload_n hx hb dX5_finishFor_27 rfl (lv_at hl 0 rfl) ?_
      refine lv_ldc (v := (-1000001)) hx hb hown (hts _ (List.mem_of_getElem? (i := 1) rfl)) dX5_finishFor_28 ?_
      obtain ⟨z_5, e_6, h⟩ := bds h
      have hPc := hP.sub (ws' := (wX5 cI cS a0 a1 a2 a3 a4 a5 a6 a7 a8 a9 a10 a11 nw kp ad fd tp kn it wd sz nm mv ik td bg en so va iw im st ht)) [0, 1, 2, 3, 4, 5, 6, 7, 8, 9, 10, 11] rfl
      refine kMi (wf' := (wX5 cI cS a0 a1 a2 a3 a4 a5 a6 a7 a8 a9 a10 a11 nw kp ad z_5.2 tp kn it wd sz nm mv ik td bg en so va iw im st ht)) [0, 1, 2, 3, 4, 5, 6, 7, 8, 9, 10, 11] [some 0, some 1, some 2, some 3, some 4, some 5, some 6, some 7, some 8, some 9, some 10, some 11] (rV C0 (tX5_finding l D cI cS a0 a1 a2 a3 a4 a5 a6 a7 a8 a9 a10 a11 nw kp ad fd tp kn it wd sz nm mv ik td bg en so va iw im st ht (-1000001) z_5.1 z_5.2 e_6 (((hD (wX5 cI cS a0 a1 a2 a3 a4 a5 a6 a7 a8 a9 a10 a11 nw kp ad fd tp kn it wd sz nm mv ik td bg en so va iw im st ht) rfl).sub [0, 1, 2, 3, 4, 5, 6, 7, 8, 9, 10, 11] (by decide) rfl).weaken (fun _ _ _ _ => trivial))) RX5 gX5_finishFor_X5_finding rfl ⟨rfl, rfl⟩ pdX5_finding rfl ⟨Nat.le_of_ble_eq_true rfl, Nat.le_of_ble_eq_true rfl⟩ (fun _ _ _ _ q => q) (va_recv hE.1 hPc (ci := 4) (q0 := 0) rfl rfl) (fun U hU _ _ => by rw [hU]; exact hPc) hl.1 rfl (Nat.le_of_ble_eq_true rfl) dX5_finishFor_30 ⟨Nat.zero_le _, Nat.zero_le _⟩) hP (hD _ rfl) hS rfl rfl rfl (fun H locs hP hS => ?_)
      obtain ⟨q0, g0⟩ := Prod.mk.inj (Option.some.inj h)
      obtain ⟨q1, g1⟩ := Prod.mk.inj g0
      obtain ⟨q2, q3⟩ := Prod.mk.inj g1
      subst q0 q1 q2 q3
      exact eMi C0 hP hS rfl rfl dX5_finishFor_33
    · have h := ifn c_4 h
      refine lv_aload_n hx hb dX5_finishFor_14 rfl (lv_at hl 0 rfl) ?_
      refine lv_iconst (v := 4) hx hb dX5_finishFor_15 (by decide) ?_
      refine lv_iload_n hx hb dX5_finishFor_16 rfl (lv_at hl 1 rfl) ?_
      refine lv_iadd hx hb dX5_finishFor_17 ?_
      refine lv_bipush (v := 8) hx hb dX5_finishFor_18 (by decide) ?_
      refine lv_iload_n hx hb dX5_finishFor_20 rfl (lv_at hl 2 rfl) ?_
      obtain ⟨z_7, e_8, h⟩ := bds h
      have hPc := hP.sub (ws' := (wX5 cI cS a0 a1 a2 a3 a4 a5 a6 a7 a8 a9 a10 a11 nw kp ad fd tp kn it wd sz nm mv ik td bg en so va iw im st ht)) [0, 1, 2, 3, 4, 5, 6, 7, 8, 9, 10, 11] rfl
      refine kMi (wf' := (wX5 cI cS a0 a1 a2 a3 a4 a5 a6 a7 a8 a9 a10 a11 z_7.2.1 kp z_7.2.2 fd tp kn it wd sz nm mv ik td bg en so va iw im st ht)) [0, 1, 2, 3, 4, 5, 6, 7, 8, 9, 10, 11] [some 0, some 1, some 2, some 3, some 4, some 5, some 6, some 7, some 8, some 9, some 10, some 11] (rV C0 (tX5_leastFor l D cI cS F a0 a1 a2 a3 a4 a5 a6 a7 a8 a9 a10 a11 nw kp ad fd tp kn it wd sz nm mv ik td bg en so va iw im st ht (4 + v1) 8 v2 z_7.1 z_7.2.1 z_7.2.2 e_8 (((hD (wX5 cI cS a0 a1 a2 a3 a4 a5 a6 a7 a8 a9 a10 a11 nw kp ad fd tp kn it wd sz nm mv ik td bg en so va iw im st ht) rfl).sub [0, 1, 2, 3, 4, 5, 6, 7, 8, 9, 10, 11] (by decide) rfl).weaken (fun _ _ _ _ => trivial))) RX5 gX5_finishFor_X5_leastFor rfl ⟨rfl, rfl⟩ pdX5_leastFor rfl ⟨Nat.le_of_ble_eq_true rfl, Nat.le_of_ble_eq_true rfl⟩ (fun _ _ _ _ q => q) (va_recv hE.1 hPc (ci := 4) (q0 := 0) rfl rfl) (fun U hU _ _ => by rw [hU]; exact hPc) hl.1 rfl (Nat.le_of_ble_eq_true rfl) dX5_finishFor_21 ⟨Nat.zero_le _, Nat.zero_le _⟩) hP (hD _ rfl) hS rfl rfl rfl (fun H locs hP hS => ?_)
      refine lv_goto (tgt := 33) hx hb dX5_finishFor_24 (by decide) ?_
      obtain ⟨q0, g0⟩ := Prod.mk.inj (Option.some.inj h)
      obtain ⟨q1, g1⟩ := Prod.mk.inj g0
      obtain ⟨q2, q3⟩ := Prod.mk.inj g1
      subst q0 q1 q2 q3
      exact eMi C0 hP hS rfl rfl dX5_finishFor_33
def fX5_kindFor (F : Nat) (nw : Nat → Int32) (ad : Nat → Int32) (fd : Nat → Int32) (v1 : Int32) (v2 : Int32) : Option (Int32 × (Nat → Int32) × (Nat → Int32) × (Nat → Int32)) := (if (fX5_isSaying nw v1) = 0 then Option.bind (fX5_finding fd (-1000001)) (fun z_2 => some (z_2.1, nw, ad, z_2.2)) else (if (fX5_isThought v2) = 0 then Option.bind (fX5_finding fd (-1000001)) (fun z_5 => some (z_5.1, nw, ad, z_5.2)) else Option.bind (fX5_leastFor F nw ad (fX5_sayingAt v1 0) 6 v2) (fun z_7 => some (z_7.1, z_7.2.1, z_7.2.2, fd))))
abbrev rmX5_kindFor : Room := { frames := 10, cells := 0, slots := 0, locals := 229 }
theorem pdX5_kindFor : (yX5_kindFor.cls = RX5 ∧ yX5_kindFor.cls ≠ "java/lang/invoke/MethodHandle" ∧ yX5_kindFor.cls ≠ "java/lang/invoke/VarHandle" ∧ (parseMethodDescriptor yX5_kindFor.desc).map (fun d => d.parameters.length) = some 2) := by decide +kernel
set_option maxHeartbeats 4000000 in
set_option maxRecDepth 100000 in
theorem tX5_kindFor (l : Launch) (D : va_G) (cI cS : ClassId) (F : Nat) (a0 a1 a2 a3 a4 a5 a6 a7 a8 a9 a10 a11 : Nat) (nw : Nat → Int32) (kp : Nat → Int32) (ad : Nat → Int32) (fd : Nat → Int32) (tp : Nat → Int32) (kn : Nat → Option Nat) (it : Nat → Int32) (wd : Nat → Int32) (sz : Nat → Int32) (nm : Nat → Int32) (mv : Nat → Int32) (ik : Int32) (td : Int32) (bg : Int32) (en : Int32) (so : Int32) (va : Int32) (iw : Int32) (im : Int32) (st : Int32) (ht : Int32) (v1 : Int32) (v2 : Int32) (z0 : Int32) (z1 : Nat → Int32) (z2 : Nat → Int32) (z3 : Nat → Int32) (h : fX5_kindFor F nw ad fd v1 v2 = some (z0, z1, z2, z3)) (hD0 : va_D (fun _ => True) (wX5 cI cS a0 a1 a2 a3 a4 a5 a6 a7 a8 a9 a10 a11 nw kp ad fd tp kn it wd sz nm mv ik td bg en so va iw im st ht)) : Met l yX5_kindFor wsX5_kindFor rmX5_kindFor (PZ D cI cS [.ref a0, .int v1, .int v2] (fun U => va_P D vwCl (wX5 cI cS a0 a1 a2 a3 a4 a5 a6 a7 a8 a9 a10 a11 nw kp ad fd tp kn it wd sz nm mv ik td bg en so va iw im st ht) U.heap)) (qI D (wX5 cI cS a0 a1 a2 a3 a4 a5 a6 a7 a8 a9 a10 a11 nw kp ad fd tp kn it wd sz nm mv ik td bg en so va iw im st ht) (wX5 cI cS a0 a1 a2 a3 a4 a5 a6 a7 a8 a9 a10 a11 z1 kp z2 z3 tp kn it wd sz nm mv ik td bg en so va iw im st ht) z0) 0 0 (wA (wX5 cI cS a0 a1 a2 a3 a4 a5 a6 a7 a8 a9 a10 a11 nw kp ad fd tp kn it wd sz nm mv ik td bg en so va iw im st ht)) := by
  refine Met.mk RX5 (by decide) rfl rfl (Nat.le_of_ble_eq_true rfl) ?_
  intro p e s m below meth c ls C0 hP hl
  have hl : lv_has ls 3 [(0, .ref a0), (1, .int v1), (2, .int v2)] := hl
  obtain ⟨hx, hb, hr, hml, hown, hts, hlk, hE⟩ := id C0
  have hD : ∀ W : va_W, W.map Prod.fst = [a0, a1, a2, a3, a4, a5, a6, a7, a8, a9, a10, a11] → va_D (wA (wX5 cI cS a0 a1 a2 a3 a4 a5 a6 a7 a8 a9 a10 a11 nw kp ad fd tp kn it wd sz nm mv ik td bg en so va iw im st ht)) W := fun W hW => hD0.own.re hW
  have hS : va_S (wA (wX5 cI cS a0 a1 a2 a3 a4 a5 a6 a7 a8 a9 a10 a11 nw kp ad fd tp kn it wd sz nm mv ik td bg en so va iw im st ht)) s.heap s.heap [] := va_S.rf
  have hP : va_P D vwCl (wX5 cI cS a0 a1 a2 a3 a4 a5 a6 a7 a8 a9 a10 a11 nw kp ad fd tp kn it wd sz nm mv ik td bg en so va iw im st ht) s.heap := hP
  rw [fX5_kindFor] at h
  refine lv_aload_n hx hb dX5_kindFor_0 rfl (lv_at hl 0 rfl) ?_
  refine lv_iload_n hx hb dX5_kindFor_1 rfl (lv_at hl 1 rfl) ?_
  have hPc := hP.sub (ws' := (wX5 cI cS a0 a1 a2 a3 a4 a5 a6 a7 a8 a9 a10 a11 nw kp ad fd tp kn it wd sz nm mv ik td bg en so va iw im st ht)) [0, 1, 2, 3, 4, 5, 6, 7, 8, 9, 10, 11] rfl
  refine kRi (rV C0 (tX5_isSaying l D cI cS a0 a1 a2 a3 a4 a5 a6 a7 a8 a9 a10 a11 nw kp ad fd tp kn it wd sz nm mv ik td bg en so va iw im st ht v1 (fX5_isSaying nw v1) rfl) RX5 gX5_kindFor_X5_isSaying rfl ⟨rfl, rfl⟩ pdX5_isSaying rfl ⟨Nat.le_of_ble_eq_true rfl, Nat.le_of_ble_eq_true rfl⟩ (fun _ _ _ _ q => q) (va_recv hE.1 hPc (ci := 4) (q0 := 0) rfl rfl) (fun U hU _ _ => by rw [hU]; exact hPc) hl.1 rfl (Nat.le_of_ble_eq_true rfl) dX5_kindFor_2 ⟨Nat.zero_le _, Nat.zero_le _⟩) ?_
  refine lv_if_eq (tgt := 30) hx hb dX5_kindFor_5 (by decide) (fun c_1 => ?_) (fun c_1 => ?_)
  · have h := ifp c_1 h
    refine lv_aload_n hx hb dX5_kindFor_30 rfl (lv_at hl 0 rfl) ?_
    refine lv_ldc (v := (-1000001)) hx hb hown (hts _ (List.mem_of_getElem? (i := 1) rfl)) dX5_kindFor_31 ?_
    obtain ⟨z_2, e_3, h⟩ := bds h
    have hPc := hP.sub (ws' := (wX5 cI cS a0 a1 a2 a3 a4 a5 a6 a7 a8 a9 a10 a11 nw kp ad fd tp kn it wd sz nm mv ik td bg en so va iw im st ht)) [0, 1, 2, 3, 4, 5, 6, 7, 8, 9, 10, 11] rfl
    refine kMi (wf' := (wX5 cI cS a0 a1 a2 a3 a4 a5 a6 a7 a8 a9 a10 a11 nw kp ad z_2.2 tp kn it wd sz nm mv ik td bg en so va iw im st ht)) [0, 1, 2, 3, 4, 5, 6, 7, 8, 9, 10, 11] [some 0, some 1, some 2, some 3, some 4, some 5, some 6, some 7, some 8, some 9, some 10, some 11] (rV C0 (tX5_finding l D cI cS a0 a1 a2 a3 a4 a5 a6 a7 a8 a9 a10 a11 nw kp ad fd tp kn it wd sz nm mv ik td bg en so va iw im st ht (-1000001) z_2.1 z_2.2 e_3 (((hD (wX5 cI cS a0 a1 a2 a3 a4 a5 a6 a7 a8 a9 a10 a11 nw kp ad fd tp kn it wd sz nm mv ik td bg en so va iw im st ht) rfl).sub [0, 1, 2, 3, 4, 5, 6, 7, 8, 9, 10, 11] (by decide) rfl).weaken (fun _ _ _ _ => trivial))) RX5 gX5_kindFor_X5_finding rfl ⟨rfl, rfl⟩ pdX5_finding rfl ⟨Nat.le_of_ble_eq_true rfl, Nat.le_of_ble_eq_true rfl⟩ (fun _ _ _ _ q => q) (va_recv hE.1 hPc (ci := 4) (q0 := 0) rfl rfl) (fun U hU _ _ => by rw [hU]; exact hPc) hl.1 rfl (Nat.le_of_ble_eq_true rfl) dX5_kindFor_33 ⟨Nat.zero_le _, Nat.zero_le _⟩) hP (hD _ rfl) hS rfl rfl rfl (fun H locs hP hS => ?_)
    obtain ⟨q0, g0⟩ := Prod.mk.inj (Option.some.inj h)
    obtain ⟨q1, g1⟩ := Prod.mk.inj g0
    obtain ⟨q2, q3⟩ := Prod.mk.inj g1
    subst q0 q1 q2 q3
    exact eMi C0 hP hS rfl rfl dX5_kindFor_36
  · have h := ifn c_1 h
    refine lv_iload_n hx hb dX5_kindFor_8 rfl (lv_at hl 2 rfl) ?_
    refine kRi (rS C0 (tX5_isThought l D cI cS v2 (fX5_isThought v2) rfl) gX5_kindFor_X5_isThought rfl ⟨rfl, rfl⟩ pdX5_isThought rfl ⟨Nat.le_of_ble_eq_true rfl, Nat.le_of_ble_eq_true rfl⟩ (fun _ _ _ _ q => q) (fun _ _ _ _ => vp0) hl.1 rfl (Nat.le_of_ble_eq_true rfl) dX5_kindFor_9 ⟨Nat.zero_le _, Nat.zero_le _⟩) ?_
    refine lv_if_eq (tgt := 30) hx hb dX5_kindFor_12 (by decide) (fun c_4 => ?_) (fun c_4 => ?_)
    · have h := ifp c_4 h
      refine lv_aload_n hx hb dX5_kindFor_30 rfl (lv_at hl 0 rfl) ?_
      refine lv_ldc (v := (-1000001)) hx hb hown (hts _ (List.mem_of_getElem? (i := 1) rfl)) dX5_kindFor_31 ?_
      obtain ⟨z_5, e_6, h⟩ := bds h
      have hPc := hP.sub (ws' := (wX5 cI cS a0 a1 a2 a3 a4 a5 a6 a7 a8 a9 a10 a11 nw kp ad fd tp kn it wd sz nm mv ik td bg en so va iw im st ht)) [0, 1, 2, 3, 4, 5, 6, 7, 8, 9, 10, 11] rfl
      refine kMi (wf' := (wX5 cI cS a0 a1 a2 a3 a4 a5 a6 a7 a8 a9 a10 a11 nw kp ad z_5.2 tp kn it wd sz nm mv ik td bg en so va iw im st ht)) [0, 1, 2, 3, 4, 5, 6, 7, 8, 9, 10, 11] [some 0, some 1, some 2, some 3, some 4, some 5, some 6, some 7, some 8, some 9, some 10, some 11] (rV C0 (tX5_finding l D cI cS a0 a1 a2 a3 a4 a5 a6 a7 a8 a9 a10 a11 nw kp ad fd tp kn it wd sz nm mv ik td bg en so va iw im st ht (-1000001) z_5.1 z_5.2 e_6 (((hD (wX5 cI cS a0 a1 a2 a3 a4 a5 a6 a7 a8 a9 a10 a11 nw kp ad fd tp kn it wd sz nm mv ik td bg en so va iw im st ht) rfl).sub [0, 1, 2, 3, 4, 5, 6, 7, 8, 9, 10, 11] (by decide) rfl).weaken (fun _ _ _ _ => trivial))) RX5 gX5_kindFor_X5_finding rfl ⟨rfl, rfl⟩ pdX5_finding rfl ⟨Nat.le_of_ble_eq_true rfl, Nat.le_of_ble_eq_true rfl⟩ (fun _ _ _ _ q => q) (va_recv hE.1 hPc (ci := 4) (q0 := 0) rfl rfl) (fun U hU _ _ => by rw [hU]; exact hPc) hl.1 rfl (Nat.le_of_ble_eq_true rfl) dX5_kindFor_33 ⟨Nat.zero_le _, Nat.zero_le _⟩) hP (hD _ rfl) hS rfl rfl rfl (fun H locs hP hS => ?_)
      obtain ⟨q0, g0⟩ := Prod.mk.inj (Option.some.inj h)
      obtain ⟨q1, g1⟩ := Prod.mk.inj g0
      obtain ⟨q2, q3⟩ := Prod.mk.inj g1
      subst q0 q1 q2 q3
      exact eMi C0 hP hS rfl rfl dX5_kindFor_36
    · have h := ifn c_4 h
      refine lv_aload_n hx hb dX5_kindFor_15 rfl (lv_at hl 0 rfl) ?_
      refine lv_iload_n hx hb dX5_kindFor_16 rfl (lv_at hl 1 rfl) ?_
      refine lv_iconst (v := 0) hx hb dX5_kindFor_17 (by decide) ?_
      refine kRi (rS C0 (tX5_sayingAt l D cI cS v1 0 (fX5_sayingAt v1 0) rfl) gX5_kindFor_X5_sayingAt rfl ⟨rfl, rfl⟩ pdX5_sayingAt rfl ⟨Nat.le_of_ble_eq_true rfl, Nat.le_of_ble_eq_true rfl⟩ (fun _ _ _ _ q => q) (fun _ _ _ _ => vp0) hl.1 rfl (Nat.le_of_ble_eq_true rfl) dX5_kindFor_18 ⟨Nat.zero_le _, Nat.zero_le _⟩) ?_
      refine lv_bipush (v := 6) hx hb dX5_kindFor_21 (by decide) ?_
      refine lv_iload_n hx hb dX5_kindFor_23 rfl (lv_at hl 2 rfl) ?_
      obtain ⟨z_7, e_8, h⟩ := bds h
      have hPc := hP.sub (ws' := (wX5 cI cS a0 a1 a2 a3 a4 a5 a6 a7 a8 a9 a10 a11 nw kp ad fd tp kn it wd sz nm mv ik td bg en so va iw im st ht)) [0, 1, 2, 3, 4, 5, 6, 7, 8, 9, 10, 11] rfl
      refine kMi (wf' := (wX5 cI cS a0 a1 a2 a3 a4 a5 a6 a7 a8 a9 a10 a11 z_7.2.1 kp z_7.2.2 fd tp kn it wd sz nm mv ik td bg en so va iw im st ht)) [0, 1, 2, 3, 4, 5, 6, 7, 8, 9, 10, 11] [some 0, some 1, some 2, some 3, some 4, some 5, some 6, some 7, some 8, some 9, some 10, some 11] (rV C0 (tX5_leastFor l D cI cS F a0 a1 a2 a3 a4 a5 a6 a7 a8 a9 a10 a11 nw kp ad fd tp kn it wd sz nm mv ik td bg en so va iw im st ht (fX5_sayingAt v1 0) 6 v2 z_7.1 z_7.2.1 z_7.2.2 e_8 (((hD (wX5 cI cS a0 a1 a2 a3 a4 a5 a6 a7 a8 a9 a10 a11 nw kp ad fd tp kn it wd sz nm mv ik td bg en so va iw im st ht) rfl).sub [0, 1, 2, 3, 4, 5, 6, 7, 8, 9, 10, 11] (by decide) rfl).weaken (fun _ _ _ _ => trivial))) RX5 gX5_kindFor_X5_leastFor rfl ⟨rfl, rfl⟩ pdX5_leastFor rfl ⟨Nat.le_of_ble_eq_true rfl, Nat.le_of_ble_eq_true rfl⟩ (fun _ _ _ _ q => q) (va_recv hE.1 hPc (ci := 4) (q0 := 0) rfl rfl) (fun U hU _ _ => by rw [hU]; exact hPc) hl.1 rfl (Nat.le_of_ble_eq_true rfl) dX5_kindFor_24 ⟨Nat.zero_le _, Nat.zero_le _⟩) hP (hD _ rfl) hS rfl rfl rfl (fun H locs hP hS => ?_)
      refine lv_goto (tgt := 36) hx hb dX5_kindFor_27 (by decide) ?_
      obtain ⟨q0, g0⟩ := Prod.mk.inj (Option.some.inj h)
      obtain ⟨q1, g1⟩ := Prod.mk.inj g0
      obtain ⟨q2, q3⟩ := Prod.mk.inj g1
      subst q0 q1 q2 q3
      exact eMi C0 hP hS rfl rfl dX5_kindFor_36
def fX5_landsWith_22 (F : Nat) (v1 : Int32) (v4 : Int32) (v5 : Int32) (v6 : Int32) (v7 : Int32) : Nat → Int32 → Int32 → (Nat → Int32) → (Nat → Int32) → Option (Int32 × (Nat → Int32) × (Nat → Int32))
  | 0, _, _, _, _ => none
  | n + 1, v8, v9, nw, ad => (if v4 < v9 then if ¬ (v6 < 0 ∨ 84 ≤ v6.toNatClampNeg) then some (v8, upd nw v6.toNatClampNeg v7, ad) else none else (if 0 ≤ v8 then if ¬ (v6 < 0 ∨ 84 ≤ v6.toNatClampNeg) then some (v8, upd nw v6.toNatClampNeg v7, ad) else none else if ¬ (v6 < 0 ∨ 84 ≤ v6.toNatClampNeg) then Option.bind (fX5_behind F (upd nw v6.toNatClampNeg v9) ad (fX5_shipAt v1 0) v5) (fun z_7 => (if z_7.1 = 15 then fX5_landsWith_22 F v1 v4 v5 v6 v7 n v9 (v9 + 1) z_7.2.1 z_7.2.2 else fX5_landsWith_22 F v1 v4 v5 v6 v7 n (-1) (v9 + 1) z_7.2.1 z_7.2.2)) else none))
def fX5_landsWith (F : Nat) (nw : Nat → Int32) (ad : Nat → Int32) (v1 : Int32) (v2 : Int32) (v3 : Int32) (v4 : Int32) (v5 : Int32) : Option (Int32 × (Nat → Int32) × (Nat → Int32)) := if ¬ ((fX5_shipAt v1 v2) < 0 ∨ 84 ≤ (fX5_shipAt v1 v2).toNatClampNeg) then fX5_landsWith_22 F v1 v4 v5 (fX5_shipAt v1 v2) (nw (fX5_shipAt v1 v2).toNatClampNeg) F (-1) v3 nw ad else none
abbrev rmX5_landsWith : Room := { frames := 8, cells := 0, slots := 0, locals := 179 }
theorem pdX5_landsWith : (yX5_landsWith.cls = RX5 ∧ yX5_landsWith.cls ≠ "java/lang/invoke/MethodHandle" ∧ yX5_landsWith.cls ≠ "java/lang/invoke/VarHandle" ∧ (parseMethodDescriptor yX5_landsWith.desc).map (fun d => d.parameters.length) = some 5) := by decide +kernel
set_option maxHeartbeats 4000000 in
set_option maxRecDepth 100000 in
theorem lX5_landsWith_22 {p : Program} {l : Launch} {e : Env} {s : State} {m : MethodId} {av : Array Value} {below : List Frame} {meth : Method} {c : Code} {D : va_G} {cI cS : ClassId} {a0 a1 a2 a3 a4 a5 a6 a7 a8 a9 a10 a11 : Nat} {W0 : va_W} (C0 : CX p s m av meth c RX5 cX5_landsWith 10 (some .int) wsX5_landsWith D cI cS) (F : Nat) (kp : Nat → Int32) (fd : Nat → Int32) (tp : Nat → Int32) (kn : Nat → Option Nat) (it : Nat → Int32) (wd : Nat → Int32) (sz : Nat → Int32) (nm : Nat → Int32) (mv : Nat → Int32) (ik : Int32) (td : Int32) (bg : Int32) (en : Int32) (so : Int32) (va : Int32) (iw : Int32) (im : Int32) (st : Int32) (ht : Int32) (v1 : Int32) (v4 : Int32) (v5 : Int32) (v6 : Int32) (v7 : Int32) (z0 : Int32) (z1 : Nat → Int32) (z2 : Nat → Int32) (hD : ∀ W : va_W, W.map Prod.fst = [a0, a1, a2, a3, a4, a5, a6, a7, a8, a9, a10, a11] → va_D (wA W0) W) : ∀ (n : Nat) (v8 : Int32) (v9 : Int32) (nw : Nat → Int32) (ad : Nat → Int32) (H : Heap) (locs : List Loc), va_P D vwCl (wX5 cI cS a0 a1 a2 a3 a4 a5 a6 a7 a8 a9 a10 a11 nw kp ad fd tp kn it wd sz nm mv ik td bg en so va iw im st ht) H → va_S (wA W0) s.heap H locs → ∀ (ls : Array Slot), lv_has ls 10 [(0, .ref a0), (1, .int v1), (4, .int v4), (5, .int v5), (6, .int v6), (7, .int v7), (8, .int v8), (9, .int v9)] → fX5_landsWith_22 F v1 v4 v5 v6 v7 n v8 v9 nw ad = some (z0, z1, z2) → W p l e rmX5_landsWith s m av below meth c H locs 0 0 (MQ below (qI D W0 (wX5 cI cS a0 a1 a2 a3 a4 a5 a6 a7 a8 a9 a10 a11 z1 kp z2 fd tp kn it wd sz nm mv ik td bg en so va iw im st ht) z0) av s 0 0 (wA W0)) (F0 m 22 ls []) := by
  obtain ⟨hx, hb, hr, hml, hown, hts, hlk, hE⟩ := id C0
  have hinX5 : ∀ w ∈ u_ws RX5 TX5 21, w ∈ wsX5_landsWith := by decide +kernel
  intro n
  induction n with
  | zero =>
    intro v8 v9 nw ad H locs hP hS ls hl h
    cases (show none = some (z0, z1, z2) from h)
  | succ n ih =>
    intro v8 v9 nw ad H locs hP hS ls hl h
    rw [fX5_landsWith_22] at h
    refine lv_iload hx hb dX5_landsWith_22 (lv_at hl 7 rfl) ?_
    refine lv_iload hx hb dX5_landsWith_24 (lv_at hl 2 rfl) ?_
    refine lv_icmp_gt (tgt := 73) hx hb dX5_landsWith_26 (by decide) (fun c_2 => ?_) (fun c_2 => ?_)
    · have h := ifp c_2 h
      refine lv_aload_n hx hb dX5_landsWith_73 rfl (lv_at hl 0 rfl) ?_
      refine va_get (D := D) (ci := 4) (v := .ref a1) (C := RX5) (T := TX5) (N := 21) hx hb hts hinX5 hown hE.1 hP 0 rfl rfl 0 (by decide) (hts _ (List.mem_of_getElem? (i := 1) rfl)) (fun _ h9 => h9) rfl dX5_landsWith_74 ?_
      refine lv_iload hx hb dX5_landsWith_77 (lv_at hl 4 rfl) ?_
      refine lv_iload hx hb dX5_landsWith_79 (lv_at hl 5 rfl) ?_
      obtain ⟨hi_3, h⟩ := ifs h
      refine va_iast hx hb hE.1 hP (hD _ rfl) hS 1 0 rfl rfl hi_3 dX5_landsWith_81 (fun H locs hP _ hS => ?_)
      have hP : va_P D vwCl (wX5 cI cS a0 a1 a2 a3 a4 a5 a6 a7 a8 a9 a10 a11 (upd nw v6.toNatClampNeg v7) kp ad fd tp kn it wd sz nm mv ik td bg en so va iw im st ht) H := hP
      refine lv_iload hx hb dX5_landsWith_82 (lv_at hl 6 rfl) ?_
      obtain ⟨q0, g0⟩ := Prod.mk.inj (Option.some.inj h)
      obtain ⟨q1, q2⟩ := Prod.mk.inj g0
      subst q0 q1 q2
      exact eMi C0 hP hS rfl rfl dX5_landsWith_84
    · have h := ifn c_2 h
      refine lv_iload hx hb dX5_landsWith_29 (lv_at hl 6 rfl) ?_
      refine lv_if_ge (tgt := 73) hx hb dX5_landsWith_31 (by decide) (fun c_4 => ?_) (fun c_4 => ?_)
      · have h := ifp c_4 h
        refine lv_aload_n hx hb dX5_landsWith_73 rfl (lv_at hl 0 rfl) ?_
        refine va_get (D := D) (ci := 4) (v := .ref a1) (C := RX5) (T := TX5) (N := 21) hx hb hts hinX5 hown hE.1 hP 0 rfl rfl 0 (by decide) (hts _ (List.mem_of_getElem? (i := 1) rfl)) (fun _ h9 => h9) rfl dX5_landsWith_74 ?_
        refine lv_iload hx hb dX5_landsWith_77 (lv_at hl 4 rfl) ?_
        refine lv_iload hx hb dX5_landsWith_79 (lv_at hl 5 rfl) ?_
        obtain ⟨hi_5, h⟩ := ifs h
        refine va_iast hx hb hE.1 hP (hD _ rfl) hS 1 0 rfl rfl hi_5 dX5_landsWith_81 (fun H locs hP _ hS => ?_)
        have hP : va_P D vwCl (wX5 cI cS a0 a1 a2 a3 a4 a5 a6 a7 a8 a9 a10 a11 (upd nw v6.toNatClampNeg v7) kp ad fd tp kn it wd sz nm mv ik td bg en so va iw im st ht) H := hP
        refine lv_iload hx hb dX5_landsWith_82 (lv_at hl 6 rfl) ?_
        obtain ⟨q0, g0⟩ := Prod.mk.inj (Option.some.inj h)
        obtain ⟨q1, q2⟩ := Prod.mk.inj g0
        subst q0 q1 q2
        exact eMi C0 hP hS rfl rfl dX5_landsWith_84
      · have h := ifn c_4 h
        refine lv_aload_n hx hb dX5_landsWith_34 rfl (lv_at hl 0 rfl) ?_
        refine va_get (D := D) (ci := 4) (v := .ref a1) (C := RX5) (T := TX5) (N := 21) hx hb hts hinX5 hown hE.1 hP 0 rfl rfl 0 (by decide) (hts _ (List.mem_of_getElem? (i := 1) rfl)) (fun _ h9 => h9) rfl dX5_landsWith_35 ?_
        refine lv_iload hx hb dX5_landsWith_38 (lv_at hl 4 rfl) ?_
        refine lv_iload hx hb dX5_landsWith_40 (lv_at hl 7 rfl) ?_
        obtain ⟨hi_6, h⟩ := ifs h
        refine va_iast hx hb hE.1 hP (hD _ rfl) hS 1 0 rfl rfl hi_6 dX5_landsWith_42 (fun H locs hP _ hS => ?_)
        have hP : va_P D vwCl (wX5 cI cS a0 a1 a2 a3 a4 a5 a6 a7 a8 a9 a10 a11 (upd nw v6.toNatClampNeg v9) kp ad fd tp kn it wd sz nm mv ik td bg en so va iw im st ht) H := hP
        refine lv_aload_n hx hb dX5_landsWith_43 rfl (lv_at hl 0 rfl) ?_
        refine lv_iload_n hx hb dX5_landsWith_44 rfl (lv_at hl 1 rfl) ?_
        refine lv_iconst (v := 0) hx hb dX5_landsWith_45 (by decide) ?_
        refine kRi (rS C0 (tX5_shipAt l D cI cS v1 0 (fX5_shipAt v1 0) rfl) gX5_landsWith_X5_shipAt rfl ⟨rfl, rfl⟩ pdX5_shipAt rfl ⟨Nat.le_of_ble_eq_true rfl, Nat.le_of_ble_eq_true rfl⟩ (fun _ _ _ _ q => q) (fun _ _ _ _ => vp0) hl.1 rfl (Nat.le_of_ble_eq_true rfl) dX5_landsWith_46 ⟨Nat.zero_le _, Nat.zero_le _⟩) ?_
        refine lv_iload hx hb dX5_landsWith_49 (lv_at hl 3 rfl) ?_
        obtain ⟨z_7, e_8, h⟩ := bds h
        have hPc := hP.sub (ws' := (wX5 cI cS a0 a1 a2 a3 a4 a5 a6 a7 a8 a9 a10 a11 (upd nw v6.toNatClampNeg v9) kp ad fd tp kn it wd sz nm mv ik td bg en so va iw im st ht)) [0, 1, 2, 3, 4, 5, 6, 7, 8, 9, 10, 11] rfl
        refine kMi (wf' := (wX5 cI cS a0 a1 a2 a3 a4 a5 a6 a7 a8 a9 a10 a11 z_7.2.1 kp z_7.2.2 fd tp kn it wd sz nm mv ik td bg en so va iw im st ht)) [0, 1, 2, 3, 4, 5, 6, 7, 8, 9, 10, 11] [some 0, some 1, some 2, some 3, some 4, some 5, some 6, some 7, some 8, some 9, some 10, some 11] (rV C0 (tX5_behind l D cI cS F a0 a1 a2 a3 a4 a5 a6 a7 a8 a9 a10 a11 (upd nw v6.toNatClampNeg v9) kp ad fd tp kn it wd sz nm mv ik td bg en so va iw im st ht (fX5_shipAt v1 0) v5 z_7.1 z_7.2.1 z_7.2.2 e_8 (((hD (wX5 cI cS a0 a1 a2 a3 a4 a5 a6 a7 a8 a9 a10 a11 (upd nw v6.toNatClampNeg v9) kp ad fd tp kn it wd sz nm mv ik td bg en so va iw im st ht) rfl).sub [0, 1, 2, 3, 4, 5, 6, 7, 8, 9, 10, 11] (by decide) rfl).weaken (fun _ _ _ _ => trivial))) RX5 gX5_landsWith_X5_behind rfl ⟨rfl, rfl⟩ pdX5_behind rfl ⟨Nat.le_of_ble_eq_true rfl, Nat.le_of_ble_eq_true rfl⟩ (fun _ _ _ _ q => q) (va_recv hE.1 hPc (ci := 4) (q0 := 0) rfl rfl) (fun U hU _ _ => by rw [hU]; exact hPc) hl.1 rfl (Nat.le_of_ble_eq_true rfl) dX5_landsWith_51 ⟨Nat.zero_le _, Nat.zero_le _⟩) hP (hD _ rfl) hS rfl rfl rfl (fun H locs hP hS => ?_)
        refine lv_bipush (v := 15) hx hb dX5_landsWith_54 (by decide) ?_
        refine lv_icmp_ne (tgt := 64) hx hb dX5_landsWith_56 (by decide) (fun c_9 => ?_) (fun c_9 => ?_)
        · have h := ifn c_9 h
          refine lv_iconst (v := (-1)) hx hb dX5_landsWith_64 (by decide) ?_
          refine lv_istore (lv' := [(8, .int (-1)), (0, .ref a0), (1, .int v1), (4, .int v4), (5, .int v5), (6, .int v6), (7, .int v7), (9, .int v9)]) hx hb dX5_landsWith_65 hl (by decide) rfl (fun ls hl => ?_)
          refine lv_iinc (v := v9 + 1) (lv' := [(9, .int (v9 + 1)), (8, .int (-1)), (0, .ref a0), (1, .int v1), (4, .int v4), (5, .int v5), (6, .int v6), (7, .int v7)]) hx hb dX5_landsWith_67 hl (k := 7) rfl rfl (by decide) rfl (fun ls hl => ?_)
          refine lv_goto (tgt := 22) hx hb dX5_landsWith_70 (by decide) ?_
          exact ih (-1) (v9 + 1) z_7.2.1 z_7.2.2 _ _ hP hS _ (lv_sub hl [2, 3, 4, 5, 6, 7, 1, 0] rfl) h
        · have h := ifp c_9 h
          refine lv_iload hx hb dX5_landsWith_59 (lv_at hl 7 rfl) ?_
          refine lv_goto (tgt := 65) hx hb dX5_landsWith_61 (by decide) ?_
          refine lv_istore (lv' := [(8, .int v9), (0, .ref a0), (1, .int v1), (4, .int v4), (5, .int v5), (6, .int v6), (7, .int v7), (9, .int v9)]) hx hb dX5_landsWith_65 hl (by decide) rfl (fun ls hl => ?_)
          refine lv_iinc (v := v9 + 1) (lv' := [(9, .int (v9 + 1)), (8, .int v9), (0, .ref a0), (1, .int v1), (4, .int v4), (5, .int v5), (6, .int v6), (7, .int v7)]) hx hb dX5_landsWith_67 hl (k := 7) rfl rfl (by decide) rfl (fun ls hl => ?_)
          refine lv_goto (tgt := 22) hx hb dX5_landsWith_70 (by decide) ?_
          exact ih v9 (v9 + 1) z_7.2.1 z_7.2.2 _ _ hP hS _ (lv_sub hl [2, 3, 4, 5, 6, 7, 1, 0] rfl) h
set_option maxHeartbeats 4000000 in
set_option maxRecDepth 100000 in
theorem tX5_landsWith (l : Launch) (D : va_G) (cI cS : ClassId) (F : Nat) (a0 a1 a2 a3 a4 a5 a6 a7 a8 a9 a10 a11 : Nat) (nw : Nat → Int32) (kp : Nat → Int32) (ad : Nat → Int32) (fd : Nat → Int32) (tp : Nat → Int32) (kn : Nat → Option Nat) (it : Nat → Int32) (wd : Nat → Int32) (sz : Nat → Int32) (nm : Nat → Int32) (mv : Nat → Int32) (ik : Int32) (td : Int32) (bg : Int32) (en : Int32) (so : Int32) (va : Int32) (iw : Int32) (im : Int32) (st : Int32) (ht : Int32) (v1 : Int32) (v2 : Int32) (v3 : Int32) (v4 : Int32) (v5 : Int32) (z0 : Int32) (z1 : Nat → Int32) (z2 : Nat → Int32) (h : fX5_landsWith F nw ad v1 v2 v3 v4 v5 = some (z0, z1, z2)) (hD0 : va_D (fun _ => True) (wX5 cI cS a0 a1 a2 a3 a4 a5 a6 a7 a8 a9 a10 a11 nw kp ad fd tp kn it wd sz nm mv ik td bg en so va iw im st ht)) : Met l yX5_landsWith wsX5_landsWith rmX5_landsWith (PZ D cI cS [.ref a0, .int v1, .int v2, .int v3, .int v4, .int v5] (fun U => va_P D vwCl (wX5 cI cS a0 a1 a2 a3 a4 a5 a6 a7 a8 a9 a10 a11 nw kp ad fd tp kn it wd sz nm mv ik td bg en so va iw im st ht) U.heap)) (qI D (wX5 cI cS a0 a1 a2 a3 a4 a5 a6 a7 a8 a9 a10 a11 nw kp ad fd tp kn it wd sz nm mv ik td bg en so va iw im st ht) (wX5 cI cS a0 a1 a2 a3 a4 a5 a6 a7 a8 a9 a10 a11 z1 kp z2 fd tp kn it wd sz nm mv ik td bg en so va iw im st ht) z0) 0 0 (wA (wX5 cI cS a0 a1 a2 a3 a4 a5 a6 a7 a8 a9 a10 a11 nw kp ad fd tp kn it wd sz nm mv ik td bg en so va iw im st ht)) := by
  refine Met.mk RX5 (by decide) rfl rfl (Nat.le_of_ble_eq_true rfl) ?_
  intro p e s m below meth c ls C0 hP hl
  have hl : lv_has ls 10 [(0, .ref a0), (1, .int v1), (2, .int v2), (3, .int v3), (4, .int v4), (5, .int v5)] := hl
  obtain ⟨hx, hb, hr, hml, hown, hts, hlk, hE⟩ := id C0
  have hinX5 : ∀ w ∈ u_ws RX5 TX5 21, w ∈ wsX5_landsWith := by decide +kernel
  have hD : ∀ W : va_W, W.map Prod.fst = [a0, a1, a2, a3, a4, a5, a6, a7, a8, a9, a10, a11] → va_D (wA (wX5 cI cS a0 a1 a2 a3 a4 a5 a6 a7 a8 a9 a10 a11 nw kp ad fd tp kn it wd sz nm mv ik td bg en so va iw im st ht)) W := fun W hW => hD0.own.re hW
  have hS : va_S (wA (wX5 cI cS a0 a1 a2 a3 a4 a5 a6 a7 a8 a9 a10 a11 nw kp ad fd tp kn it wd sz nm mv ik td bg en so va iw im st ht)) s.heap s.heap [] := va_S.rf
  have hP : va_P D vwCl (wX5 cI cS a0 a1 a2 a3 a4 a5 a6 a7 a8 a9 a10 a11 nw kp ad fd tp kn it wd sz nm mv ik td bg en so va iw im st ht) s.heap := hP
  rw [fX5_landsWith] at h
  refine lv_iload_n hx hb dX5_landsWith_0 rfl (lv_at hl 1 rfl) ?_
  refine lv_iload_n hx hb dX5_landsWith_1 rfl (lv_at hl 2 rfl) ?_
  refine kRi (rS C0 (tX5_shipAt l D cI cS v1 v2 (fX5_shipAt v1 v2) rfl) gX5_landsWith_X5_shipAt rfl ⟨rfl, rfl⟩ pdX5_shipAt rfl ⟨Nat.le_of_ble_eq_true rfl, Nat.le_of_ble_eq_true rfl⟩ (fun _ _ _ _ q => q) (fun _ _ _ _ => vp0) hl.1 rfl (Nat.le_of_ble_eq_true rfl) dX5_landsWith_2 ⟨Nat.zero_le _, Nat.zero_le _⟩) ?_
  refine lv_istore (lv' := [(6, .int (fX5_shipAt v1 v2)), (0, .ref a0), (1, .int v1), (2, .int v2), (3, .int v3), (4, .int v4), (5, .int v5)]) hx hb dX5_landsWith_5 hl (by decide) rfl (fun ls hl => ?_)
  refine lv_aload_n hx hb dX5_landsWith_7 rfl (lv_at hl 1 rfl) ?_
  refine va_get (D := D) (ci := 4) (v := .ref a1) (C := RX5) (T := TX5) (N := 21) hx hb hts hinX5 hown hE.1 hP 0 rfl rfl 0 (by decide) (hts _ (List.mem_of_getElem? (i := 1) rfl)) (fun _ h9 => h9) rfl dX5_landsWith_8 ?_
  refine lv_iload hx hb dX5_landsWith_11 (lv_at hl 0 rfl) ?_
  obtain ⟨hi_1, h⟩ := ifs h
  refine va_iald hx hb hE.1 hP 1 0 rfl rfl hi_1 dX5_landsWith_13 ?_
  refine lv_istore (lv' := [(7, .int (nw (fX5_shipAt v1 v2).toNatClampNeg)), (6, .int (fX5_shipAt v1 v2)), (0, .ref a0), (1, .int v1), (2, .int v2), (3, .int v3), (4, .int v4), (5, .int v5)]) hx hb dX5_landsWith_14 hl (by decide) rfl (fun ls hl => ?_)
  refine lv_iconst (v := (-1)) hx hb dX5_landsWith_16 (by decide) ?_
  refine lv_istore (lv' := [(8, .int (-1)), (7, .int (nw (fX5_shipAt v1 v2).toNatClampNeg)), (6, .int (fX5_shipAt v1 v2)), (0, .ref a0), (1, .int v1), (2, .int v2), (3, .int v3), (4, .int v4), (5, .int v5)]) hx hb dX5_landsWith_17 hl (by decide) rfl (fun ls hl => ?_)
  refine lv_iload_n hx hb dX5_landsWith_19 rfl (lv_at hl 6 rfl) ?_
  refine lv_istore (lv' := [(9, .int v3), (8, .int (-1)), (7, .int (nw (fX5_shipAt v1 v2).toNatClampNeg)), (6, .int (fX5_shipAt v1 v2)), (0, .ref a0), (1, .int v1), (2, .int v2), (3, .int v3), (4, .int v4), (5, .int v5)]) hx hb dX5_landsWith_20 hl (by decide) rfl (fun ls hl => ?_)
  exact lX5_landsWith_22 (l := l) (e := e) (below := below) C0 F kp fd tp kn it wd sz nm mv ik td bg en so va iw im st ht v1 v4 v5 (fX5_shipAt v1 v2) (nw (fX5_shipAt v1 v2).toNatClampNeg) z0 z1 z2 hD F (-1) v3 nw ad _ _ hP hS _ (lv_sub hl [4, 5, 8, 9, 3, 2, 1, 0] rfl) h
def fX5_eyesFor (F : Nat) (nw : Nat → Int32) (ad : Nat → Int32) (fd : Nat → Int32) (v1 : Int32) (v2 : Int32) : Option (Int32 × (Nat → Int32) × (Nat → Int32) × (Nat → Int32)) := (if (fX5_isShip nw v1) = 0 then Option.bind (fX5_finding fd (-1000001)) (fun z_2 => some (z_2.1, nw, ad, z_2.2)) else (if (fX5_isThought v2) = 0 then Option.bind (fX5_finding fd (-1000001)) (fun z_5 => some (z_5.1, nw, ad, z_5.2)) else Option.bind (fX5_landsWith F nw ad v1 1 0 99 v2) (fun z_7 => Option.bind (fX5_orNone fd z_7.1) (fun z_9 => some (z_9.1, z_7.2.1, z_7.2.2, z_9.2)))))
abbrev rmX5_eyesFor : Room := { frames := 9, cells := 0, slots := 0, locals := 208 }
theorem pdX5_eyesFor : (yX5_eyesFor.cls = RX5 ∧ yX5_eyesFor.cls ≠ "java/lang/invoke/MethodHandle" ∧ yX5_eyesFor.cls ≠ "java/lang/invoke/VarHandle" ∧ (parseMethodDescriptor yX5_eyesFor.desc).map (fun d => d.parameters.length) = some 2) := by decide +kernel
set_option maxHeartbeats 4000000 in
set_option maxRecDepth 100000 in
theorem tX5_eyesFor (l : Launch) (D : va_G) (cI cS : ClassId) (F : Nat) (a0 a1 a2 a3 a4 a5 a6 a7 a8 a9 a10 a11 : Nat) (nw : Nat → Int32) (kp : Nat → Int32) (ad : Nat → Int32) (fd : Nat → Int32) (tp : Nat → Int32) (kn : Nat → Option Nat) (it : Nat → Int32) (wd : Nat → Int32) (sz : Nat → Int32) (nm : Nat → Int32) (mv : Nat → Int32) (ik : Int32) (td : Int32) (bg : Int32) (en : Int32) (so : Int32) (va : Int32) (iw : Int32) (im : Int32) (st : Int32) (ht : Int32) (v1 : Int32) (v2 : Int32) (z0 : Int32) (z1 : Nat → Int32) (z2 : Nat → Int32) (z3 : Nat → Int32) (h : fX5_eyesFor F nw ad fd v1 v2 = some (z0, z1, z2, z3)) (hD0 : va_D (fun _ => True) (wX5 cI cS a0 a1 a2 a3 a4 a5 a6 a7 a8 a9 a10 a11 nw kp ad fd tp kn it wd sz nm mv ik td bg en so va iw im st ht)) : Met l yX5_eyesFor wsX5_eyesFor rmX5_eyesFor (PZ D cI cS [.ref a0, .int v1, .int v2] (fun U => va_P D vwCl (wX5 cI cS a0 a1 a2 a3 a4 a5 a6 a7 a8 a9 a10 a11 nw kp ad fd tp kn it wd sz nm mv ik td bg en so va iw im st ht) U.heap)) (qI D (wX5 cI cS a0 a1 a2 a3 a4 a5 a6 a7 a8 a9 a10 a11 nw kp ad fd tp kn it wd sz nm mv ik td bg en so va iw im st ht) (wX5 cI cS a0 a1 a2 a3 a4 a5 a6 a7 a8 a9 a10 a11 z1 kp z2 z3 tp kn it wd sz nm mv ik td bg en so va iw im st ht) z0) 0 0 (wA (wX5 cI cS a0 a1 a2 a3 a4 a5 a6 a7 a8 a9 a10 a11 nw kp ad fd tp kn it wd sz nm mv ik td bg en so va iw im st ht)) := by
  refine Met.mk RX5 (by decide) rfl rfl (Nat.le_of_ble_eq_true rfl) ?_
  intro p e s m below meth c ls C0 hP hl
  have hl : lv_has ls 3 [(0, .ref a0), (1, .int v1), (2, .int v2)] := hl
  obtain ⟨hx, hb, hr, hml, hown, hts, hlk, hE⟩ := id C0
  have hD : ∀ W : va_W, W.map Prod.fst = [a0, a1, a2, a3, a4, a5, a6, a7, a8, a9, a10, a11] → va_D (wA (wX5 cI cS a0 a1 a2 a3 a4 a5 a6 a7 a8 a9 a10 a11 nw kp ad fd tp kn it wd sz nm mv ik td bg en so va iw im st ht)) W := fun W hW => hD0.own.re hW
  have hS : va_S (wA (wX5 cI cS a0 a1 a2 a3 a4 a5 a6 a7 a8 a9 a10 a11 nw kp ad fd tp kn it wd sz nm mv ik td bg en so va iw im st ht)) s.heap s.heap [] := va_S.rf
  have hP : va_P D vwCl (wX5 cI cS a0 a1 a2 a3 a4 a5 a6 a7 a8 a9 a10 a11 nw kp ad fd tp kn it wd sz nm mv ik td bg en so va iw im st ht) s.heap := hP
  rw [fX5_eyesFor] at h
  refine lv_aload_n hx hb dX5_eyesFor_0 rfl (lv_at hl 0 rfl) ?_
  refine lv_iload_n hx hb dX5_eyesFor_1 rfl (lv_at hl 1 rfl) ?_
  have hPc := hP.sub (ws' := (wX5 cI cS a0 a1 a2 a3 a4 a5 a6 a7 a8 a9 a10 a11 nw kp ad fd tp kn it wd sz nm mv ik td bg en so va iw im st ht)) [0, 1, 2, 3, 4, 5, 6, 7, 8, 9, 10, 11] rfl
  refine kRi (rV C0 (tX5_isShip l D cI cS a0 a1 a2 a3 a4 a5 a6 a7 a8 a9 a10 a11 nw kp ad fd tp kn it wd sz nm mv ik td bg en so va iw im st ht v1 (fX5_isShip nw v1) rfl) RX5 gX5_eyesFor_X5_isShip rfl ⟨rfl, rfl⟩ pdX5_isShip rfl ⟨Nat.le_of_ble_eq_true rfl, Nat.le_of_ble_eq_true rfl⟩ (fun _ _ _ _ q => q) (va_recv hE.1 hPc (ci := 4) (q0 := 0) rfl rfl) (fun U hU _ _ => by rw [hU]; exact hPc) hl.1 rfl (Nat.le_of_ble_eq_true rfl) dX5_eyesFor_2 ⟨Nat.zero_le _, Nat.zero_le _⟩) ?_
  refine lv_if_eq (tgt := 32) hx hb dX5_eyesFor_5 (by decide) (fun c_1 => ?_) (fun c_1 => ?_)
  · have h := ifp c_1 h
    refine lv_aload_n hx hb dX5_eyesFor_32 rfl (lv_at hl 0 rfl) ?_
    refine lv_ldc (v := (-1000001)) hx hb hown (hts _ (List.mem_of_getElem? (i := 1) rfl)) dX5_eyesFor_33 ?_
    obtain ⟨z_2, e_3, h⟩ := bds h
    have hPc := hP.sub (ws' := (wX5 cI cS a0 a1 a2 a3 a4 a5 a6 a7 a8 a9 a10 a11 nw kp ad fd tp kn it wd sz nm mv ik td bg en so va iw im st ht)) [0, 1, 2, 3, 4, 5, 6, 7, 8, 9, 10, 11] rfl
    refine kMi (wf' := (wX5 cI cS a0 a1 a2 a3 a4 a5 a6 a7 a8 a9 a10 a11 nw kp ad z_2.2 tp kn it wd sz nm mv ik td bg en so va iw im st ht)) [0, 1, 2, 3, 4, 5, 6, 7, 8, 9, 10, 11] [some 0, some 1, some 2, some 3, some 4, some 5, some 6, some 7, some 8, some 9, some 10, some 11] (rV C0 (tX5_finding l D cI cS a0 a1 a2 a3 a4 a5 a6 a7 a8 a9 a10 a11 nw kp ad fd tp kn it wd sz nm mv ik td bg en so va iw im st ht (-1000001) z_2.1 z_2.2 e_3 (((hD (wX5 cI cS a0 a1 a2 a3 a4 a5 a6 a7 a8 a9 a10 a11 nw kp ad fd tp kn it wd sz nm mv ik td bg en so va iw im st ht) rfl).sub [0, 1, 2, 3, 4, 5, 6, 7, 8, 9, 10, 11] (by decide) rfl).weaken (fun _ _ _ _ => trivial))) RX5 gX5_eyesFor_X5_finding rfl ⟨rfl, rfl⟩ pdX5_finding rfl ⟨Nat.le_of_ble_eq_true rfl, Nat.le_of_ble_eq_true rfl⟩ (fun _ _ _ _ q => q) (va_recv hE.1 hPc (ci := 4) (q0 := 0) rfl rfl) (fun U hU _ _ => by rw [hU]; exact hPc) hl.1 rfl (Nat.le_of_ble_eq_true rfl) dX5_eyesFor_35 ⟨Nat.zero_le _, Nat.zero_le _⟩) hP (hD _ rfl) hS rfl rfl rfl (fun H locs hP hS => ?_)
    obtain ⟨q0, g0⟩ := Prod.mk.inj (Option.some.inj h)
    obtain ⟨q1, g1⟩ := Prod.mk.inj g0
    obtain ⟨q2, q3⟩ := Prod.mk.inj g1
    subst q0 q1 q2 q3
    exact eMi C0 hP hS rfl rfl dX5_eyesFor_38
  · have h := ifn c_1 h
    refine lv_iload_n hx hb dX5_eyesFor_8 rfl (lv_at hl 2 rfl) ?_
    refine kRi (rS C0 (tX5_isThought l D cI cS v2 (fX5_isThought v2) rfl) gX5_eyesFor_X5_isThought rfl ⟨rfl, rfl⟩ pdX5_isThought rfl ⟨Nat.le_of_ble_eq_true rfl, Nat.le_of_ble_eq_true rfl⟩ (fun _ _ _ _ q => q) (fun _ _ _ _ => vp0) hl.1 rfl (Nat.le_of_ble_eq_true rfl) dX5_eyesFor_9 ⟨Nat.zero_le _, Nat.zero_le _⟩) ?_
    refine lv_if_eq (tgt := 32) hx hb dX5_eyesFor_12 (by decide) (fun c_4 => ?_) (fun c_4 => ?_)
    · have h := ifp c_4 h
      refine lv_aload_n hx hb dX5_eyesFor_32 rfl (lv_at hl 0 rfl) ?_
      refine lv_ldc (v := (-1000001)) hx hb hown (hts _ (List.mem_of_getElem? (i := 1) rfl)) dX5_eyesFor_33 ?_
      obtain ⟨z_5, e_6, h⟩ := bds h
      have hPc := hP.sub (ws' := (wX5 cI cS a0 a1 a2 a3 a4 a5 a6 a7 a8 a9 a10 a11 nw kp ad fd tp kn it wd sz nm mv ik td bg en so va iw im st ht)) [0, 1, 2, 3, 4, 5, 6, 7, 8, 9, 10, 11] rfl
      refine kMi (wf' := (wX5 cI cS a0 a1 a2 a3 a4 a5 a6 a7 a8 a9 a10 a11 nw kp ad z_5.2 tp kn it wd sz nm mv ik td bg en so va iw im st ht)) [0, 1, 2, 3, 4, 5, 6, 7, 8, 9, 10, 11] [some 0, some 1, some 2, some 3, some 4, some 5, some 6, some 7, some 8, some 9, some 10, some 11] (rV C0 (tX5_finding l D cI cS a0 a1 a2 a3 a4 a5 a6 a7 a8 a9 a10 a11 nw kp ad fd tp kn it wd sz nm mv ik td bg en so va iw im st ht (-1000001) z_5.1 z_5.2 e_6 (((hD (wX5 cI cS a0 a1 a2 a3 a4 a5 a6 a7 a8 a9 a10 a11 nw kp ad fd tp kn it wd sz nm mv ik td bg en so va iw im st ht) rfl).sub [0, 1, 2, 3, 4, 5, 6, 7, 8, 9, 10, 11] (by decide) rfl).weaken (fun _ _ _ _ => trivial))) RX5 gX5_eyesFor_X5_finding rfl ⟨rfl, rfl⟩ pdX5_finding rfl ⟨Nat.le_of_ble_eq_true rfl, Nat.le_of_ble_eq_true rfl⟩ (fun _ _ _ _ q => q) (va_recv hE.1 hPc (ci := 4) (q0 := 0) rfl rfl) (fun U hU _ _ => by rw [hU]; exact hPc) hl.1 rfl (Nat.le_of_ble_eq_true rfl) dX5_eyesFor_35 ⟨Nat.zero_le _, Nat.zero_le _⟩) hP (hD _ rfl) hS rfl rfl rfl (fun H locs hP hS => ?_)
      obtain ⟨q0, g0⟩ := Prod.mk.inj (Option.some.inj h)
      obtain ⟨q1, g1⟩ := Prod.mk.inj g0
      obtain ⟨q2, q3⟩ := Prod.mk.inj g1
      subst q0 q1 q2 q3
      exact eMi C0 hP hS rfl rfl dX5_eyesFor_38
    · have h := ifn c_4 h
      refine lv_aload_n hx hb dX5_eyesFor_15 rfl (lv_at hl 0 rfl) ?_
      refine lv_aload_n hx hb dX5_eyesFor_16 rfl (lv_at hl 0 rfl) ?_
      refine lv_iload_n hx hb dX5_eyesFor_17 rfl (lv_at hl 1 rfl) ?_
      refine lv_iconst (v := 1) hx hb dX5_eyesFor_18 (by decide) ?_
      refine lv_iconst (v := 0) hx hb dX5_eyesFor_19 (by decide) ?_
      refine lv_bipush (v := 99) hx hb dX5_eyesFor_20 (by decide) ?_
      refine lv_iload_n hx hb dX5_eyesFor_22 rfl (lv_at hl 2 rfl) ?_
      obtain ⟨z_7, e_8, h⟩ := bds h
      have hPc := hP.sub (ws' := (wX5 cI cS a0 a1 a2 a3 a4 a5 a6 a7 a8 a9 a10 a11 nw kp ad fd tp kn it wd sz nm mv ik td bg en so va iw im st ht)) [0, 1, 2, 3, 4, 5, 6, 7, 8, 9, 10, 11] rfl
      refine kMi (wf' := (wX5 cI cS a0 a1 a2 a3 a4 a5 a6 a7 a8 a9 a10 a11 z_7.2.1 kp z_7.2.2 fd tp kn it wd sz nm mv ik td bg en so va iw im st ht)) [0, 1, 2, 3, 4, 5, 6, 7, 8, 9, 10, 11] [some 0, some 1, some 2, some 3, some 4, some 5, some 6, some 7, some 8, some 9, some 10, some 11] (rV C0 (tX5_landsWith l D cI cS F a0 a1 a2 a3 a4 a5 a6 a7 a8 a9 a10 a11 nw kp ad fd tp kn it wd sz nm mv ik td bg en so va iw im st ht v1 1 0 99 v2 z_7.1 z_7.2.1 z_7.2.2 e_8 (((hD (wX5 cI cS a0 a1 a2 a3 a4 a5 a6 a7 a8 a9 a10 a11 nw kp ad fd tp kn it wd sz nm mv ik td bg en so va iw im st ht) rfl).sub [0, 1, 2, 3, 4, 5, 6, 7, 8, 9, 10, 11] (by decide) rfl).weaken (fun _ _ _ _ => trivial))) RX5 gX5_eyesFor_X5_landsWith rfl ⟨rfl, rfl⟩ pdX5_landsWith rfl ⟨Nat.le_of_ble_eq_true rfl, Nat.le_of_ble_eq_true rfl⟩ (fun _ _ _ _ q => q) (va_recv hE.1 hPc (ci := 4) (q0 := 0) rfl rfl) (fun U hU _ _ => by rw [hU]; exact hPc) hl.1 rfl (Nat.le_of_ble_eq_true rfl) dX5_eyesFor_23 ⟨Nat.zero_le _, Nat.zero_le _⟩) hP (hD _ rfl) hS rfl rfl rfl (fun H locs hP hS => ?_)
      obtain ⟨z_9, e_10, h⟩ := bds h
      have hPc := hP.sub (ws' := (wX5 cI cS a0 a1 a2 a3 a4 a5 a6 a7 a8 a9 a10 a11 z_7.2.1 kp z_7.2.2 fd tp kn it wd sz nm mv ik td bg en so va iw im st ht)) [0, 1, 2, 3, 4, 5, 6, 7, 8, 9, 10, 11] rfl
      refine kMi (wf' := (wX5 cI cS a0 a1 a2 a3 a4 a5 a6 a7 a8 a9 a10 a11 z_7.2.1 kp z_7.2.2 z_9.2 tp kn it wd sz nm mv ik td bg en so va iw im st ht)) [0, 1, 2, 3, 4, 5, 6, 7, 8, 9, 10, 11] [some 0, some 1, some 2, some 3, some 4, some 5, some 6, some 7, some 8, some 9, some 10, some 11] (rV C0 (tX5_orNone l D cI cS a0 a1 a2 a3 a4 a5 a6 a7 a8 a9 a10 a11 z_7.2.1 kp z_7.2.2 fd tp kn it wd sz nm mv ik td bg en so va iw im st ht z_7.1 z_9.1 z_9.2 e_10 (((hD (wX5 cI cS a0 a1 a2 a3 a4 a5 a6 a7 a8 a9 a10 a11 z_7.2.1 kp z_7.2.2 fd tp kn it wd sz nm mv ik td bg en so va iw im st ht) rfl).sub [0, 1, 2, 3, 4, 5, 6, 7, 8, 9, 10, 11] (by decide) rfl).weaken (fun _ _ _ _ => trivial))) RX5 gX5_eyesFor_X5_orNone rfl ⟨rfl, rfl⟩ pdX5_orNone rfl ⟨Nat.le_of_ble_eq_true rfl, Nat.le_of_ble_eq_true rfl⟩ (fun _ _ _ _ q => q) (va_recv hE.1 hPc (ci := 4) (q0 := 0) rfl rfl) (fun U hU _ _ => by rw [hU]; exact hPc) hl.1 rfl (Nat.le_of_ble_eq_true rfl) dX5_eyesFor_26 ⟨Nat.zero_le _, Nat.zero_le _⟩) hP (hD _ rfl) hS rfl rfl rfl (fun H locs hP hS => ?_)
      refine lv_goto (tgt := 38) hx hb dX5_eyesFor_29 (by decide) ?_
      obtain ⟨q0, g0⟩ := Prod.mk.inj (Option.some.inj h)
      obtain ⟨q1, g1⟩ := Prod.mk.inj g0
      obtain ⟨q2, q3⟩ := Prod.mk.inj g1
      subst q0 q1 q2 q3
      exact eMi C0 hP hS rfl rfl dX5_eyesFor_38
def fX5_speedFor (F : Nat) (nw : Nat → Int32) (ad : Nat → Int32) (fd : Nat → Int32) (v1 : Int32) (v2 : Int32) : Option (Int32 × (Nat → Int32) × (Nat → Int32) × (Nat → Int32)) := (if (fX5_isShip nw v1) = 0 then Option.bind (fX5_finding fd (-1000001)) (fun z_2 => some (z_2.1, nw, ad, z_2.2)) else (if (fX5_isThought v2) = 0 then Option.bind (fX5_finding fd (-1000001)) (fun z_5 => some (z_5.1, nw, ad, z_5.2)) else Option.bind (fX5_landsWith F nw ad v1 2 1 5 v2) (fun z_7 => Option.bind (fX5_orNone fd z_7.1) (fun z_9 => some (z_9.1, z_7.2.1, z_7.2.2, z_9.2)))))
abbrev rmX5_speedFor : Room := { frames := 9, cells := 0, slots := 0, locals := 208 }
theorem pdX5_speedFor : (yX5_speedFor.cls = RX5 ∧ yX5_speedFor.cls ≠ "java/lang/invoke/MethodHandle" ∧ yX5_speedFor.cls ≠ "java/lang/invoke/VarHandle" ∧ (parseMethodDescriptor yX5_speedFor.desc).map (fun d => d.parameters.length) = some 2) := by decide +kernel
set_option maxHeartbeats 4000000 in
set_option maxRecDepth 100000 in
theorem tX5_speedFor (l : Launch) (D : va_G) (cI cS : ClassId) (F : Nat) (a0 a1 a2 a3 a4 a5 a6 a7 a8 a9 a10 a11 : Nat) (nw : Nat → Int32) (kp : Nat → Int32) (ad : Nat → Int32) (fd : Nat → Int32) (tp : Nat → Int32) (kn : Nat → Option Nat) (it : Nat → Int32) (wd : Nat → Int32) (sz : Nat → Int32) (nm : Nat → Int32) (mv : Nat → Int32) (ik : Int32) (td : Int32) (bg : Int32) (en : Int32) (so : Int32) (va : Int32) (iw : Int32) (im : Int32) (st : Int32) (ht : Int32) (v1 : Int32) (v2 : Int32) (z0 : Int32) (z1 : Nat → Int32) (z2 : Nat → Int32) (z3 : Nat → Int32) (h : fX5_speedFor F nw ad fd v1 v2 = some (z0, z1, z2, z3)) (hD0 : va_D (fun _ => True) (wX5 cI cS a0 a1 a2 a3 a4 a5 a6 a7 a8 a9 a10 a11 nw kp ad fd tp kn it wd sz nm mv ik td bg en so va iw im st ht)) : Met l yX5_speedFor wsX5_speedFor rmX5_speedFor (PZ D cI cS [.ref a0, .int v1, .int v2] (fun U => va_P D vwCl (wX5 cI cS a0 a1 a2 a3 a4 a5 a6 a7 a8 a9 a10 a11 nw kp ad fd tp kn it wd sz nm mv ik td bg en so va iw im st ht) U.heap)) (qI D (wX5 cI cS a0 a1 a2 a3 a4 a5 a6 a7 a8 a9 a10 a11 nw kp ad fd tp kn it wd sz nm mv ik td bg en so va iw im st ht) (wX5 cI cS a0 a1 a2 a3 a4 a5 a6 a7 a8 a9 a10 a11 z1 kp z2 z3 tp kn it wd sz nm mv ik td bg en so va iw im st ht) z0) 0 0 (wA (wX5 cI cS a0 a1 a2 a3 a4 a5 a6 a7 a8 a9 a10 a11 nw kp ad fd tp kn it wd sz nm mv ik td bg en so va iw im st ht)) := by
  refine Met.mk RX5 (by decide) rfl rfl (Nat.le_of_ble_eq_true rfl) ?_
  intro p e s m below meth c ls C0 hP hl
  have hl : lv_has ls 3 [(0, .ref a0), (1, .int v1), (2, .int v2)] := hl
  obtain ⟨hx, hb, hr, hml, hown, hts, hlk, hE⟩ := id C0
  have hD : ∀ W : va_W, W.map Prod.fst = [a0, a1, a2, a3, a4, a5, a6, a7, a8, a9, a10, a11] → va_D (wA (wX5 cI cS a0 a1 a2 a3 a4 a5 a6 a7 a8 a9 a10 a11 nw kp ad fd tp kn it wd sz nm mv ik td bg en so va iw im st ht)) W := fun W hW => hD0.own.re hW
  have hS : va_S (wA (wX5 cI cS a0 a1 a2 a3 a4 a5 a6 a7 a8 a9 a10 a11 nw kp ad fd tp kn it wd sz nm mv ik td bg en so va iw im st ht)) s.heap s.heap [] := va_S.rf
  have hP : va_P D vwCl (wX5 cI cS a0 a1 a2 a3 a4 a5 a6 a7 a8 a9 a10 a11 nw kp ad fd tp kn it wd sz nm mv ik td bg en so va iw im st ht) s.heap := hP
  rw [fX5_speedFor] at h
  refine lv_aload_n hx hb dX5_speedFor_0 rfl (lv_at hl 0 rfl) ?_
  refine lv_iload_n hx hb dX5_speedFor_1 rfl (lv_at hl 1 rfl) ?_
  have hPc := hP.sub (ws' := (wX5 cI cS a0 a1 a2 a3 a4 a5 a6 a7 a8 a9 a10 a11 nw kp ad fd tp kn it wd sz nm mv ik td bg en so va iw im st ht)) [0, 1, 2, 3, 4, 5, 6, 7, 8, 9, 10, 11] rfl
  refine kRi (rV C0 (tX5_isShip l D cI cS a0 a1 a2 a3 a4 a5 a6 a7 a8 a9 a10 a11 nw kp ad fd tp kn it wd sz nm mv ik td bg en so va iw im st ht v1 (fX5_isShip nw v1) rfl) RX5 gX5_speedFor_X5_isShip rfl ⟨rfl, rfl⟩ pdX5_isShip rfl ⟨Nat.le_of_ble_eq_true rfl, Nat.le_of_ble_eq_true rfl⟩ (fun _ _ _ _ q => q) (va_recv hE.1 hPc (ci := 4) (q0 := 0) rfl rfl) (fun U hU _ _ => by rw [hU]; exact hPc) hl.1 rfl (Nat.le_of_ble_eq_true rfl) dX5_speedFor_2 ⟨Nat.zero_le _, Nat.zero_le _⟩) ?_
  refine lv_if_eq (tgt := 31) hx hb dX5_speedFor_5 (by decide) (fun c_1 => ?_) (fun c_1 => ?_)
  · have h := ifp c_1 h
    refine lv_aload_n hx hb dX5_speedFor_31 rfl (lv_at hl 0 rfl) ?_
    refine lv_ldc (v := (-1000001)) hx hb hown (hts _ (List.mem_of_getElem? (i := 1) rfl)) dX5_speedFor_32 ?_
    obtain ⟨z_2, e_3, h⟩ := bds h
    have hPc := hP.sub (ws' := (wX5 cI cS a0 a1 a2 a3 a4 a5 a6 a7 a8 a9 a10 a11 nw kp ad fd tp kn it wd sz nm mv ik td bg en so va iw im st ht)) [0, 1, 2, 3, 4, 5, 6, 7, 8, 9, 10, 11] rfl
    refine kMi (wf' := (wX5 cI cS a0 a1 a2 a3 a4 a5 a6 a7 a8 a9 a10 a11 nw kp ad z_2.2 tp kn it wd sz nm mv ik td bg en so va iw im st ht)) [0, 1, 2, 3, 4, 5, 6, 7, 8, 9, 10, 11] [some 0, some 1, some 2, some 3, some 4, some 5, some 6, some 7, some 8, some 9, some 10, some 11] (rV C0 (tX5_finding l D cI cS a0 a1 a2 a3 a4 a5 a6 a7 a8 a9 a10 a11 nw kp ad fd tp kn it wd sz nm mv ik td bg en so va iw im st ht (-1000001) z_2.1 z_2.2 e_3 (((hD (wX5 cI cS a0 a1 a2 a3 a4 a5 a6 a7 a8 a9 a10 a11 nw kp ad fd tp kn it wd sz nm mv ik td bg en so va iw im st ht) rfl).sub [0, 1, 2, 3, 4, 5, 6, 7, 8, 9, 10, 11] (by decide) rfl).weaken (fun _ _ _ _ => trivial))) RX5 gX5_speedFor_X5_finding rfl ⟨rfl, rfl⟩ pdX5_finding rfl ⟨Nat.le_of_ble_eq_true rfl, Nat.le_of_ble_eq_true rfl⟩ (fun _ _ _ _ q => q) (va_recv hE.1 hPc (ci := 4) (q0 := 0) rfl rfl) (fun U hU _ _ => by rw [hU]; exact hPc) hl.1 rfl (Nat.le_of_ble_eq_true rfl) dX5_speedFor_34 ⟨Nat.zero_le _, Nat.zero_le _⟩) hP (hD _ rfl) hS rfl rfl rfl (fun H locs hP hS => ?_)
    obtain ⟨q0, g0⟩ := Prod.mk.inj (Option.some.inj h)
    obtain ⟨q1, g1⟩ := Prod.mk.inj g0
    obtain ⟨q2, q3⟩ := Prod.mk.inj g1
    subst q0 q1 q2 q3
    exact eMi C0 hP hS rfl rfl dX5_speedFor_37
  · have h := ifn c_1 h
    refine lv_iload_n hx hb dX5_speedFor_8 rfl (lv_at hl 2 rfl) ?_
    refine kRi (rS C0 (tX5_isThought l D cI cS v2 (fX5_isThought v2) rfl) gX5_speedFor_X5_isThought rfl ⟨rfl, rfl⟩ pdX5_isThought rfl ⟨Nat.le_of_ble_eq_true rfl, Nat.le_of_ble_eq_true rfl⟩ (fun _ _ _ _ q => q) (fun _ _ _ _ => vp0) hl.1 rfl (Nat.le_of_ble_eq_true rfl) dX5_speedFor_9 ⟨Nat.zero_le _, Nat.zero_le _⟩) ?_
    refine lv_if_eq (tgt := 31) hx hb dX5_speedFor_12 (by decide) (fun c_4 => ?_) (fun c_4 => ?_)
    · have h := ifp c_4 h
      refine lv_aload_n hx hb dX5_speedFor_31 rfl (lv_at hl 0 rfl) ?_
      refine lv_ldc (v := (-1000001)) hx hb hown (hts _ (List.mem_of_getElem? (i := 1) rfl)) dX5_speedFor_32 ?_
      obtain ⟨z_5, e_6, h⟩ := bds h
      have hPc := hP.sub (ws' := (wX5 cI cS a0 a1 a2 a3 a4 a5 a6 a7 a8 a9 a10 a11 nw kp ad fd tp kn it wd sz nm mv ik td bg en so va iw im st ht)) [0, 1, 2, 3, 4, 5, 6, 7, 8, 9, 10, 11] rfl
      refine kMi (wf' := (wX5 cI cS a0 a1 a2 a3 a4 a5 a6 a7 a8 a9 a10 a11 nw kp ad z_5.2 tp kn it wd sz nm mv ik td bg en so va iw im st ht)) [0, 1, 2, 3, 4, 5, 6, 7, 8, 9, 10, 11] [some 0, some 1, some 2, some 3, some 4, some 5, some 6, some 7, some 8, some 9, some 10, some 11] (rV C0 (tX5_finding l D cI cS a0 a1 a2 a3 a4 a5 a6 a7 a8 a9 a10 a11 nw kp ad fd tp kn it wd sz nm mv ik td bg en so va iw im st ht (-1000001) z_5.1 z_5.2 e_6 (((hD (wX5 cI cS a0 a1 a2 a3 a4 a5 a6 a7 a8 a9 a10 a11 nw kp ad fd tp kn it wd sz nm mv ik td bg en so va iw im st ht) rfl).sub [0, 1, 2, 3, 4, 5, 6, 7, 8, 9, 10, 11] (by decide) rfl).weaken (fun _ _ _ _ => trivial))) RX5 gX5_speedFor_X5_finding rfl ⟨rfl, rfl⟩ pdX5_finding rfl ⟨Nat.le_of_ble_eq_true rfl, Nat.le_of_ble_eq_true rfl⟩ (fun _ _ _ _ q => q) (va_recv hE.1 hPc (ci := 4) (q0 := 0) rfl rfl) (fun U hU _ _ => by rw [hU]; exact hPc) hl.1 rfl (Nat.le_of_ble_eq_true rfl) dX5_speedFor_34 ⟨Nat.zero_le _, Nat.zero_le _⟩) hP (hD _ rfl) hS rfl rfl rfl (fun H locs hP hS => ?_)
      obtain ⟨q0, g0⟩ := Prod.mk.inj (Option.some.inj h)
      obtain ⟨q1, g1⟩ := Prod.mk.inj g0
      obtain ⟨q2, q3⟩ := Prod.mk.inj g1
      subst q0 q1 q2 q3
      exact eMi C0 hP hS rfl rfl dX5_speedFor_37
    · have h := ifn c_4 h
      refine lv_aload_n hx hb dX5_speedFor_15 rfl (lv_at hl 0 rfl) ?_
      refine lv_aload_n hx hb dX5_speedFor_16 rfl (lv_at hl 0 rfl) ?_
      refine lv_iload_n hx hb dX5_speedFor_17 rfl (lv_at hl 1 rfl) ?_
      refine lv_iconst (v := 2) hx hb dX5_speedFor_18 (by decide) ?_
      refine lv_iconst (v := 1) hx hb dX5_speedFor_19 (by decide) ?_
      refine lv_iconst (v := 5) hx hb dX5_speedFor_20 (by decide) ?_
      refine lv_iload_n hx hb dX5_speedFor_21 rfl (lv_at hl 2 rfl) ?_
      obtain ⟨z_7, e_8, h⟩ := bds h
      have hPc := hP.sub (ws' := (wX5 cI cS a0 a1 a2 a3 a4 a5 a6 a7 a8 a9 a10 a11 nw kp ad fd tp kn it wd sz nm mv ik td bg en so va iw im st ht)) [0, 1, 2, 3, 4, 5, 6, 7, 8, 9, 10, 11] rfl
      refine kMi (wf' := (wX5 cI cS a0 a1 a2 a3 a4 a5 a6 a7 a8 a9 a10 a11 z_7.2.1 kp z_7.2.2 fd tp kn it wd sz nm mv ik td bg en so va iw im st ht)) [0, 1, 2, 3, 4, 5, 6, 7, 8, 9, 10, 11] [some 0, some 1, some 2, some 3, some 4, some 5, some 6, some 7, some 8, some 9, some 10, some 11] (rV C0 (tX5_landsWith l D cI cS F a0 a1 a2 a3 a4 a5 a6 a7 a8 a9 a10 a11 nw kp ad fd tp kn it wd sz nm mv ik td bg en so va iw im st ht v1 2 1 5 v2 z_7.1 z_7.2.1 z_7.2.2 e_8 (((hD (wX5 cI cS a0 a1 a2 a3 a4 a5 a6 a7 a8 a9 a10 a11 nw kp ad fd tp kn it wd sz nm mv ik td bg en so va iw im st ht) rfl).sub [0, 1, 2, 3, 4, 5, 6, 7, 8, 9, 10, 11] (by decide) rfl).weaken (fun _ _ _ _ => trivial))) RX5 gX5_speedFor_X5_landsWith rfl ⟨rfl, rfl⟩ pdX5_landsWith rfl ⟨Nat.le_of_ble_eq_true rfl, Nat.le_of_ble_eq_true rfl⟩ (fun _ _ _ _ q => q) (va_recv hE.1 hPc (ci := 4) (q0 := 0) rfl rfl) (fun U hU _ _ => by rw [hU]; exact hPc) hl.1 rfl (Nat.le_of_ble_eq_true rfl) dX5_speedFor_22 ⟨Nat.zero_le _, Nat.zero_le _⟩) hP (hD _ rfl) hS rfl rfl rfl (fun H locs hP hS => ?_)
      obtain ⟨z_9, e_10, h⟩ := bds h
      have hPc := hP.sub (ws' := (wX5 cI cS a0 a1 a2 a3 a4 a5 a6 a7 a8 a9 a10 a11 z_7.2.1 kp z_7.2.2 fd tp kn it wd sz nm mv ik td bg en so va iw im st ht)) [0, 1, 2, 3, 4, 5, 6, 7, 8, 9, 10, 11] rfl
      refine kMi (wf' := (wX5 cI cS a0 a1 a2 a3 a4 a5 a6 a7 a8 a9 a10 a11 z_7.2.1 kp z_7.2.2 z_9.2 tp kn it wd sz nm mv ik td bg en so va iw im st ht)) [0, 1, 2, 3, 4, 5, 6, 7, 8, 9, 10, 11] [some 0, some 1, some 2, some 3, some 4, some 5, some 6, some 7, some 8, some 9, some 10, some 11] (rV C0 (tX5_orNone l D cI cS a0 a1 a2 a3 a4 a5 a6 a7 a8 a9 a10 a11 z_7.2.1 kp z_7.2.2 fd tp kn it wd sz nm mv ik td bg en so va iw im st ht z_7.1 z_9.1 z_9.2 e_10 (((hD (wX5 cI cS a0 a1 a2 a3 a4 a5 a6 a7 a8 a9 a10 a11 z_7.2.1 kp z_7.2.2 fd tp kn it wd sz nm mv ik td bg en so va iw im st ht) rfl).sub [0, 1, 2, 3, 4, 5, 6, 7, 8, 9, 10, 11] (by decide) rfl).weaken (fun _ _ _ _ => trivial))) RX5 gX5_speedFor_X5_orNone rfl ⟨rfl, rfl⟩ pdX5_orNone rfl ⟨Nat.le_of_ble_eq_true rfl, Nat.le_of_ble_eq_true rfl⟩ (fun _ _ _ _ q => q) (va_recv hE.1 hPc (ci := 4) (q0 := 0) rfl rfl) (fun U hU _ _ => by rw [hU]; exact hPc) hl.1 rfl (Nat.le_of_ble_eq_true rfl) dX5_speedFor_25 ⟨Nat.zero_le _, Nat.zero_le _⟩) hP (hD _ rfl) hS rfl rfl rfl (fun H locs hP hS => ?_)
      refine lv_goto (tgt := 37) hx hb dX5_speedFor_28 (by decide) ?_
      obtain ⟨q0, g0⟩ := Prod.mk.inj (Option.some.inj h)
      obtain ⟨q1, g1⟩ := Prod.mk.inj g0
      obtain ⟨q2, q3⟩ := Prod.mk.inj g1
      subst q0 q1 q2 q3
      exact eMi C0 hP hS rfl rfl dX5_speedFor_37
def fX5_allLand_13 (F : Nat) (ad : Nat → Int32) (v1 : Int32) (v2 : Int32) : Nat → Int32 → (Nat → Int32) → Option (Int32 × (Nat → Int32) × (Nat → Int32))
  | 0, _, _ => none
  | n + 1, v3, nw => (if (nw 1) ≤ v3 then Option.bind (fX5_daysGo F nw v2) (fun z_4 => Option.bind (fX5_inPort F z_4) (fun z_6 => (if z_6 = ((1 <<< ((z_4 3) &&& 31)) - 1) then Option.bind (fX5_copyRow F ad z_4) (fun z_11 => some (1, z_11, ad)) else Option.bind (fX5_copyRow F ad z_4) (fun z_9 => some (0, z_9, ad))))) else (if ((v1 >>> (v3 &&& 31)) &&& 1) = 1 then if ¬ ((fX5_sayingAt v3 3) < 0 ∨ 84 ≤ (fX5_sayingAt v3 3).toNatClampNeg) then fX5_allLand_13 F ad v1 v2 n (v3 + 1) (upd nw (fX5_sayingAt v3 3).toNatClampNeg 1) else none else fX5_allLand_13 F ad v1 v2 n (v3 + 1) nw))
def fX5_allLand (F : Nat) (nw : Nat → Int32) (ad : Nat → Int32) (v1 : Int32) (v2 : Int32) : Option (Int32 × (Nat → Int32) × (Nat → Int32)) := Option.bind (fX5_copyRow F nw ad) (fun z_1 => fX5_allLand_13 F z_1 v1 v2 F 0 nw)
abbrev rmX5_allLand : Room := { frames := 7, cells := 0, slots := 0, locals := 157 }
theorem pdX5_allLand : (yX5_allLand.cls = RX5 ∧ yX5_allLand.cls ≠ "java/lang/invoke/MethodHandle" ∧ yX5_allLand.cls ≠ "java/lang/invoke/VarHandle" ∧ (parseMethodDescriptor yX5_allLand.desc).map (fun d => d.parameters.length) = some 2) := by decide +kernel
set_option maxHeartbeats 4000000 in
set_option maxRecDepth 100000 in
theorem lX5_allLand_13 {p : Program} {l : Launch} {e : Env} {s : State} {m : MethodId} {av : Array Value} {below : List Frame} {meth : Method} {c : Code} {D : va_G} {cI cS : ClassId} {a0 a1 a2 a3 a4 a5 a6 a7 a8 a9 a10 a11 : Nat} {W0 : va_W} (C0 : CX p s m av meth c RX5 cX5_allLand 4 (some .boolean) wsX5_allLand D cI cS) (F : Nat) (kp : Nat → Int32) (ad : Nat → Int32) (fd : Nat → Int32) (tp : Nat → Int32) (kn : Nat → Option Nat) (it : Nat → Int32) (wd : Nat → Int32) (sz : Nat → Int32) (nm : Nat → Int32) (mv : Nat → Int32) (ik : Int32) (td : Int32) (bg : Int32) (en : Int32) (so : Int32) (va : Int32) (iw : Int32) (im : Int32) (st : Int32) (ht : Int32) (v1 : Int32) (v2 : Int32) (z0 : Int32) (z1 : Nat → Int32) (z2 : Nat → Int32) (hD : ∀ W : va_W, W.map Prod.fst = [a0, a1, a2, a3, a4, a5, a6, a7, a8, a9, a10, a11] → va_D (wA W0) W) : ∀ (n : Nat) (v3 : Int32) (nw : Nat → Int32) (H : Heap) (locs : List Loc), va_P D vwCl (wX5 cI cS a0 a1 a2 a3 a4 a5 a6 a7 a8 a9 a10 a11 nw kp ad fd tp kn it wd sz nm mv ik td bg en so va iw im st ht) H → va_S (wA W0) s.heap H locs → ∀ (ls : Array Slot), lv_has ls 4 [(0, .ref a0), (1, .int v1), (2, .int v2), (3, .int v3)] → fX5_allLand_13 F ad v1 v2 n v3 nw = some (z0, z1, z2) → W p l e rmX5_allLand s m av below meth c H locs 0 0 (MQ below (qI D W0 (wX5 cI cS a0 a1 a2 a3 a4 a5 a6 a7 a8 a9 a10 a11 z1 kp z2 fd tp kn it wd sz nm mv ik td bg en so va iw im st ht) z0) av s 0 0 (wA W0)) (F0 m 13 ls []) := by
  obtain ⟨hx, hb, hr, hml, hown, hts, hlk, hE⟩ := id C0
  have hinX5 : ∀ w ∈ u_ws RX5 TX5 21, w ∈ wsX5_allLand := by decide +kernel
  intro n
  induction n with
  | zero =>
    intro v3 nw H locs hP hS ls hl h
    cases (show none = some (z0, z1, z2) from h)
  | succ n ih =>
    intro v3 nw H locs hP hS ls hl h
    rw [fX5_allLand_13] at h
    refine lv_iload_n hx hb dX5_allLand_13 rfl (lv_at hl 3 rfl) ?_
    refine lv_aload_n hx hb dX5_allLand_14 rfl (lv_at hl 0 rfl) ?_
    refine va_get (D := D) (ci := 4) (v := .ref a1) (C := RX5) (T := TX5) (N := 21) hx hb hts hinX5 hown hE.1 hP 0 rfl rfl 0 (by decide) (hts _ (List.mem_of_getElem? (i := 1) rfl)) (fun _ h9 => h9) rfl dX5_allLand_15 ?_
    refine lv_iconst (v := 1) hx hb dX5_allLand_18 (by decide) ?_
    refine va_iald hx hb hE.1 hP 1 0 rfl rfl (by unfold vp_in; decide : vp_in 1 84) dX5_allLand_19 ?_
    refine lv_eqi (y := nw 1) rfl ?_
    refine lv_icmp_ge (tgt := 49) hx hb dX5_allLand_20 (by decide) (fun c_3 => ?_) (fun c_3 => ?_)
    · have h := ifp c_3 h
      refine lv_aload_n hx hb dX5_allLand_49 rfl (lv_at hl 0 rfl) ?_
      refine lv_iload_n hx hb dX5_allLand_50 rfl (lv_at hl 2 rfl) ?_
      obtain ⟨z_4, e_5, h⟩ := bds h
      have hPc := hP.sub (ws' := (wX5 cI cS a0 a1 a2 a3 a4 a5 a6 a7 a8 a9 a10 a11 nw kp ad fd tp kn it wd sz nm mv ik td bg en so va iw im st ht)) [0, 1, 2, 3, 4, 5, 6, 7, 8, 9, 10, 11] rfl
      refine kMv (wf' := (wX5 cI cS a0 a1 a2 a3 a4 a5 a6 a7 a8 a9 a10 a11 z_4 kp ad fd tp kn it wd sz nm mv ik td bg en so va iw im st ht)) [0, 1, 2, 3, 4, 5, 6, 7, 8, 9, 10, 11] [some 0, some 1, some 2, some 3, some 4, some 5, some 6, some 7, some 8, some 9, some 10, some 11] (rV C0 (tX5_daysGo l D cI cS F a0 a1 a2 a3 a4 a5 a6 a7 a8 a9 a10 a11 nw kp ad fd tp kn it wd sz nm mv ik td bg en so va iw im st ht v2 z_4 e_5 (((hD (wX5 cI cS a0 a1 a2 a3 a4 a5 a6 a7 a8 a9 a10 a11 nw kp ad fd tp kn it wd sz nm mv ik td bg en so va iw im st ht) rfl).sub [0, 1, 2, 3, 4, 5, 6, 7, 8, 9, 10, 11] (by decide) rfl).weaken (fun _ _ _ _ => trivial))) RX5 gX5_allLand_X5_daysGo rfl ⟨rfl, rfl⟩ pdX5_daysGo rfl ⟨Nat.le_of_ble_eq_true rfl, Nat.le_of_ble_eq_true rfl⟩ (fun _ _ _ _ q => q) (va_recv hE.1 hPc (ci := 4) (q0 := 0) rfl rfl) (fun U hU _ _ => by rw [hU]; exact hPc) hl.1 rfl (Nat.le_of_ble_eq_true rfl) dX5_allLand_51 ⟨Nat.zero_le _, Nat.zero_le _⟩) hP (hD _ rfl) hS rfl rfl rfl (fun H locs hP hS => ?_)
      refine lv_aload_n hx hb dX5_allLand_54 rfl (lv_at hl 0 rfl) ?_
      obtain ⟨z_6, e_7, h⟩ := bds h
      have hPc := hP.sub (ws' := (wX5 cI cS a0 a1 a2 a3 a4 a5 a6 a7 a8 a9 a10 a11 z_4 kp ad fd tp kn it wd sz nm mv ik td bg en so va iw im st ht)) [0, 1, 2, 3, 4, 5, 6, 7, 8, 9, 10, 11] rfl
      refine kRi (rV C0 (tX5_inPort l D cI cS F a0 a1 a2 a3 a4 a5 a6 a7 a8 a9 a10 a11 z_4 kp ad fd tp kn it wd sz nm mv ik td bg en so va iw im st ht  z_6 e_7) RX5 gX5_allLand_X5_inPort rfl ⟨rfl, rfl⟩ pdX5_inPort rfl ⟨Nat.le_of_ble_eq_true rfl, Nat.le_of_ble_eq_true rfl⟩ (fun _ _ _ _ q => q) (va_recv hE.1 hPc (ci := 4) (q0 := 0) rfl rfl) (fun U hU _ _ => by rw [hU]; exact hPc) hl.1 rfl (Nat.le_of_ble_eq_true rfl) dX5_allLand_55 ⟨Nat.zero_le _, Nat.zero_le _⟩) ?_
      refine lv_iconst (v := 1) hx hb dX5_allLand_58 (by decide) ?_
      refine lv_aload_n hx hb dX5_allLand_59 rfl (lv_at hl 0 rfl) ?_
      refine va_get (D := D) (ci := 4) (v := .ref a1) (C := RX5) (T := TX5) (N := 21) hx hb hts hinX5 hown hE.1 hP 0 rfl rfl 0 (by decide) (hts _ (List.mem_of_getElem? (i := 1) rfl)) (fun _ h9 => h9) rfl dX5_allLand_60 ?_
      refine lv_iconst (v := 3) hx hb dX5_allLand_63 (by decide) ?_
      refine va_iald hx hb hE.1 hP 1 0 rfl rfl (by unfold vp_in; decide : vp_in 3 84) dX5_allLand_64 ?_
      refine lv_eqi (y := z_4 3) rfl ?_
      refine lv_ishl hx hb dX5_allLand_65 ?_
      refine lv_iconst (v := 1) hx hb dX5_allLand_66 (by decide) ?_
      refine lv_isub hx hb dX5_allLand_67 ?_
      refine lv_icmp_ne (tgt := 75) hx hb dX5_allLand_68 (by decide) (fun c_8 => ?_) (fun c_8 => ?_)
      · have h := ifn c_8 h
        refine lv_iconst (v := 0) hx hb dX5_allLand_75 (by decide) ?_
        refine lv_istore_n (lv' := [(3, .int 0), (0, .ref a0), (1, .int v1), (2, .int v2)]) hx hb dX5_allLand_76 rfl hl (by decide) rfl (fun ls hl => ?_)
        refine lv_aload_n hx hb dX5_allLand_77 rfl (lv_at hl 1 rfl) ?_
        refine va_get (D := D) (ci := 4) (v := .ref a3) (C := RX5) (T := TX5) (N := 21) hx hb hts hinX5 hown hE.1 hP 0 rfl rfl 2 (by decide) (hts _ (List.mem_of_getElem? (i := 2) rfl)) (fun _ h9 => h9) rfl dX5_allLand_78 ?_
        refine lv_aload_n hx hb dX5_allLand_81 rfl (lv_at hl 1 rfl) ?_
        refine va_get (D := D) (ci := 4) (v := .ref a1) (C := RX5) (T := TX5) (N := 21) hx hb hts hinX5 hown hE.1 hP 0 rfl rfl 0 (by decide) (hts _ (List.mem_of_getElem? (i := 1) rfl)) (fun _ h9 => h9) rfl dX5_allLand_82 ?_
        obtain ⟨z_9, e_10, h⟩ := bds h
        have hPc := hP.sub (ws' := (wR2 cI cS a3 a1 ad z_4)) [3, 1] rfl
        refine kMv (wf' := (wX5 cI cS a0 a1 a2 a3 a4 a5 a6 a7 a8 a9 a10 a11 z_9 kp ad fd tp kn it wd sz nm mv ik td bg en so va iw im st ht)) [3, 1] [none, some 1, none, some 0, none, none, none, none, none, none, none, none] (rS C0 (tX5_copyRow l D cI cS F a3 a1 ad z_4  z_9 e_10 (((hD (wX5 cI cS a0 a1 a2 a3 a4 a5 a6 a7 a8 a9 a10 a11 z_4 kp ad fd tp kn it wd sz nm mv ik td bg en so va iw im st ht) rfl).sub [3, 1] (by decide) rfl).weaken (fun _ _ _ _ => trivial))) gX5_allLand_X5_copyRow rfl ⟨rfl, rfl⟩ pdX5_copyRow rfl ⟨Nat.le_of_ble_eq_true rfl, Nat.le_of_ble_eq_true rfl⟩ (fun _ _ _ _ q => q) (fun U hU _ _ => by rw [hU]; exact hPc) hl.1 rfl (Nat.le_of_ble_eq_true rfl) dX5_allLand_85 ⟨Nat.zero_le _, Nat.zero_le _⟩) hP (hD _ rfl) hS rfl rfl rfl (fun H locs hP hS => ?_)
        refine lv_iload_n hx hb dX5_allLand_88 rfl (lv_at hl 0 rfl) ?_
        obtain ⟨q0, g0⟩ := Prod.mk.inj (Option.some.inj h)
        obtain ⟨q1, q2⟩ := Prod.mk.inj g0
        subst q0 q1 q2
        exact eMz C0 hP hS rfl rfl rfl dX5_allLand_89
      · have h := ifp c_8 h
        refine lv_iconst (v := 1) hx hb dX5_allLand_71 (by decide) ?_
        refine lv_goto (tgt := 76) hx hb dX5_allLand_72 (by decide) ?_
        refine lv_istore_n (lv' := [(3, .int 1), (0, .ref a0), (1, .int v1), (2, .int v2)]) hx hb dX5_allLand_76 rfl hl (by decide) rfl (fun ls hl => ?_)
        refine lv_aload_n hx hb dX5_allLand_77 rfl (lv_at hl 1 rfl) ?_
        refine va_get (D := D) (ci := 4) (v := .ref a3) (C := RX5) (T := TX5) (N := 21) hx hb hts hinX5 hown hE.1 hP 0 rfl rfl 2 (by decide) (hts _ (List.mem_of_getElem? (i := 2) rfl)) (fun _ h9 => h9) rfl dX5_allLand_78 ?_
        refine lv_aload_n hx hb dX5_allLand_81 rfl (lv_at hl 1 rfl) ?_
        refine va_get (D := D) (ci := 4) (v := .ref a1) (C := RX5) (T := TX5) (N := 21) hx hb hts hinX5 hown hE.1 hP 0 rfl rfl 0 (by decide) (hts _ (List.mem_of_getElem? (i := 1) rfl)) (fun _ h9 => h9) rfl dX5_allLand_82 ?_
        obtain ⟨z_11, e_12, h⟩ := bds h
        have hPc := hP.sub (ws' := (wR2 cI cS a3 a1 ad z_4)) [3, 1] rfl
        refine kMv (wf' := (wX5 cI cS a0 a1 a2 a3 a4 a5 a6 a7 a8 a9 a10 a11 z_11 kp ad fd tp kn it wd sz nm mv ik td bg en so va iw im st ht)) [3, 1] [none, some 1, none, some 0, none, none, none, none, none, none, none, none] (rS C0 (tX5_copyRow l D cI cS F a3 a1 ad z_4  z_11 e_12 (((hD (wX5 cI cS a0 a1 a2 a3 a4 a5 a6 a7 a8 a9 a10 a11 z_4 kp ad fd tp kn it wd sz nm mv ik td bg en so va iw im st ht) rfl).sub [3, 1] (by decide) rfl).weaken (fun _ _ _ _ => trivial))) gX5_allLand_X5_copyRow rfl ⟨rfl, rfl⟩ pdX5_copyRow rfl ⟨Nat.le_of_ble_eq_true rfl, Nat.le_of_ble_eq_true rfl⟩ (fun _ _ _ _ q => q) (fun U hU _ _ => by rw [hU]; exact hPc) hl.1 rfl (Nat.le_of_ble_eq_true rfl) dX5_allLand_85 ⟨Nat.zero_le _, Nat.zero_le _⟩) hP (hD _ rfl) hS rfl rfl rfl (fun H locs hP hS => ?_)
        refine lv_iload_n hx hb dX5_allLand_88 rfl (lv_at hl 0 rfl) ?_
        obtain ⟨q0, g0⟩ := Prod.mk.inj (Option.some.inj h)
        obtain ⟨q1, q2⟩ := Prod.mk.inj g0
        subst q0 q1 q2
        exact eMz C0 hP hS rfl rfl rfl dX5_allLand_89
    · have h := ifn c_3 h
      refine lv_iload_n hx hb dX5_allLand_23 rfl (lv_at hl 1 rfl) ?_
      refine lv_iload_n hx hb dX5_allLand_24 rfl (lv_at hl 3 rfl) ?_
      refine lv_ishr hx hb dX5_allLand_25 ?_
      refine lv_iconst (v := 1) hx hb dX5_allLand_26 (by decide) ?_
      refine lv_iand hx hb dX5_allLand_27 ?_
      refine lv_iconst (v := 1) hx hb dX5_allLand_28 (by decide) ?_
      refine lv_icmp_ne (tgt := 43) hx hb dX5_allLand_29 (by decide) (fun c_13 => ?_) (fun c_13 => ?_)
      · have h := ifn c_13 h
        refine lv_iinc (v := v3 + 1) (lv' := [(3, .int (v3 + 1)), (0, .ref a0), (1, .int v1), (2, .int v2)]) hx hb dX5_allLand_43 hl (k := 3) rfl rfl (by decide) rfl (fun ls hl => ?_)
        refine lv_goto (tgt := 13) hx hb dX5_allLand_46 (by decide) ?_
        exact ih (v3 + 1) nw _ _ hP hS _ (lv_sub hl [1, 2, 3, 0] rfl) h
      · have h := ifp c_13 h
        refine lv_aload_n hx hb dX5_allLand_32 rfl (lv_at hl 0 rfl) ?_
        refine va_get (D := D) (ci := 4) (v := .ref a1) (C := RX5) (T := TX5) (N := 21) hx hb hts hinX5 hown hE.1 hP 0 rfl rfl 0 (by decide) (hts _ (List.mem_of_getElem? (i := 1) rfl)) (fun _ h9 => h9) rfl dX5_allLand_33 ?_
        refine lv_iload_n hx hb dX5_allLand_36 rfl (lv_at hl 3 rfl) ?_
        refine lv_iconst (v := 3) hx hb dX5_allLand_37 (by decide) ?_
        refine kRi (rS C0 (tX5_sayingAt l D cI cS v3 3 (fX5_sayingAt v3 3) rfl) gX5_allLand_X5_sayingAt rfl ⟨rfl, rfl⟩ pdX5_sayingAt rfl ⟨Nat.le_of_ble_eq_true rfl, Nat.le_of_ble_eq_true rfl⟩ (fun _ _ _ _ q => q) (fun _ _ _ _ => vp0) hl.1 rfl (Nat.le_of_ble_eq_true rfl) dX5_allLand_38 ⟨Nat.zero_le _, Nat.zero_le _⟩) ?_
        refine lv_iconst (v := 1) hx hb dX5_allLand_41 (by decide) ?_
        obtain ⟨hi_14, h⟩ := ifs h
        refine va_iast hx hb hE.1 hP (hD _ rfl) hS 1 0 rfl rfl hi_14 dX5_allLand_42 (fun H locs hP _ hS => ?_)
        have hP : va_P D vwCl (wX5 cI cS a0 a1 a2 a3 a4 a5 a6 a7 a8 a9 a10 a11 (upd nw (fX5_sayingAt v3 3).toNatClampNeg 1) kp ad fd tp kn it wd sz nm mv ik td bg en so va iw im st ht) H := hP
        refine lv_iinc (v := v3 + 1) (lv' := [(3, .int (v3 + 1)), (0, .ref a0), (1, .int v1), (2, .int v2)]) hx hb dX5_allLand_43 hl (k := 3) rfl rfl (by decide) rfl (fun ls hl => ?_)
        refine lv_goto (tgt := 13) hx hb dX5_allLand_46 (by decide) ?_
        exact ih (v3 + 1) (upd nw (fX5_sayingAt v3 3).toNatClampNeg 1) _ _ hP hS _ (lv_sub hl [1, 2, 3, 0] rfl) h
set_option maxHeartbeats 4000000 in
set_option maxRecDepth 100000 in
theorem tX5_allLand (l : Launch) (D : va_G) (cI cS : ClassId) (F : Nat) (a0 a1 a2 a3 a4 a5 a6 a7 a8 a9 a10 a11 : Nat) (nw : Nat → Int32) (kp : Nat → Int32) (ad : Nat → Int32) (fd : Nat → Int32) (tp : Nat → Int32) (kn : Nat → Option Nat) (it : Nat → Int32) (wd : Nat → Int32) (sz : Nat → Int32) (nm : Nat → Int32) (mv : Nat → Int32) (ik : Int32) (td : Int32) (bg : Int32) (en : Int32) (so : Int32) (va : Int32) (iw : Int32) (im : Int32) (st : Int32) (ht : Int32) (v1 : Int32) (v2 : Int32) (z0 : Int32) (z1 : Nat → Int32) (z2 : Nat → Int32) (h : fX5_allLand F nw ad v1 v2 = some (z0, z1, z2)) (hD0 : va_D (fun _ => True) (wX5 cI cS a0 a1 a2 a3 a4 a5 a6 a7 a8 a9 a10 a11 nw kp ad fd tp kn it wd sz nm mv ik td bg en so va iw im st ht)) : Met l yX5_allLand wsX5_allLand rmX5_allLand (PZ D cI cS [.ref a0, .int v1, .int v2] (fun U => va_P D vwCl (wX5 cI cS a0 a1 a2 a3 a4 a5 a6 a7 a8 a9 a10 a11 nw kp ad fd tp kn it wd sz nm mv ik td bg en so va iw im st ht) U.heap)) (qI D (wX5 cI cS a0 a1 a2 a3 a4 a5 a6 a7 a8 a9 a10 a11 nw kp ad fd tp kn it wd sz nm mv ik td bg en so va iw im st ht) (wX5 cI cS a0 a1 a2 a3 a4 a5 a6 a7 a8 a9 a10 a11 z1 kp z2 fd tp kn it wd sz nm mv ik td bg en so va iw im st ht) z0) 0 0 (wA (wX5 cI cS a0 a1 a2 a3 a4 a5 a6 a7 a8 a9 a10 a11 nw kp ad fd tp kn it wd sz nm mv ik td bg en so va iw im st ht)) := by
  refine Met.mk RX5 (by decide) rfl rfl (Nat.le_of_ble_eq_true rfl) ?_
  intro p e s m below meth c ls C0 hP hl
  have hl : lv_has ls 4 [(0, .ref a0), (1, .int v1), (2, .int v2)] := hl
  obtain ⟨hx, hb, hr, hml, hown, hts, hlk, hE⟩ := id C0
  have hinX5 : ∀ w ∈ u_ws RX5 TX5 21, w ∈ wsX5_allLand := by decide +kernel
  have hD : ∀ W : va_W, W.map Prod.fst = [a0, a1, a2, a3, a4, a5, a6, a7, a8, a9, a10, a11] → va_D (wA (wX5 cI cS a0 a1 a2 a3 a4 a5 a6 a7 a8 a9 a10 a11 nw kp ad fd tp kn it wd sz nm mv ik td bg en so va iw im st ht)) W := fun W hW => hD0.own.re hW
  have hS : va_S (wA (wX5 cI cS a0 a1 a2 a3 a4 a5 a6 a7 a8 a9 a10 a11 nw kp ad fd tp kn it wd sz nm mv ik td bg en so va iw im st ht)) s.heap s.heap [] := va_S.rf
  have hP : va_P D vwCl (wX5 cI cS a0 a1 a2 a3 a4 a5 a6 a7 a8 a9 a10 a11 nw kp ad fd tp kn it wd sz nm mv ik td bg en so va iw im st ht) s.heap := hP
  rw [fX5_allLand] at h
  refine lv_aload_n hx hb dX5_allLand_0 rfl (lv_at hl 0 rfl) ?_
  refine va_get (D := D) (ci := 4) (v := .ref a1) (C := RX5) (T := TX5) (N := 21) hx hb hts hinX5 hown hE.1 hP 0 rfl rfl 0 (by decide) (hts _ (List.mem_of_getElem? (i := 1) rfl)) (fun _ h9 => h9) rfl dX5_allLand_1 ?_
  refine lv_aload_n hx hb dX5_allLand_4 rfl (lv_at hl 0 rfl) ?_
  refine va_get (D := D) (ci := 4) (v := .ref a3) (C := RX5) (T := TX5) (N := 21) hx hb hts hinX5 hown hE.1 hP 0 rfl rfl 2 (by decide) (hts _ (List.mem_of_getElem? (i := 2) rfl)) (fun _ h9 => h9) rfl dX5_allLand_5 ?_
  obtain ⟨z_1, e_2, h⟩ := bds h
  have hPc := hP.sub (ws' := (wR2 cI cS a1 a3 nw ad)) [1, 3] rfl
  refine kMv (wf' := (wX5 cI cS a0 a1 a2 a3 a4 a5 a6 a7 a8 a9 a10 a11 nw kp z_1 fd tp kn it wd sz nm mv ik td bg en so va iw im st ht)) [1, 3] [none, some 0, none, some 1, none, none, none, none, none, none, none, none] (rS C0 (tX5_copyRow l D cI cS F a1 a3 nw ad  z_1 e_2 (((hD (wX5 cI cS a0 a1 a2 a3 a4 a5 a6 a7 a8 a9 a10 a11 nw kp ad fd tp kn it wd sz nm mv ik td bg en so va iw im st ht) rfl).sub [1, 3] (by decide) rfl).weaken (fun _ _ _ _ => trivial))) gX5_allLand_X5_copyRow rfl ⟨rfl, rfl⟩ pdX5_copyRow rfl ⟨Nat.le_of_ble_eq_true rfl, Nat.le_of_ble_eq_true rfl⟩ (fun _ _ _ _ q => q) (fun U hU _ _ => by rw [hU]; exact hPc) hl.1 rfl (Nat.le_of_ble_eq_true rfl) dX5_allLand_8 ⟨Nat.zero_le _, Nat.zero_le _⟩) hP (hD _ rfl) hS rfl rfl rfl (fun H locs hP hS => ?_)
  refine lv_iconst (v := 0) hx hb dX5_allLand_11 (by decide) ?_
  refine lv_istore_n (lv' := [(3, .int 0), (0, .ref a0), (1, .int v1), (2, .int v2)]) hx hb dX5_allLand_12 rfl hl (by decide) rfl (fun ls hl => ?_)
  exact lX5_allLand_13 (l := l) (e := e) (below := below) C0 F kp z_1 fd tp kn it wd sz nm mv ik td bg en so va iw im st ht v1 v2 z0 z1 z2 hD F 0 nw _ _ hP hS _ (lv_sub hl [1, 2, 3, 0] rfl) h
def fX5_decide_30 (F : Nat) (v1 : Int32) : Nat → Int32 → Int32 → (Nat → Int32) → (Nat → Int32) → (Nat → Int32) → Option (Int32 × (Nat → Int32) × (Nat → Int32) × (Nat → Int32))
  | 0, _, _, _, _, _ => none
  | n + 1, v2, v3, nw, ad, fd => (if v3 < 0 then Option.bind (fX5_orNone fd v2) (fun z_3 => some (z_3.1, nw, ad, z_3.2)) else (if v2 < 0 then Option.bind (fX5_allLand F nw ad v3 v1) (fun z_6 => (if z_6.1 = 0 then fX5_decide_30 F v1 n v2 (v3 + (-1)) z_6.2.1 z_6.2.2 fd else fX5_decide_30 F v1 n v3 (v3 + (-1)) z_6.2.1 z_6.2.2 fd)) else Option.bind (fX5_bits F v3) (fun z_9 => Option.bind (fX5_bits F v2) (fun z_11 => (if z_11 < z_9 then fX5_decide_30 F v1 n v2 (v3 + (-1)) nw ad fd else Option.bind (fX5_allLand F nw ad v3 v1) (fun z_14 => (if z_14.1 = 0 then fX5_decide_30 F v1 n v2 (v3 + (-1)) z_14.2.1 z_14.2.2 fd else fX5_decide_30 F v1 n v3 (v3 + (-1)) z_14.2.1 z_14.2.2 fd)))))))
def fX5_decide (F : Nat) (nw : Nat → Int32) (ad : Nat → Int32) (fd : Nat → Int32) (v1 : Int32) : Option (Int32 × (Nat → Int32) × (Nat → Int32) × (Nat → Int32)) := (if (fX5_within v1 0 16) = 0 then Option.bind (fX5_finding fd (-1000001)) (fun z_17 => some (z_17.1, nw, ad, z_17.2)) else fX5_decide_30 F v1 F (-1) ((1 <<< ((nw 1) &&& 31)) - 1) nw ad fd)
abbrev rmX5_decide : Room := { frames := 8, cells := 0, slots := 0, locals := 180 }
theorem pdX5_decide : (yX5_decide.cls = RX5 ∧ yX5_decide.cls ≠ "java/lang/invoke/MethodHandle" ∧ yX5_decide.cls ≠ "java/lang/invoke/VarHandle" ∧ (parseMethodDescriptor yX5_decide.desc).map (fun d => d.parameters.length) = some 1) := by decide +kernel
set_option maxHeartbeats 4000000 in
set_option maxRecDepth 100000 in
theorem lX5_decide_30 {p : Program} {l : Launch} {e : Env} {s : State} {m : MethodId} {av : Array Value} {below : List Frame} {meth : Method} {c : Code} {D : va_G} {cI cS : ClassId} {a0 a1 a2 a3 a4 a5 a6 a7 a8 a9 a10 a11 : Nat} {W0 : va_W} (C0 : CX p s m av meth c RX5 cX5_decide 4 (some .int) wsX5_decide D cI cS) (F : Nat) (kp : Nat → Int32) (tp : Nat → Int32) (kn : Nat → Option Nat) (it : Nat → Int32) (wd : Nat → Int32) (sz : Nat → Int32) (nm : Nat → Int32) (mv : Nat → Int32) (ik : Int32) (td : Int32) (bg : Int32) (en : Int32) (so : Int32) (va : Int32) (iw : Int32) (im : Int32) (st : Int32) (ht : Int32) (v1 : Int32) (z0 : Int32) (z1 : Nat → Int32) (z2 : Nat → Int32) (z3 : Nat → Int32) (hD : ∀ W : va_W, W.map Prod.fst = [a0, a1, a2, a3, a4, a5, a6, a7, a8, a9, a10, a11] → va_D (wA W0) W) : ∀ (n : Nat) (v2 : Int32) (v3 : Int32) (nw : Nat → Int32) (ad : Nat → Int32) (fd : Nat → Int32) (H : Heap) (locs : List Loc), va_P D vwCl (wX5 cI cS a0 a1 a2 a3 a4 a5 a6 a7 a8 a9 a10 a11 nw kp ad fd tp kn it wd sz nm mv ik td bg en so va iw im st ht) H → va_S (wA W0) s.heap H locs → ∀ (ls : Array Slot), lv_has ls 4 [(0, .ref a0), (1, .int v1), (2, .int v2), (3, .int v3)] → fX5_decide_30 F v1 n v2 v3 nw ad fd = some (z0, z1, z2, z3) → W p l e rmX5_decide s m av below meth c H locs 0 0 (MQ below (qI D W0 (wX5 cI cS a0 a1 a2 a3 a4 a5 a6 a7 a8 a9 a10 a11 z1 kp z2 z3 tp kn it wd sz nm mv ik td bg en so va iw im st ht) z0) av s 0 0 (wA W0)) (F0 m 30 ls []) := by
  obtain ⟨hx, hb, hr, hml, hown, hts, hlk, hE⟩ := id C0
  have hinX5 : ∀ w ∈ u_ws RX5 TX5 21, w ∈ wsX5_decide := by decide +kernel
  intro n
  induction n with
  | zero =>
    intro v2 v3 nw ad fd H locs hP hS ls hl h
    cases (show none = some (z0, z1, z2, z3) from h)
  | succ n ih =>
    intro v2 v3 nw ad fd H locs hP hS ls hl h
    rw [fX5_decide_30] at h
    refine lv_iload_n hx hb dX5_decide_30 rfl (lv_at hl 3 rfl) ?_
    refine lv_if_lt (tgt := 70) hx hb dX5_decide_31 (by decide) (fun c_2 => ?_) (fun c_2 => ?_)
    · have h := ifp c_2 h
      refine lv_aload_n hx hb dX5_decide_70 rfl (lv_at hl 0 rfl) ?_
      refine lv_iload_n hx hb dX5_decide_71 rfl (lv_at hl 2 rfl) ?_
      obtain ⟨z_3, e_4, h⟩ := bds h
      have hPc := hP.sub (ws' := (wX5 cI cS a0 a1 a2 a3 a4 a5 a6 a7 a8 a9 a10 a11 nw kp ad fd tp kn it wd sz nm mv ik td bg en so va iw im st ht)) [0, 1, 2, 3, 4, 5, 6, 7, 8, 9, 10, 11] rfl
      refine kMi (wf' := (wX5 cI cS a0 a1 a2 a3 a4 a5 a6 a7 a8 a9 a10 a11 nw kp ad z_3.2 tp kn it wd sz nm mv ik td bg en so va iw im st ht)) [0, 1, 2, 3, 4, 5, 6, 7, 8, 9, 10, 11] [some 0, some 1, some 2, some 3, some 4, some 5, some 6, some 7, some 8, some 9, some 10, some 11] (rV C0 (tX5_orNone l D cI cS a0 a1 a2 a3 a4 a5 a6 a7 a8 a9 a10 a11 nw kp ad fd tp kn it wd sz nm mv ik td bg en so va iw im st ht v2 z_3.1 z_3.2 e_4 (((hD (wX5 cI cS a0 a1 a2 a3 a4 a5 a6 a7 a8 a9 a10 a11 nw kp ad fd tp kn it wd sz nm mv ik td bg en so va iw im st ht) rfl).sub [0, 1, 2, 3, 4, 5, 6, 7, 8, 9, 10, 11] (by decide) rfl).weaken (fun _ _ _ _ => trivial))) RX5 gX5_decide_X5_orNone rfl ⟨rfl, rfl⟩ pdX5_orNone rfl ⟨Nat.le_of_ble_eq_true rfl, Nat.le_of_ble_eq_true rfl⟩ (fun _ _ _ _ q => q) (va_recv hE.1 hPc (ci := 4) (q0 := 0) rfl rfl) (fun U hU _ _ => by rw [hU]; exact hPc) hl.1 rfl (Nat.le_of_ble_eq_true rfl) dX5_decide_72 ⟨Nat.zero_le _, Nat.zero_le _⟩) hP (hD _ rfl) hS rfl rfl rfl (fun H locs hP hS => ?_)
      obtain ⟨q0, g0⟩ := Prod.mk.inj (Option.some.inj h)
      obtain ⟨q1, g1⟩ := Prod.mk.inj g0
      obtain ⟨q2, q3⟩ := Prod.mk.inj g1
      subst q0 q1 q2 q3
      exact eMi C0 hP hS rfl rfl dX5_decide_75
    · have h := ifn c_2 h
      refine lv_iload_n hx hb dX5_decide_34 rfl (lv_at hl 2 rfl) ?_
      refine lv_if_lt (tgt := 49) hx hb dX5_decide_35 (by decide) (fun c_5 => ?_) (fun c_5 => ?_)
      · have h := ifp c_5 h
        refine lv_aload_n hx hb dX5_decide_49 rfl (lv_at hl 0 rfl) ?_
        refine lv_iload_n hx hb dX5_decide_50 rfl (lv_at hl 3 rfl) ?_
        refine lv_iload_n hx hb dX5_decide_51 rfl (lv_at hl 1 rfl) ?_
        obtain ⟨z_6, e_7, h⟩ := bds h
        have hPc := hP.sub (ws' := (wX5 cI cS a0 a1 a2 a3 a4 a5 a6 a7 a8 a9 a10 a11 nw kp ad fd tp kn it wd sz nm mv ik td bg en so va iw im st ht)) [0, 1, 2, 3, 4, 5, 6, 7, 8, 9, 10, 11] rfl
        refine kMi (wf' := (wX5 cI cS a0 a1 a2 a3 a4 a5 a6 a7 a8 a9 a10 a11 z_6.2.1 kp z_6.2.2 fd tp kn it wd sz nm mv ik td bg en so va iw im st ht)) [0, 1, 2, 3, 4, 5, 6, 7, 8, 9, 10, 11] [some 0, some 1, some 2, some 3, some 4, some 5, some 6, some 7, some 8, some 9, some 10, some 11] (rV C0 (tX5_allLand l D cI cS F a0 a1 a2 a3 a4 a5 a6 a7 a8 a9 a10 a11 nw kp ad fd tp kn it wd sz nm mv ik td bg en so va iw im st ht v3 v1 z_6.1 z_6.2.1 z_6.2.2 e_7 (((hD (wX5 cI cS a0 a1 a2 a3 a4 a5 a6 a7 a8 a9 a10 a11 nw kp ad fd tp kn it wd sz nm mv ik td bg en so va iw im st ht) rfl).sub [0, 1, 2, 3, 4, 5, 6, 7, 8, 9, 10, 11] (by decide) rfl).weaken (fun _ _ _ _ => trivial))) RX5 gX5_decide_X5_allLand rfl ⟨rfl, rfl⟩ pdX5_allLand rfl ⟨Nat.le_of_ble_eq_true rfl, Nat.le_of_ble_eq_true rfl⟩ (fun _ _ _ _ q => q) (va_recv hE.1 hPc (ci := 4) (q0 := 0) rfl rfl) (fun U hU _ _ => by rw [hU]; exact hPc) hl.1 rfl (Nat.le_of_ble_eq_true rfl) dX5_decide_52 ⟨Nat.zero_le _, Nat.zero_le _⟩) hP (hD _ rfl) hS rfl rfl rfl (fun H locs hP hS => ?_)
        refine lv_if_eq (tgt := 62) hx hb dX5_decide_55 (by decide) (fun c_8 => ?_) (fun c_8 => ?_)
        · have h := ifp c_8 h
          refine lv_iload_n hx hb dX5_decide_62 rfl (lv_at hl 2 rfl) ?_
          refine lv_istore_n (lv' := [(2, .int v2), (0, .ref a0), (1, .int v1), (3, .int v3)]) hx hb dX5_decide_63 rfl hl (by decide) rfl (fun ls hl => ?_)
          refine lv_iinc (v := v3 + (-1)) (lv' := [(3, .int (v3 + (-1))), (2, .int v2), (0, .ref a0), (1, .int v1)]) hx hb dX5_decide_64 hl (k := 3) rfl rfl (by decide) rfl (fun ls hl => ?_)
          refine lv_goto (tgt := 30) hx hb dX5_decide_67 (by decide) ?_
          exact ih v2 (v3 + (-1)) z_6.2.1 z_6.2.2 fd _ _ hP hS _ (lv_sub hl [2, 3, 1, 0] rfl) h
        · have h := ifn c_8 h
          refine lv_iload_n hx hb dX5_decide_58 rfl (lv_at hl 3 rfl) ?_
          refine lv_goto (tgt := 63) hx hb dX5_decide_59 (by decide) ?_
          refine lv_istore_n (lv' := [(2, .int v3), (0, .ref a0), (1, .int v1), (3, .int v3)]) hx hb dX5_decide_63 rfl hl (by decide) rfl (fun ls hl => ?_)
          refine lv_iinc (v := v3 + (-1)) (lv' := [(3, .int (v3 + (-1))), (2, .int v3), (0, .ref a0), (1, .int v1)]) hx hb dX5_decide_64 hl (k := 3) rfl rfl (by decide) rfl (fun ls hl => ?_)
          refine lv_goto (tgt := 30) hx hb dX5_decide_67 (by decide) ?_
          exact ih v3 (v3 + (-1)) z_6.2.1 z_6.2.2 fd _ _ hP hS _ (lv_sub hl [2, 3, 1, 0] rfl) h
      · have h := ifn c_5 h
        refine lv_iload_n hx hb dX5_decide_38 rfl (lv_at hl 3 rfl) ?_
        obtain ⟨z_9, e_10, h⟩ := bds h
        refine kRi (rS C0 (tX5_bits l D cI cS F v3 z_9 e_10) gX5_decide_X5_bits rfl ⟨rfl, rfl⟩ pdX5_bits rfl ⟨Nat.le_of_ble_eq_true rfl, Nat.le_of_ble_eq_true rfl⟩ (fun _ _ _ _ q => q) (fun _ _ _ _ => vp0) hl.1 rfl (Nat.le_of_ble_eq_true rfl) dX5_decide_39 ⟨Nat.zero_le _, Nat.zero_le _⟩) ?_
        refine lv_iload_n hx hb dX5_decide_42 rfl (lv_at hl 2 rfl) ?_
        obtain ⟨z_11, e_12, h⟩ := bds h
        refine kRi (rS C0 (tX5_bits l D cI cS F v2 z_11 e_12) gX5_decide_X5_bits rfl ⟨rfl, rfl⟩ pdX5_bits rfl ⟨Nat.le_of_ble_eq_true rfl, Nat.le_of_ble_eq_true rfl⟩ (fun _ _ _ _ q => q) (fun _ _ _ _ => vp0) hl.1 rfl (Nat.le_of_ble_eq_true rfl) dX5_decide_43 ⟨Nat.zero_le _, Nat.zero_le _⟩) ?_
        refine lv_icmp_gt (tgt := 62) hx hb dX5_decide_46 (by decide) (fun c_13 => ?_) (fun c_13 => ?_)
        · have h := ifp c_13 h
          refine lv_iload_n hx hb dX5_decide_62 rfl (lv_at hl 2 rfl) ?_
          refine lv_istore_n (lv' := [(2, .int v2), (0, .ref a0), (1, .int v1), (3, .int v3)]) hx hb dX5_decide_63 rfl hl (by decide) rfl (fun ls hl => ?_)
          refine lv_iinc (v := v3 + (-1)) (lv' := [(3, .int (v3 + (-1))), (2, .int v2), (0, .ref a0), (1, .int v1)]) hx hb dX5_decide_64 hl (k := 3) rfl rfl (by decide) rfl (fun ls hl => ?_)
          refine lv_goto (tgt := 30) hx hb dX5_decide_67 (by decide) ?_
          exact ih v2 (v3 + (-1)) nw ad fd _ _ hP hS _ (lv_sub hl [2, 3, 1, 0] rfl) h
        · have h := ifn c_13 h
          refine lv_aload_n hx hb dX5_decide_49 rfl (lv_at hl 0 rfl) ?_
          refine lv_iload_n hx hb dX5_decide_50 rfl (lv_at hl 3 rfl) ?_
          refine lv_iload_n hx hb dX5_decide_51 rfl (lv_at hl 1 rfl) ?_
          obtain ⟨z_14, e_15, h⟩ := bds h
          have hPc := hP.sub (ws' := (wX5 cI cS a0 a1 a2 a3 a4 a5 a6 a7 a8 a9 a10 a11 nw kp ad fd tp kn it wd sz nm mv ik td bg en so va iw im st ht)) [0, 1, 2, 3, 4, 5, 6, 7, 8, 9, 10, 11] rfl
          refine kMi (wf' := (wX5 cI cS a0 a1 a2 a3 a4 a5 a6 a7 a8 a9 a10 a11 z_14.2.1 kp z_14.2.2 fd tp kn it wd sz nm mv ik td bg en so va iw im st ht)) [0, 1, 2, 3, 4, 5, 6, 7, 8, 9, 10, 11] [some 0, some 1, some 2, some 3, some 4, some 5, some 6, some 7, some 8, some 9, some 10, some 11] (rV C0 (tX5_allLand l D cI cS F a0 a1 a2 a3 a4 a5 a6 a7 a8 a9 a10 a11 nw kp ad fd tp kn it wd sz nm mv ik td bg en so va iw im st ht v3 v1 z_14.1 z_14.2.1 z_14.2.2 e_15 (((hD (wX5 cI cS a0 a1 a2 a3 a4 a5 a6 a7 a8 a9 a10 a11 nw kp ad fd tp kn it wd sz nm mv ik td bg en so va iw im st ht) rfl).sub [0, 1, 2, 3, 4, 5, 6, 7, 8, 9, 10, 11] (by decide) rfl).weaken (fun _ _ _ _ => trivial))) RX5 gX5_decide_X5_allLand rfl ⟨rfl, rfl⟩ pdX5_allLand rfl ⟨Nat.le_of_ble_eq_true rfl, Nat.le_of_ble_eq_true rfl⟩ (fun _ _ _ _ q => q) (va_recv hE.1 hPc (ci := 4) (q0 := 0) rfl rfl) (fun U hU _ _ => by rw [hU]; exact hPc) hl.1 rfl (Nat.le_of_ble_eq_true rfl) dX5_decide_52 ⟨Nat.zero_le _, Nat.zero_le _⟩) hP (hD _ rfl) hS rfl rfl rfl (fun H locs hP hS => ?_)
          refine lv_if_eq (tgt := 62) hx hb dX5_decide_55 (by decide) (fun c_16 => ?_) (fun c_16 => ?_)
          · have h := ifp c_16 h
            refine lv_iload_n hx hb dX5_decide_62 rfl (lv_at hl 2 rfl) ?_
            refine lv_istore_n (lv' := [(2, .int v2), (0, .ref a0), (1, .int v1), (3, .int v3)]) hx hb dX5_decide_63 rfl hl (by decide) rfl (fun ls hl => ?_)
            refine lv_iinc (v := v3 + (-1)) (lv' := [(3, .int (v3 + (-1))), (2, .int v2), (0, .ref a0), (1, .int v1)]) hx hb dX5_decide_64 hl (k := 3) rfl rfl (by decide) rfl (fun ls hl => ?_)
            refine lv_goto (tgt := 30) hx hb dX5_decide_67 (by decide) ?_
            exact ih v2 (v3 + (-1)) z_14.2.1 z_14.2.2 fd _ _ hP hS _ (lv_sub hl [2, 3, 1, 0] rfl) h
          · have h := ifn c_16 h
            refine lv_iload_n hx hb dX5_decide_58 rfl (lv_at hl 3 rfl) ?_
            refine lv_goto (tgt := 63) hx hb dX5_decide_59 (by decide) ?_
            refine lv_istore_n (lv' := [(2, .int v3), (0, .ref a0), (1, .int v1), (3, .int v3)]) hx hb dX5_decide_63 rfl hl (by decide) rfl (fun ls hl => ?_)
            refine lv_iinc (v := v3 + (-1)) (lv' := [(3, .int (v3 + (-1))), (2, .int v3), (0, .ref a0), (1, .int v1)]) hx hb dX5_decide_64 hl (k := 3) rfl rfl (by decide) rfl (fun ls hl => ?_)
            refine lv_goto (tgt := 30) hx hb dX5_decide_67 (by decide) ?_
            exact ih v3 (v3 + (-1)) z_14.2.1 z_14.2.2 fd _ _ hP hS _ (lv_sub hl [2, 3, 1, 0] rfl) h
set_option maxHeartbeats 4000000 in
set_option maxRecDepth 100000 in
theorem tX5_decide (l : Launch) (D : va_G) (cI cS : ClassId) (F : Nat) (a0 a1 a2 a3 a4 a5 a6 a7 a8 a9 a10 a11 : Nat) (nw : Nat → Int32) (kp : Nat → Int32) (ad : Nat → Int32) (fd : Nat → Int32) (tp : Nat → Int32) (kn : Nat → Option Nat) (it : Nat → Int32) (wd : Nat → Int32) (sz : Nat → Int32) (nm : Nat → Int32) (mv : Nat → Int32) (ik : Int32) (td : Int32) (bg : Int32) (en : Int32) (so : Int32) (va : Int32) (iw : Int32) (im : Int32) (st : Int32) (ht : Int32) (v1 : Int32) (z0 : Int32) (z1 : Nat → Int32) (z2 : Nat → Int32) (z3 : Nat → Int32) (h : fX5_decide F nw ad fd v1 = some (z0, z1, z2, z3)) (hD0 : va_D (fun _ => True) (wX5 cI cS a0 a1 a2 a3 a4 a5 a6 a7 a8 a9 a10 a11 nw kp ad fd tp kn it wd sz nm mv ik td bg en so va iw im st ht)) : Met l yX5_decide wsX5_decide rmX5_decide (PZ D cI cS [.ref a0, .int v1] (fun U => va_P D vwCl (wX5 cI cS a0 a1 a2 a3 a4 a5 a6 a7 a8 a9 a10 a11 nw kp ad fd tp kn it wd sz nm mv ik td bg en so va iw im st ht) U.heap)) (qI D (wX5 cI cS a0 a1 a2 a3 a4 a5 a6 a7 a8 a9 a10 a11 nw kp ad fd tp kn it wd sz nm mv ik td bg en so va iw im st ht) (wX5 cI cS a0 a1 a2 a3 a4 a5 a6 a7 a8 a9 a10 a11 z1 kp z2 z3 tp kn it wd sz nm mv ik td bg en so va iw im st ht) z0) 0 0 (wA (wX5 cI cS a0 a1 a2 a3 a4 a5 a6 a7 a8 a9 a10 a11 nw kp ad fd tp kn it wd sz nm mv ik td bg en so va iw im st ht)) := by
  refine Met.mk RX5 (by decide) rfl rfl (Nat.le_of_ble_eq_true rfl) ?_
  intro p e s m below meth c ls C0 hP hl
  have hl : lv_has ls 4 [(0, .ref a0), (1, .int v1)] := hl
  obtain ⟨hx, hb, hr, hml, hown, hts, hlk, hE⟩ := id C0
  have hinX5 : ∀ w ∈ u_ws RX5 TX5 21, w ∈ wsX5_decide := by decide +kernel
  have hD : ∀ W : va_W, W.map Prod.fst = [a0, a1, a2, a3, a4, a5, a6, a7, a8, a9, a10, a11] → va_D (wA (wX5 cI cS a0 a1 a2 a3 a4 a5 a6 a7 a8 a9 a10 a11 nw kp ad fd tp kn it wd sz nm mv ik td bg en so va iw im st ht)) W := fun W hW => hD0.own.re hW
  have hS : va_S (wA (wX5 cI cS a0 a1 a2 a3 a4 a5 a6 a7 a8 a9 a10 a11 nw kp ad fd tp kn it wd sz nm mv ik td bg en so va iw im st ht)) s.heap s.heap [] := va_S.rf
  have hP : va_P D vwCl (wX5 cI cS a0 a1 a2 a3 a4 a5 a6 a7 a8 a9 a10 a11 nw kp ad fd tp kn it wd sz nm mv ik td bg en so va iw im st ht) s.heap := hP
  rw [fX5_decide] at h
  refine lv_iload_n hx hb dX5_decide_0 rfl (lv_at hl 1 rfl) ?_
  refine lv_iconst (v := 0) hx hb dX5_decide_1 (by decide) ?_
  refine lv_bipush (v := 16) hx hb dX5_decide_2 (by decide) ?_
  refine kRi (rS C0 (tX5_within l D cI cS v1 0 16 (fX5_within v1 0 16) rfl) gX5_decide_X5_within rfl ⟨rfl, rfl⟩ pdX5_within rfl ⟨Nat.le_of_ble_eq_true rfl, Nat.le_of_ble_eq_true rfl⟩ (fun _ _ _ _ q => q) (fun _ _ _ _ => vp0) hl.1 rfl (Nat.le_of_ble_eq_true rfl) dX5_decide_4 ⟨Nat.zero_le _, Nat.zero_le _⟩) ?_
  refine lv_if_ne (tgt := 17) hx hb dX5_decide_7 (by decide) (fun c_1 => ?_) (fun c_1 => ?_)
  · have h := ifn c_1 h
    refine lv_iconst (v := (-1)) hx hb dX5_decide_17 (by decide) ?_
    refine lv_istore_n (lv' := [(2, .int (-1)), (0, .ref a0), (1, .int v1)]) hx hb dX5_decide_18 rfl hl (by decide) rfl (fun ls hl => ?_)
    refine lv_iconst (v := 1) hx hb dX5_decide_19 (by decide) ?_
    refine lv_aload_n hx hb dX5_decide_20 rfl (lv_at hl 1 rfl) ?_
    refine va_get (D := D) (ci := 4) (v := .ref a1) (C := RX5) (T := TX5) (N := 21) hx hb hts hinX5 hown hE.1 hP 0 rfl rfl 0 (by decide) (hts _ (List.mem_of_getElem? (i := 2) rfl)) (fun _ h9 => h9) rfl dX5_decide_21 ?_
    refine lv_iconst (v := 1) hx hb dX5_decide_24 (by decide) ?_
    refine va_iald hx hb hE.1 hP 1 0 rfl rfl (by unfold vp_in; decide : vp_in 1 84) dX5_decide_25 ?_
    refine lv_eqi (y := nw 1) rfl ?_
    refine lv_ishl hx hb dX5_decide_26 ?_
    refine lv_iconst (v := 1) hx hb dX5_decide_27 (by decide) ?_
    refine lv_isub hx hb dX5_decide_28 ?_
    refine lv_istore_n (lv' := [(3, .int ((1 <<< ((nw 1) &&& 31)) - 1)), (2, .int (-1)), (0, .ref a0), (1, .int v1)]) hx hb dX5_decide_29 rfl hl (by decide) rfl (fun ls hl => ?_)
    exact lX5_decide_30 (l := l) (e := e) (below := below) C0 F kp tp kn it wd sz nm mv ik td bg en so va iw im st ht v1 z0 z1 z2 z3 hD F (-1) ((1 <<< ((nw 1) &&& 31)) - 1) nw ad fd _ _ hP hS _ (lv_sub hl [2, 3, 1, 0] rfl) h
  · have h := ifp c_1 h
    refine lv_aload_n hx hb dX5_decide_10 rfl (lv_at hl 0 rfl) ?_
    refine lv_ldc (v := (-1000001)) hx hb hown (hts _ (List.mem_of_getElem? (i := 1) rfl)) dX5_decide_11 ?_
    obtain ⟨z_17, e_18, h⟩ := bds h
    have hPc := hP.sub (ws' := (wX5 cI cS a0 a1 a2 a3 a4 a5 a6 a7 a8 a9 a10 a11 nw kp ad fd tp kn it wd sz nm mv ik td bg en so va iw im st ht)) [0, 1, 2, 3, 4, 5, 6, 7, 8, 9, 10, 11] rfl
    refine kMi (wf' := (wX5 cI cS a0 a1 a2 a3 a4 a5 a6 a7 a8 a9 a10 a11 nw kp ad z_17.2 tp kn it wd sz nm mv ik td bg en so va iw im st ht)) [0, 1, 2, 3, 4, 5, 6, 7, 8, 9, 10, 11] [some 0, some 1, some 2, some 3, some 4, some 5, some 6, some 7, some 8, some 9, some 10, some 11] (rV C0 (tX5_finding l D cI cS a0 a1 a2 a3 a4 a5 a6 a7 a8 a9 a10 a11 nw kp ad fd tp kn it wd sz nm mv ik td bg en so va iw im st ht (-1000001) z_17.1 z_17.2 e_18 (((hD (wX5 cI cS a0 a1 a2 a3 a4 a5 a6 a7 a8 a9 a10 a11 nw kp ad fd tp kn it wd sz nm mv ik td bg en so va iw im st ht) rfl).sub [0, 1, 2, 3, 4, 5, 6, 7, 8, 9, 10, 11] (by decide) rfl).weaken (fun _ _ _ _ => trivial))) RX5 gX5_decide_X5_finding rfl ⟨rfl, rfl⟩ pdX5_finding rfl ⟨Nat.le_of_ble_eq_true rfl, Nat.le_of_ble_eq_true rfl⟩ (fun _ _ _ _ q => q) (va_recv hE.1 hPc (ci := 4) (q0 := 0) rfl rfl) (fun U hU _ _ => by rw [hU]; exact hPc) hl.1 rfl (Nat.le_of_ble_eq_true rfl) dX5_decide_13 ⟨Nat.zero_le _, Nat.zero_le _⟩) hP (hD _ rfl) hS rfl rfl rfl (fun H locs hP hS => ?_)
    obtain ⟨q0, g0⟩ := Prod.mk.inj (Option.some.inj h)
    obtain ⟨q1, g1⟩ := Prod.mk.inj g0
    obtain ⟨q2, q3⟩ := Prod.mk.inj g1
    subst q0 q1 q2 q3
    exact eMi C0 hP hS rfl rfl dX5_decide_16
def fX5_isSheet (v0 : Int32) : Int32 := (fX5_within v0 0 3)
abbrev rmX5_isSheet : Room := { frames := 1, cells := 0, slots := 0, locals := 22 }
theorem pdX5_isSheet : (yX5_isSheet.cls ≠ "java/lang/invoke/MethodHandle" ∧ yX5_isSheet.cls ≠ "java/lang/invoke/VarHandle" ∧ (parseMethodDescriptor yX5_isSheet.desc).map (fun d => d.parameters.length) = some 1) := by decide +kernel
set_option maxHeartbeats 4000000 in
set_option maxRecDepth 100000 in
theorem tX5_isSheet (l : Launch) (D : va_G) (cI cS : ClassId) (v0 : Int32) (z0 : Int32) (h : fX5_isSheet v0 = z0) : Met l yX5_isSheet wsX5_isSheet rmX5_isSheet (PZ D cI cS [.int v0] (fun U => va_P D vwCl ([] : va_W) U.heap)) (vp_Si (fun x => x = z0)) 0 0 (fun _ => False) := by
  refine Met.mk RX5 (by decide) rfl rfl (Nat.le_of_ble_eq_true rfl) ?_
  intro p e s m below meth c ls C0 hP hl
  have hl : lv_has ls 1 [(0, .int v0)] := hl
  obtain ⟨hx, hb, hr, hml, hown, hts, hlk, hE⟩ := id C0
  rw [fX5_isSheet] at h
  refine lv_iload_n hx hb dX5_isSheet_0 rfl (lv_at hl 0 rfl) ?_
  refine lv_iconst (v := 0) hx hb dX5_isSheet_1 (by decide) ?_
  refine lv_iconst (v := 3) hx hb dX5_isSheet_2 (by decide) ?_
  refine kRi (rS C0 (tX5_within l D cI cS v0 0 3 (fX5_within v0 0 3) rfl) gX5_isSheet_X5_within rfl ⟨rfl, rfl⟩ pdX5_within rfl ⟨Nat.le_of_ble_eq_true rfl, Nat.le_of_ble_eq_true rfl⟩ (fun _ _ _ _ q => q) (fun _ _ _ _ => vp0) hl.1 rfl (Nat.le_of_ble_eq_true rfl) dX5_isSheet_3 ⟨Nat.zero_le _, Nat.zero_le _⟩) ?_
  exact eRz C0 (zzX5_within ..) h dX5_isSheet_6
theorem zzX5_isSheet (v0 : Int32) : narrow .boolean (.int (fX5_isSheet v0)) = .int (fX5_isSheet v0) := zzX5_within ..
def fX5_lacks (wd : Nat → Int32) (v1 : Int32) (v2 : Int32) : Option (Int32) := (if (fX5_isSheet v1) = 0 then some (-1000001) else if ¬ (v1 < 0 ∨ 4 ≤ v1.toNatClampNeg) then (if (wd v1.toNatClampNeg) = 0 then some (-1000006) else (if v2 = 0 then some (-1000001) else some 0)) else none)
abbrev rmX5_lacks : Room := { frames := 2, cells := 0, slots := 0, locals := 42 }
theorem pdX5_lacks : (yX5_lacks.cls = RX5 ∧ yX5_lacks.cls ≠ "java/lang/invoke/MethodHandle" ∧ yX5_lacks.cls ≠ "java/lang/invoke/VarHandle" ∧ (parseMethodDescriptor yX5_lacks.desc).map (fun d => d.parameters.length) = some 2) := by decide +kernel
set_option maxHeartbeats 4000000 in
set_option maxRecDepth 100000 in
theorem tX5_lacks (l : Launch) (D : va_G) (cI cS : ClassId) (a0 a1 a2 a3 a4 a5 a6 a7 a8 a9 a10 a11 : Nat) (nw : Nat → Int32) (kp : Nat → Int32) (ad : Nat → Int32) (fd : Nat → Int32) (tp : Nat → Int32) (kn : Nat → Option Nat) (it : Nat → Int32) (wd : Nat → Int32) (sz : Nat → Int32) (nm : Nat → Int32) (mv : Nat → Int32) (ik : Int32) (td : Int32) (bg : Int32) (en : Int32) (so : Int32) (va : Int32) (iw : Int32) (im : Int32) (st : Int32) (ht : Int32) (v1 : Int32) (v2 : Int32) (z0 : Int32) (h : fX5_lacks wd v1 v2 = some z0) : Met l yX5_lacks wsX5_lacks rmX5_lacks (PZ D cI cS [.ref a0, .int v1, .int v2] (fun U => va_P D vwCl (wX5 cI cS a0 a1 a2 a3 a4 a5 a6 a7 a8 a9 a10 a11 nw kp ad fd tp kn it wd sz nm mv ik td bg en so va iw im st ht) U.heap)) (vp_Si (fun x => x = z0)) 0 0 (fun _ => False) := by
  refine Met.mk RX5 (by decide) rfl rfl (Nat.le_of_ble_eq_true rfl) ?_
  intro p e s m below meth c ls C0 hP hl
  have hl : lv_has ls 3 [(0, .ref a0), (1, .int v1), (2, .int v2)] := hl
  obtain ⟨hx, hb, hr, hml, hown, hts, hlk, hE⟩ := id C0
  have hinX5 : ∀ w ∈ u_ws RX5 TX5 21, w ∈ wsX5_lacks := by decide +kernel
  rw [fX5_lacks] at h
  refine lv_iload_n hx hb dX5_lacks_0 rfl (lv_at hl 1 rfl) ?_
  refine kRi (rS C0 (tX5_isSheet l D cI cS v1 (fX5_isSheet v1) rfl) gX5_lacks_X5_isSheet rfl ⟨rfl, rfl⟩ pdX5_isSheet rfl ⟨Nat.le_of_ble_eq_true rfl, Nat.le_of_ble_eq_true rfl⟩ (fun _ _ _ _ q => q) (fun _ _ _ _ => vp0) hl.1 rfl (Nat.le_of_ble_eq_true rfl) dX5_lacks_1 ⟨Nat.zero_le _, Nat.zero_le _⟩) ?_
  refine lv_if_ne (tgt := 12) hx hb dX5_lacks_4 (by decide) (fun c_1 => ?_) (fun c_1 => ?_)
  · have h := ifn c_1 h
    refine lv_aload_n hx hb dX5_lacks_12 rfl (lv_at hl 0 rfl) ?_
    refine va_get (D := D) (ci := 4) (v := .ref a8) (C := RX5) (T := TX5) (N := 21) hx hb hts hinX5 hown hE.1 hP 0 rfl rfl 17 (by decide) (hts _ (List.mem_of_getElem? (i := 2) rfl)) (fun _ h9 => h9) rfl dX5_lacks_13 ?_
    refine lv_iload_n hx hb dX5_lacks_16 rfl (lv_at hl 1 rfl) ?_
    obtain ⟨hi_2, h⟩ := ifs h
    refine va_iald hx hb hE.1 hP 8 0 rfl rfl hi_2 dX5_lacks_17 ?_
    refine lv_if_ne (tgt := 26) hx hb dX5_lacks_18 (by decide) (fun c_3 => ?_) (fun c_3 => ?_)
    · have h := ifn c_3 h
      refine lv_iload_n hx hb dX5_lacks_26 rfl (lv_at hl 2 rfl) ?_
      refine lv_if_eq (tgt := 34) hx hb dX5_lacks_27 (by decide) (fun c_4 => ?_) (fun c_4 => ?_)
      · have h := ifp c_4 h
        refine lv_ldc (v := (-1000001)) hx hb hown (hts _ (List.mem_of_getElem? (i := 1) rfl)) dX5_lacks_34 ?_
        exact eRi C0 (Option.some.inj h) dX5_lacks_36
      · have h := ifn c_4 h
        refine lv_iconst (v := 0) hx hb dX5_lacks_30 (by decide) ?_
        refine lv_goto (tgt := 36) hx hb dX5_lacks_31 (by decide) ?_
        exact eRi C0 (Option.some.inj h) dX5_lacks_36
    · have h := ifp c_3 h
      refine lv_ldc (v := (-1000006)) hx hb hown (hts _ (List.mem_of_getElem? (i := 3) rfl)) dX5_lacks_21 ?_
      refine lv_goto (tgt := 36) hx hb dX5_lacks_23 (by decide) ?_
      exact eRi C0 (Option.some.inj h) dX5_lacks_36
  · have h := ifp c_1 h
    refine lv_ldc (v := (-1000001)) hx hb hown (hts _ (List.mem_of_getElem? (i := 1) rfl)) dX5_lacks_7 ?_
    refine lv_goto (tgt := 36) hx hb dX5_lacks_9 (by decide) ?_
    exact eRi C0 (Option.some.inj h) dX5_lacks_36
def fX5_isSo_16 (F : Nat) (ad : Nat → Int32) (sz : Nat → Int32) (nm : Nat → Int32) (v1 : Int32) (v2 : Int32) : Nat → Int32 → Int32 → (Nat → Int32) → Option (Int32 × (Nat → Int32) × (Nat → Int32))
  | 0, _, _, _ => none
  | n + 1, v3, v4, nw => if ¬ (v1 < 0 ∨ 4 ≤ v1.toNatClampNeg) then (if (sz v1.toNatClampNeg) ≤ v4 then Option.bind (fX5_copyRow F ad nw) (fun z_5 => if v3 = 0 ∨ v3 = 1 then some (v3, z_5, ad) else none) else (if 8 ≤ v4 then Option.bind (fX5_copyRow F ad nw) (fun z_9 => if v3 = 0 ∨ v3 = 1 then some (v3, z_9, ad) else none) else (if v3 = 0 then Option.bind (fX5_copyRow F ad nw) (fun z_13 => if v3 = 0 ∨ v3 = 1 then some (v3, z_13, ad) else none) else if ¬ (((40 * v1) + v4) < 0 ∨ 160 ≤ ((40 * v1) + v4).toNatClampNeg) then (if (nm ((40 * v1) + v4).toNatClampNeg) = (-1) then Option.bind (fX5_day F nw) (fun z_18 => fX5_isSo_16 F ad sz nm v1 v2 n 1 (v4 + 1) z_18) else Option.bind (fX5_thickAt F nw v2) (fun z_20 => (if (nm ((40 * v1) + v4).toNatClampNeg) = z_20 then Option.bind (fX5_day F nw) (fun z_25 => fX5_isSo_16 F ad sz nm v1 v2 n 1 (v4 + 1) z_25) else Option.bind (fX5_day F nw) (fun z_23 => fX5_isSo_16 F ad sz nm v1 v2 n 0 (v4 + 1) z_23)))) else none))) else none
def fX5_isSo (F : Nat) (nw : Nat → Int32) (ad : Nat → Int32) (sz : Nat → Int32) (nm : Nat → Int32) (v1 : Int32) (v2 : Int32) : Option (Int32 × (Nat → Int32) × (Nat → Int32)) := Option.bind (fX5_copyRow F nw ad) (fun z_1 => fX5_isSo_16 F z_1 sz nm v1 v2 F 1 0 nw)
abbrev rmX5_isSo : Room := { frames := 6, cells := 0, slots := 0, locals := 135 }
theorem pdX5_isSo : (yX5_isSo.cls = RX5 ∧ yX5_isSo.cls ≠ "java/lang/invoke/MethodHandle" ∧ yX5_isSo.cls ≠ "java/lang/invoke/VarHandle" ∧ (parseMethodDescriptor yX5_isSo.desc).map (fun d => d.parameters.length) = some 2) := by decide +kernel
set_option maxHeartbeats 4000000 in
set_option maxRecDepth 100000 in
theorem lX5_isSo_16 {p : Program} {l : Launch} {e : Env} {s : State} {m : MethodId} {av : Array Value} {below : List Frame} {meth : Method} {c : Code} {D : va_G} {cI cS : ClassId} {a0 a1 a2 a3 a4 a5 a6 a7 a8 a9 a10 a11 : Nat} {W0 : va_W} (C0 : CX p s m av meth c RX5 cX5_isSo 6 (some .boolean) wsX5_isSo D cI cS) (F : Nat) (kp : Nat → Int32) (ad : Nat → Int32) (fd : Nat → Int32) (tp : Nat → Int32) (kn : Nat → Option Nat) (it : Nat → Int32) (wd : Nat → Int32) (sz : Nat → Int32) (nm : Nat → Int32) (mv : Nat → Int32) (ik : Int32) (td : Int32) (bg : Int32) (en : Int32) (so : Int32) (va : Int32) (iw : Int32) (im : Int32) (st : Int32) (ht : Int32) (v1 : Int32) (v2 : Int32) (z0 : Int32) (z1 : Nat → Int32) (z2 : Nat → Int32) (hD : ∀ W : va_W, W.map Prod.fst = [a0, a1, a2, a3, a4, a5, a6, a7, a8, a9, a10, a11] → va_D (wA W0) W) : ∀ (n : Nat) (v3 : Int32) (v4 : Int32) (nw : Nat → Int32) (H : Heap) (locs : List Loc), va_P D vwCl (wX5 cI cS a0 a1 a2 a3 a4 a5 a6 a7 a8 a9 a10 a11 nw kp ad fd tp kn it wd sz nm mv ik td bg en so va iw im st ht) H → va_S (wA W0) s.heap H locs → ∀ (ls : Array Slot), lv_has ls 6 [(0, .ref a0), (1, .int v1), (2, .int v2), (3, .int v3), (4, .int v4)] → fX5_isSo_16 F ad sz nm v1 v2 n v3 v4 nw = some (z0, z1, z2) → W p l e rmX5_isSo s m av below meth c H locs 0 0 (MQ below (qI D W0 (wX5 cI cS a0 a1 a2 a3 a4 a5 a6 a7 a8 a9 a10 a11 z1 kp z2 fd tp kn it wd sz nm mv ik td bg en so va iw im st ht) z0) av s 0 0 (wA W0)) (F0 m 16 ls []) := by
  obtain ⟨hx, hb, hr, hml, hown, hts, hlk, hE⟩ := id C0
  have hinX5 : ∀ w ∈ u_ws RX5 TX5 21, w ∈ wsX5_isSo := by decide +kernel
  intro n
  induction n with
  | zero =>
    intro v3 v4 nw H locs hP hS ls hl h
    cases (show none = some (z0, z1, z2) from h)
  | succ n ih =>
    intro v3 v4 nw H locs hP hS ls hl h
    rw [fX5_isSo_16] at h
    refine lv_iload hx hb dX5_isSo_16 (lv_at hl 4 rfl) ?_
    refine lv_aload_n hx hb dX5_isSo_18 rfl (lv_at hl 0 rfl) ?_
    refine va_get (D := D) (ci := 4) (v := .ref a9) (C := RX5) (T := TX5) (N := 21) hx hb hts hinX5 hown hE.1 hP 0 rfl rfl 18 (by decide) (hts _ (List.mem_of_getElem? (i := 3) rfl)) (fun _ h9 => h9) rfl dX5_isSo_19 ?_
    refine lv_iload_n hx hb dX5_isSo_22 rfl (lv_at hl 1 rfl) ?_
    obtain ⟨hi_3, h⟩ := ifs h
    refine va_iald hx hb hE.1 hP 9 0 rfl rfl hi_3 dX5_isSo_23 ?_
    refine lv_icmp_ge (tgt := 84) hx hb dX5_isSo_24 (by decide) (fun c_4 => ?_) (fun c_4 => ?_)
    · have h := ifp c_4 h
      refine lv_aload_n hx hb dX5_isSo_84 rfl (lv_at hl 0 rfl) ?_
      refine va_get (D := D) (ci := 4) (v := .ref a3) (C := RX5) (T := TX5) (N := 21) hx hb hts hinX5 hown hE.1 hP 0 rfl rfl 2 (by decide) (hts _ (List.mem_of_getElem? (i := 2) rfl)) (fun _ h9 => h9) rfl dX5_isSo_85 ?_
      refine lv_aload_n hx hb dX5_isSo_88 rfl (lv_at hl 0 rfl) ?_
      refine va_get (D := D) (ci := 4) (v := .ref a1) (C := RX5) (T := TX5) (N := 21) hx hb hts hinX5 hown hE.1 hP 0 rfl rfl 0 (by decide) (hts _ (List.mem_of_getElem? (i := 1) rfl)) (fun _ h9 => h9) rfl dX5_isSo_89 ?_
      obtain ⟨z_5, e_6, h⟩ := bds h
      have hPc := hP.sub (ws' := (wR2 cI cS a3 a1 ad nw)) [3, 1] rfl
      refine kMv (wf' := (wX5 cI cS a0 a1 a2 a3 a4 a5 a6 a7 a8 a9 a10 a11 z_5 kp ad fd tp kn it wd sz nm mv ik td bg en so va iw im st ht)) [3, 1] [none, some 1, none, some 0, none, none, none, none, none, none, none, none] (rS C0 (tX5_copyRow l D cI cS F a3 a1 ad nw  z_5 e_6 (((hD (wX5 cI cS a0 a1 a2 a3 a4 a5 a6 a7 a8 a9 a10 a11 nw kp ad fd tp kn it wd sz nm mv ik td bg en so va iw im st ht) rfl).sub [3, 1] (by decide) rfl).weaken (fun _ _ _ _ => trivial))) gX5_isSo_X5_copyRow rfl ⟨rfl, rfl⟩ pdX5_copyRow rfl ⟨Nat.le_of_ble_eq_true rfl, Nat.le_of_ble_eq_true rfl⟩ (fun _ _ _ _ q => q) (fun U hU _ _ => by rw [hU]; exact hPc) hl.1 rfl (Nat.le_of_ble_eq_true rfl) dX5_isSo_92 ⟨Nat.zero_le _, Nat.zero_le _⟩) hP (hD _ rfl) hS rfl rfl rfl (fun H locs hP hS => ?_)
      refine lv_iload_n hx hb dX5_isSo_95 rfl (lv_at hl 3 rfl) ?_
      obtain ⟨hb_7, h⟩ := ifs h
      obtain ⟨q0, g0⟩ := Prod.mk.inj (Option.some.inj h)
      obtain ⟨q1, q2⟩ := Prod.mk.inj g0
      subst q0 q1 q2
      exact eMz C0 hP hS (nzb hb_7) rfl rfl dX5_isSo_96
    · have h := ifn c_4 h
      refine lv_iload hx hb dX5_isSo_27 (lv_at hl 4 rfl) ?_
      refine lv_bipush (v := 8) hx hb dX5_isSo_29 (by decide) ?_
      refine lv_icmp_ge (tgt := 84) hx hb dX5_isSo_31 (by decide) (fun c_8 => ?_) (fun c_8 => ?_)
      · have h := ifp c_8 h
        refine lv_aload_n hx hb dX5_isSo_84 rfl (lv_at hl 0 rfl) ?_
        refine va_get (D := D) (ci := 4) (v := .ref a3) (C := RX5) (T := TX5) (N := 21) hx hb hts hinX5 hown hE.1 hP 0 rfl rfl 2 (by decide) (hts _ (List.mem_of_getElem? (i := 2) rfl)) (fun _ h9 => h9) rfl dX5_isSo_85 ?_
        refine lv_aload_n hx hb dX5_isSo_88 rfl (lv_at hl 0 rfl) ?_
        refine va_get (D := D) (ci := 4) (v := .ref a1) (C := RX5) (T := TX5) (N := 21) hx hb hts hinX5 hown hE.1 hP 0 rfl rfl 0 (by decide) (hts _ (List.mem_of_getElem? (i := 1) rfl)) (fun _ h9 => h9) rfl dX5_isSo_89 ?_
        obtain ⟨z_9, e_10, h⟩ := bds h
        have hPc := hP.sub (ws' := (wR2 cI cS a3 a1 ad nw)) [3, 1] rfl
        refine kMv (wf' := (wX5 cI cS a0 a1 a2 a3 a4 a5 a6 a7 a8 a9 a10 a11 z_9 kp ad fd tp kn it wd sz nm mv ik td bg en so va iw im st ht)) [3, 1] [none, some 1, none, some 0, none, none, none, none, none, none, none, none] (rS C0 (tX5_copyRow l D cI cS F a3 a1 ad nw  z_9 e_10 (((hD (wX5 cI cS a0 a1 a2 a3 a4 a5 a6 a7 a8 a9 a10 a11 nw kp ad fd tp kn it wd sz nm mv ik td bg en so va iw im st ht) rfl).sub [3, 1] (by decide) rfl).weaken (fun _ _ _ _ => trivial))) gX5_isSo_X5_copyRow rfl ⟨rfl, rfl⟩ pdX5_copyRow rfl ⟨Nat.le_of_ble_eq_true rfl, Nat.le_of_ble_eq_true rfl⟩ (fun _ _ _ _ q => q) (fun U hU _ _ => by rw [hU]; exact hPc) hl.1 rfl (Nat.le_of_ble_eq_true rfl) dX5_isSo_92 ⟨Nat.zero_le _, Nat.zero_le _⟩) hP (hD _ rfl) hS rfl rfl rfl (fun H locs hP hS => ?_)
        refine lv_iload_n hx hb dX5_isSo_95 rfl (lv_at hl 3 rfl) ?_
        obtain ⟨hb_11, h⟩ := ifs h
        obtain ⟨q0, g0⟩ := Prod.mk.inj (Option.some.inj h)
        obtain ⟨q1, q2⟩ := Prod.mk.inj g0
        subst q0 q1 q2
        exact eMz C0 hP hS (nzb hb_11) rfl rfl dX5_isSo_96
      · have h := ifn c_8 h
        refine lv_iload_n hx hb dX5_isSo_34 rfl (lv_at hl 3 rfl) ?_
        refine lv_if_eq (tgt := 84) hx hb dX5_isSo_35 (by decide) (fun c_12 => ?_) (fun c_12 => ?_)
        · have h := ifp c_12 h
          refine lv_aload_n hx hb dX5_isSo_84 rfl (lv_at hl 0 rfl) ?_
          refine va_get (D := D) (ci := 4) (v := .ref a3) (C := RX5) (T := TX5) (N := 21) hx hb hts hinX5 hown hE.1 hP 0 rfl rfl 2 (by decide) (hts _ (List.mem_of_getElem? (i := 2) rfl)) (fun _ h9 => h9) rfl dX5_isSo_85 ?_
          refine lv_aload_n hx hb dX5_isSo_88 rfl (lv_at hl 0 rfl) ?_
          refine va_get (D := D) (ci := 4) (v := .ref a1) (C := RX5) (T := TX5) (N := 21) hx hb hts hinX5 hown hE.1 hP 0 rfl rfl 0 (by decide) (hts _ (List.mem_of_getElem? (i := 1) rfl)) (fun _ h9 => h9) rfl dX5_isSo_89 ?_
          obtain ⟨z_13, e_14, h⟩ := bds h
          have hPc := hP.sub (ws' := (wR2 cI cS a3 a1 ad nw)) [3, 1] rfl
          refine kMv (wf' := (wX5 cI cS a0 a1 a2 a3 a4 a5 a6 a7 a8 a9 a10 a11 z_13 kp ad fd tp kn it wd sz nm mv ik td bg en so va iw im st ht)) [3, 1] [none, some 1, none, some 0, none, none, none, none, none, none, none, none] (rS C0 (tX5_copyRow l D cI cS F a3 a1 ad nw  z_13 e_14 (((hD (wX5 cI cS a0 a1 a2 a3 a4 a5 a6 a7 a8 a9 a10 a11 nw kp ad fd tp kn it wd sz nm mv ik td bg en so va iw im st ht) rfl).sub [3, 1] (by decide) rfl).weaken (fun _ _ _ _ => trivial))) gX5_isSo_X5_copyRow rfl ⟨rfl, rfl⟩ pdX5_copyRow rfl ⟨Nat.le_of_ble_eq_true rfl, Nat.le_of_ble_eq_true rfl⟩ (fun _ _ _ _ q => q) (fun U hU _ _ => by rw [hU]; exact hPc) hl.1 rfl (Nat.le_of_ble_eq_true rfl) dX5_isSo_92 ⟨Nat.zero_le _, Nat.zero_le _⟩) hP (hD _ rfl) hS rfl rfl rfl (fun H locs hP hS => ?_)
          refine lv_iload_n hx hb dX5_isSo_95 rfl (lv_at hl 3 rfl) ?_
          obtain ⟨hb_15, h⟩ := ifs h
          obtain ⟨q0, g0⟩ := Prod.mk.inj (Option.some.inj h)
          obtain ⟨q1, q2⟩ := Prod.mk.inj g0
          subst q0 q1 q2
          exact eMz C0 hP hS (nzb hb_15) rfl rfl dX5_isSo_96
        · have h := ifn c_12 h
          refine lv_aload_n hx hb dX5_isSo_38 rfl (lv_at hl 0 rfl) ?_
          refine va_get (D := D) (ci := 4) (v := .ref a10) (C := RX5) (T := TX5) (N := 21) hx hb hts hinX5 hown hE.1 hP 0 rfl rfl 19 (by decide) (hts _ (List.mem_of_getElem? (i := 4) rfl)) (fun _ h9 => h9) rfl dX5_isSo_39 ?_
          refine lv_bipush (v := 40) hx hb dX5_isSo_42 (by decide) ?_
          refine lv_iload_n hx hb dX5_isSo_44 rfl (lv_at hl 1 rfl) ?_
          refine lv_imul hx hb dX5_isSo_45 ?_
          refine lv_iload hx hb dX5_isSo_46 (lv_at hl 4 rfl) ?_
          refine lv_iadd hx hb dX5_isSo_48 ?_
          obtain ⟨hi_16, h⟩ := ifs h
          refine va_iald hx hb hE.1 hP 10 0 rfl rfl hi_16 dX5_isSo_49 ?_
          refine lv_istore (lv' := [(5, .int (nm ((40 * v1) + v4).toNatClampNeg)), (0, .ref a0), (1, .int v1), (2, .int v2), (3, .int v3), (4, .int v4)]) hx hb dX5_isSo_50 hl (by decide) rfl (fun ls hl => ?_)
          refine lv_iload hx hb dX5_isSo_52 (lv_at hl 0 rfl) ?_
          refine lv_iconst (v := (-1)) hx hb dX5_isSo_54 (by decide) ?_
          refine lv_icmp_eq (tgt := 68) hx hb dX5_isSo_55 (by decide) (fun c_17 => ?_) (fun c_17 => ?_)
          · have h := ifp c_17 h
            refine lv_iconst (v := 1) hx hb dX5_isSo_68 (by decide) ?_
            refine lv_goto (tgt := 73) hx hb dX5_isSo_69 (by decide) ?_
            refine lv_istore_n (lv' := [(3, .int 1), (5, .int (nm ((40 * v1) + v4).toNatClampNeg)), (0, .ref a0), (1, .int v1), (2, .int v2), (4, .int v4)]) hx hb dX5_isSo_73 rfl hl (by decide) rfl (fun ls hl => ?_)
            refine lv_aload_n hx hb dX5_isSo_74 rfl (lv_at hl 2 rfl) ?_
            obtain ⟨z_18, e_19, h⟩ := bds h
            have hPc := hP.sub (ws' := (wX5 cI cS a0 a1 a2 a3 a4 a5 a6 a7 a8 a9 a10 a11 nw kp ad fd tp kn it wd sz nm mv ik td bg en so va iw im st ht)) [0, 1, 2, 3, 4, 5, 6, 7, 8, 9, 10, 11] rfl
            refine kMv (wf' := (wX5 cI cS a0 a1 a2 a3 a4 a5 a6 a7 a8 a9 a10 a11 z_18 kp ad fd tp kn it wd sz nm mv ik td bg en so va iw im st ht)) [0, 1, 2, 3, 4, 5, 6, 7, 8, 9, 10, 11] [some 0, some 1, some 2, some 3, some 4, some 5, some 6, some 7, some 8, some 9, some 10, some 11] (rV C0 (tX5_day l D cI cS F a0 a1 a2 a3 a4 a5 a6 a7 a8 a9 a10 a11 nw kp ad fd tp kn it wd sz nm mv ik td bg en so va iw im st ht  z_18 e_19 (((hD (wX5 cI cS a0 a1 a2 a3 a4 a5 a6 a7 a8 a9 a10 a11 nw kp ad fd tp kn it wd sz nm mv ik td bg en so va iw im st ht) rfl).sub [0, 1, 2, 3, 4, 5, 6, 7, 8, 9, 10, 11] (by decide) rfl).weaken (fun _ _ _ _ => trivial))) RX5 gX5_isSo_X5_day rfl ⟨rfl, rfl⟩ pdX5_day rfl ⟨Nat.le_of_ble_eq_true rfl, Nat.le_of_ble_eq_true rfl⟩ (fun _ _ _ _ q => q) (va_recv hE.1 hPc (ci := 4) (q0 := 0) rfl rfl) (fun U hU _ _ => by rw [hU]; exact hPc) hl.1 rfl (Nat.le_of_ble_eq_true rfl) dX5_isSo_75 ⟨Nat.zero_le _, Nat.zero_le _⟩) hP (hD _ rfl) hS rfl rfl rfl (fun H locs hP hS => ?_)
            refine lv_iinc (v := v4 + 1) (lv' := [(4, .int (v4 + 1)), (3, .int 1), (5, .int (nm ((40 * v1) + v4).toNatClampNeg)), (0, .ref a0), (1, .int v1), (2, .int v2)]) hx hb dX5_isSo_78 hl (k := 5) rfl rfl (by decide) rfl (fun ls hl => ?_)
            refine lv_goto (tgt := 16) hx hb dX5_isSo_81 (by decide) ?_
            exact ih 1 (v4 + 1) z_18 _ _ hP hS _ (lv_sub hl [3, 4, 5, 1, 0] rfl) h
          · have h := ifn c_17 h
            refine lv_iload hx hb dX5_isSo_58 (lv_at hl 0 rfl) ?_
            refine lv_aload_n hx hb dX5_isSo_60 rfl (lv_at hl 1 rfl) ?_
            refine lv_iload_n hx hb dX5_isSo_61 rfl (lv_at hl 3 rfl) ?_
            obtain ⟨z_20, e_21, h⟩ := bds h
            have hPc := hP.sub (ws' := (wX5 cI cS a0 a1 a2 a3 a4 a5 a6 a7 a8 a9 a10 a11 nw kp ad fd tp kn it wd sz nm mv ik td bg en so va iw im st ht)) [0, 1, 2, 3, 4, 5, 6, 7, 8, 9, 10, 11] rfl
            refine kRi (rV C0 (tX5_thickAt l D cI cS F a0 a1 a2 a3 a4 a5 a6 a7 a8 a9 a10 a11 nw kp ad fd tp kn it wd sz nm mv ik td bg en so va iw im st ht v2 z_20 e_21) RX5 gX5_isSo_X5_thickAt rfl ⟨rfl, rfl⟩ pdX5_thickAt rfl ⟨Nat.le_of_ble_eq_true rfl, Nat.le_of_ble_eq_true rfl⟩ (fun _ _ _ _ q => q) (va_recv hE.1 hPc (ci := 4) (q0 := 0) rfl rfl) (fun U hU _ _ => by rw [hU]; exact hPc) hl.1 rfl (Nat.le_of_ble_eq_true rfl) dX5_isSo_62 ⟨Nat.zero_le _, Nat.zero_le _⟩) ?_
            refine lv_icmp_ne (tgt := 72) hx hb dX5_isSo_65 (by decide) (fun c_22 => ?_) (fun c_22 => ?_)
            · have h := ifn c_22 h
              refine lv_iconst (v := 0) hx hb dX5_isSo_72 (by decide) ?_
              refine lv_istore_n (lv' := [(3, .int 0), (5, .int (nm ((40 * v1) + v4).toNatClampNeg)), (0, .ref a0), (1, .int v1), (2, .int v2), (4, .int v4)]) hx hb dX5_isSo_73 rfl hl (by decide) rfl (fun ls hl => ?_)
              refine lv_aload_n hx hb dX5_isSo_74 rfl (lv_at hl 2 rfl) ?_
              obtain ⟨z_23, e_24, h⟩ := bds h
              have hPc := hP.sub (ws' := (wX5 cI cS a0 a1 a2 a3 a4 a5 a6 a7 a8 a9 a10 a11 nw kp ad fd tp kn it wd sz nm mv ik td bg en so va iw im st ht)) [0, 1, 2, 3, 4, 5, 6, 7, 8, 9, 10, 11] rfl
              refine kMv (wf' := (wX5 cI cS a0 a1 a2 a3 a4 a5 a6 a7 a8 a9 a10 a11 z_23 kp ad fd tp kn it wd sz nm mv ik td bg en so va iw im st ht)) [0, 1, 2, 3, 4, 5, 6, 7, 8, 9, 10, 11] [some 0, some 1, some 2, some 3, some 4, some 5, some 6, some 7, some 8, some 9, some 10, some 11] (rV C0 (tX5_day l D cI cS F a0 a1 a2 a3 a4 a5 a6 a7 a8 a9 a10 a11 nw kp ad fd tp kn it wd sz nm mv ik td bg en so va iw im st ht  z_23 e_24 (((hD (wX5 cI cS a0 a1 a2 a3 a4 a5 a6 a7 a8 a9 a10 a11 nw kp ad fd tp kn it wd sz nm mv ik td bg en so va iw im st ht) rfl).sub [0, 1, 2, 3, 4, 5, 6, 7, 8, 9, 10, 11] (by decide) rfl).weaken (fun _ _ _ _ => trivial))) RX5 gX5_isSo_X5_day rfl ⟨rfl, rfl⟩ pdX5_day rfl ⟨Nat.le_of_ble_eq_true rfl, Nat.le_of_ble_eq_true rfl⟩ (fun _ _ _ _ q => q) (va_recv hE.1 hPc (ci := 4) (q0 := 0) rfl rfl) (fun U hU _ _ => by rw [hU]; exact hPc) hl.1 rfl (Nat.le_of_ble_eq_true rfl) dX5_isSo_75 ⟨Nat.zero_le _, Nat.zero_le _⟩) hP (hD _ rfl) hS rfl rfl rfl (fun H locs hP hS => ?_)
              refine lv_iinc (v := v4 + 1) (lv' := [(4, .int (v4 + 1)), (3, .int 0), (5, .int (nm ((40 * v1) + v4).toNatClampNeg)), (0, .ref a0), (1, .int v1), (2, .int v2)]) hx hb dX5_isSo_78 hl (k := 5) rfl rfl (by decide) rfl (fun ls hl => ?_)
              refine lv_goto (tgt := 16) hx hb dX5_isSo_81 (by decide) ?_
              exact ih 0 (v4 + 1) z_23 _ _ hP hS _ (lv_sub hl [3, 4, 5, 1, 0] rfl) h
            · have h := ifp c_22 h
              refine lv_iconst (v := 1) hx hb dX5_isSo_68 (by decide) ?_
              refine lv_goto (tgt := 73) hx hb dX5_isSo_69 (by decide) ?_
              refine lv_istore_n (lv' := [(3, .int 1), (5, .int (nm ((40 * v1) + v4).toNatClampNeg)), (0, .ref a0), (1, .int v1), (2, .int v2), (4, .int v4)]) hx hb dX5_isSo_73 rfl hl (by decide) rfl (fun ls hl => ?_)
              refine lv_aload_n hx hb dX5_isSo_74 rfl (lv_at hl 2 rfl) ?_
              obtain ⟨z_25, e_26, h⟩ := bds h
              have hPc := hP.sub (ws' := (wX5 cI cS a0 a1 a2 a3 a4 a5 a6 a7 a8 a9 a10 a11 nw kp ad fd tp kn it wd sz nm mv ik td bg en so va iw im st ht)) [0, 1, 2, 3, 4, 5, 6, 7, 8, 9, 10, 11] rfl
              refine kMv (wf' := (wX5 cI cS a0 a1 a2 a3 a4 a5 a6 a7 a8 a9 a10 a11 z_25 kp ad fd tp kn it wd sz nm mv ik td bg en so va iw im st ht)) [0, 1, 2, 3, 4, 5, 6, 7, 8, 9, 10, 11] [some 0, some 1, some 2, some 3, some 4, some 5, some 6, some 7, some 8, some 9, some 10, some 11] (rV C0 (tX5_day l D cI cS F a0 a1 a2 a3 a4 a5 a6 a7 a8 a9 a10 a11 nw kp ad fd tp kn it wd sz nm mv ik td bg en so va iw im st ht  z_25 e_26 (((hD (wX5 cI cS a0 a1 a2 a3 a4 a5 a6 a7 a8 a9 a10 a11 nw kp ad fd tp kn it wd sz nm mv ik td bg en so va iw im st ht) rfl).sub [0, 1, 2, 3, 4, 5, 6, 7, 8, 9, 10, 11] (by decide) rfl).weaken (fun _ _ _ _ => trivial))) RX5 gX5_isSo_X5_day rfl ⟨rfl, rfl⟩ pdX5_day rfl ⟨Nat.le_of_ble_eq_true rfl, Nat.le_of_ble_eq_true rfl⟩ (fun _ _ _ _ q => q) (va_recv hE.1 hPc (ci := 4) (q0 := 0) rfl rfl) (fun U hU _ _ => by rw [hU]; exact hPc) hl.1 rfl (Nat.le_of_ble_eq_true rfl) dX5_isSo_75 ⟨Nat.zero_le _, Nat.zero_le _⟩) hP (hD _ rfl) hS rfl rfl rfl (fun H locs hP hS => ?_)
              refine lv_iinc (v := v4 + 1) (lv' := [(4, .int (v4 + 1)), (3, .int 1), (5, .int (nm ((40 * v1) + v4).toNatClampNeg)), (0, .ref a0), (1, .int v1), (2, .int v2)]) hx hb dX5_isSo_78 hl (k := 5) rfl rfl (by decide) rfl (fun ls hl => ?_)
              refine lv_goto (tgt := 16) hx hb dX5_isSo_81 (by decide) ?_
              exact ih 1 (v4 + 1) z_25 _ _ hP hS _ (lv_sub hl [3, 4, 5, 1, 0] rfl) h
set_option maxHeartbeats 4000000 in
set_option maxRecDepth 100000 in
theorem tX5_isSo (l : Launch) (D : va_G) (cI cS : ClassId) (F : Nat) (a0 a1 a2 a3 a4 a5 a6 a7 a8 a9 a10 a11 : Nat) (nw : Nat → Int32) (kp : Nat → Int32) (ad : Nat → Int32) (fd : Nat → Int32) (tp : Nat → Int32) (kn : Nat → Option Nat) (it : Nat → Int32) (wd : Nat → Int32) (sz : Nat → Int32) (nm : Nat → Int32) (mv : Nat → Int32) (ik : Int32) (td : Int32) (bg : Int32) (en : Int32) (so : Int32) (va : Int32) (iw : Int32) (im : Int32) (st : Int32) (ht : Int32) (v1 : Int32) (v2 : Int32) (z0 : Int32) (z1 : Nat → Int32) (z2 : Nat → Int32) (h : fX5_isSo F nw ad sz nm v1 v2 = some (z0, z1, z2)) (hD0 : va_D (fun _ => True) (wX5 cI cS a0 a1 a2 a3 a4 a5 a6 a7 a8 a9 a10 a11 nw kp ad fd tp kn it wd sz nm mv ik td bg en so va iw im st ht)) : Met l yX5_isSo wsX5_isSo rmX5_isSo (PZ D cI cS [.ref a0, .int v1, .int v2] (fun U => va_P D vwCl (wX5 cI cS a0 a1 a2 a3 a4 a5 a6 a7 a8 a9 a10 a11 nw kp ad fd tp kn it wd sz nm mv ik td bg en so va iw im st ht) U.heap)) (qI D (wX5 cI cS a0 a1 a2 a3 a4 a5 a6 a7 a8 a9 a10 a11 nw kp ad fd tp kn it wd sz nm mv ik td bg en so va iw im st ht) (wX5 cI cS a0 a1 a2 a3 a4 a5 a6 a7 a8 a9 a10 a11 z1 kp z2 fd tp kn it wd sz nm mv ik td bg en so va iw im st ht) z0) 0 0 (wA (wX5 cI cS a0 a1 a2 a3 a4 a5 a6 a7 a8 a9 a10 a11 nw kp ad fd tp kn it wd sz nm mv ik td bg en so va iw im st ht)) := by
  refine Met.mk RX5 (by decide) rfl rfl (Nat.le_of_ble_eq_true rfl) ?_
  intro p e s m below meth c ls C0 hP hl
  have hl : lv_has ls 6 [(0, .ref a0), (1, .int v1), (2, .int v2)] := hl
  obtain ⟨hx, hb, hr, hml, hown, hts, hlk, hE⟩ := id C0
  have hinX5 : ∀ w ∈ u_ws RX5 TX5 21, w ∈ wsX5_isSo := by decide +kernel
  have hD : ∀ W : va_W, W.map Prod.fst = [a0, a1, a2, a3, a4, a5, a6, a7, a8, a9, a10, a11] → va_D (wA (wX5 cI cS a0 a1 a2 a3 a4 a5 a6 a7 a8 a9 a10 a11 nw kp ad fd tp kn it wd sz nm mv ik td bg en so va iw im st ht)) W := fun W hW => hD0.own.re hW
  have hS : va_S (wA (wX5 cI cS a0 a1 a2 a3 a4 a5 a6 a7 a8 a9 a10 a11 nw kp ad fd tp kn it wd sz nm mv ik td bg en so va iw im st ht)) s.heap s.heap [] := va_S.rf
  have hP : va_P D vwCl (wX5 cI cS a0 a1 a2 a3 a4 a5 a6 a7 a8 a9 a10 a11 nw kp ad fd tp kn it wd sz nm mv ik td bg en so va iw im st ht) s.heap := hP
  rw [fX5_isSo] at h
  refine lv_aload_n hx hb dX5_isSo_0 rfl (lv_at hl 0 rfl) ?_
  refine va_get (D := D) (ci := 4) (v := .ref a1) (C := RX5) (T := TX5) (N := 21) hx hb hts hinX5 hown hE.1 hP 0 rfl rfl 0 (by decide) (hts _ (List.mem_of_getElem? (i := 1) rfl)) (fun _ h9 => h9) rfl dX5_isSo_1 ?_
  refine lv_aload_n hx hb dX5_isSo_4 rfl (lv_at hl 0 rfl) ?_
  refine va_get (D := D) (ci := 4) (v := .ref a3) (C := RX5) (T := TX5) (N := 21) hx hb hts hinX5 hown hE.1 hP 0 rfl rfl 2 (by decide) (hts _ (List.mem_of_getElem? (i := 2) rfl)) (fun _ h9 => h9) rfl dX5_isSo_5 ?_
  obtain ⟨z_1, e_2, h⟩ := bds h
  have hPc := hP.sub (ws' := (wR2 cI cS a1 a3 nw ad)) [1, 3] rfl
  refine kMv (wf' := (wX5 cI cS a0 a1 a2 a3 a4 a5 a6 a7 a8 a9 a10 a11 nw kp z_1 fd tp kn it wd sz nm mv ik td bg en so va iw im st ht)) [1, 3] [none, some 0, none, some 1, none, none, none, none, none, none, none, none] (rS C0 (tX5_copyRow l D cI cS F a1 a3 nw ad  z_1 e_2 (((hD (wX5 cI cS a0 a1 a2 a3 a4 a5 a6 a7 a8 a9 a10 a11 nw kp ad fd tp kn it wd sz nm mv ik td bg en so va iw im st ht) rfl).sub [1, 3] (by decide) rfl).weaken (fun _ _ _ _ => trivial))) gX5_isSo_X5_copyRow rfl ⟨rfl, rfl⟩ pdX5_copyRow rfl ⟨Nat.le_of_ble_eq_true rfl, Nat.le_of_ble_eq_true rfl⟩ (fun _ _ _ _ q => q) (fun U hU _ _ => by rw [hU]; exact hPc) hl.1 rfl (Nat.le_of_ble_eq_true rfl) dX5_isSo_8 ⟨Nat.zero_le _, Nat.zero_le _⟩) hP (hD _ rfl) hS rfl rfl rfl (fun H locs hP hS => ?_)
  refine lv_iconst (v := 1) hx hb dX5_isSo_11 (by decide) ?_
  refine lv_istore_n (lv' := [(3, .int 1), (0, .ref a0), (1, .int v1), (2, .int v2)]) hx hb dX5_isSo_12 rfl hl (by decide) rfl (fun ls hl => ?_)
  refine lv_iconst (v := 0) hx hb dX5_isSo_13 (by decide) ?_
  refine lv_istore (lv' := [(4, .int 0), (3, .int 1), (0, .ref a0), (1, .int v1), (2, .int v2)]) hx hb dX5_isSo_14 hl (by decide) rfl (fun ls hl => ?_)
  exact lX5_isSo_16 (l := l) (e := e) (below := below) C0 F kp z_1 fd tp kn it wd sz nm mv ik td bg en so va iw im st ht v1 v2 z0 z1 z2 hD F 1 0 nw _ _ hP hS _ (lv_sub hl [2, 3, 4, 1, 0] rfl) h
def fX5_fits_43 (F : Nat) (fd : Nat → Int32) (sz : Nat → Int32) (nm : Nat → Int32) (v1 : Int32) (v2 : Int32) (v4 : Int32) (v5 : Int32) : Nat → Int32 → Int32 → (Nat → Int32) → (Nat → Int32) → Option (Int32 × (Nat → Int32) × (Nat → Int32) × (Nat → Int32))
  | 0, _, _, _, _ => none
  | n + 1, v6, v7, nw, ad => (if 100 ≤ v7 then if ¬ (v4 < 0 ∨ 84 ≤ v4.toNatClampNeg) then some (v6, upd nw v4.toNatClampNeg v5, ad, fd) else none else if ¬ (v4 < 0 ∨ 84 ≤ v4.toNatClampNeg) then Option.bind (fX5_sayingIs (upd nw v4.toNatClampNeg v7) v2 1) (fun z_8 => Option.bind (fX5_isSo F (upd nw v4.toNatClampNeg v7) ad sz nm v1 z_8) (fun z_10 => (if z_10.1 = 0 then fX5_fits_43 F fd sz nm v1 v2 v4 v5 n (v6 + 0) (v7 + 1) z_10.2.1 z_10.2.2 else fX5_fits_43 F fd sz nm v1 v2 v4 v5 n (v6 + 1) (v7 + 1) z_10.2.1 z_10.2.2))) else none)
def fX5_fits (F : Nat) (nw : Nat → Int32) (ad : Nat → Int32) (fd : Nat → Int32) (wd : Nat → Int32) (sz : Nat → Int32) (nm : Nat → Int32) (v1 : Int32) (v2 : Int32) : Option (Int32 × (Nat → Int32) × (Nat → Int32) × (Nat → Int32)) := Option.bind (fX5_lacks wd v1 (fX5_isSaying nw v2)) (fun z_1 => (if z_1 = 0 then if ¬ ((fX5_sayingAt v2 2) < 0 ∨ 84 ≤ (fX5_sayingAt v2 2).toNatClampNeg) then fX5_fits_43 F fd sz nm v1 v2 (fX5_sayingAt v2 2) (nw (fX5_sayingAt v2 2).toNatClampNeg) F 0 0 nw ad else none else Option.bind (fX5_finding fd z_1) (fun z_13 => some (z_13.1, nw, ad, z_13.2))))
abbrev rmX5_fits : Room := { frames := 7, cells := 0, slots := 0, locals := 160 }
theorem pdX5_fits : (yX5_fits.cls = RX5 ∧ yX5_fits.cls ≠ "java/lang/invoke/MethodHandle" ∧ yX5_fits.cls ≠ "java/lang/invoke/VarHandle" ∧ (parseMethodDescriptor yX5_fits.desc).map (fun d => d.parameters.length) = some 2) := by decide +kernel
set_option maxHeartbeats 4000000 in
set_option maxRecDepth 100000 in
theorem lX5_fits_43 {p : Program} {l : Launch} {e : Env} {s : State} {m : MethodId} {av : Array Value} {below : List Frame} {meth : Method} {c : Code} {D : va_G} {cI cS : ClassId} {a0 a1 a2 a3 a4 a5 a6 a7 a8 a9 a10 a11 : Nat} {W0 : va_W} (C0 : CX p s m av meth c RX5 cX5_fits 8 (some .int) wsX5_fits D cI cS) (F : Nat) (kp : Nat → Int32) (fd : Nat → Int32) (tp : Nat → Int32) (kn : Nat → Option Nat) (it : Nat → Int32) (wd : Nat → Int32) (sz : Nat → Int32) (nm : Nat → Int32) (mv : Nat → Int32) (ik : Int32) (td : Int32) (bg : Int32) (en : Int32) (so : Int32) (va : Int32) (iw : Int32) (im : Int32) (st : Int32) (ht : Int32) (v1 : Int32) (v2 : Int32) (v4 : Int32) (v5 : Int32) (z0 : Int32) (z1 : Nat → Int32) (z2 : Nat → Int32) (z3 : Nat → Int32) (hD : ∀ W : va_W, W.map Prod.fst = [a0, a1, a2, a3, a4, a5, a6, a7, a8, a9, a10, a11] → va_D (wA W0) W) : ∀ (n : Nat) (v6 : Int32) (v7 : Int32) (nw : Nat → Int32) (ad : Nat → Int32) (H : Heap) (locs : List Loc), va_P D vwCl (wX5 cI cS a0 a1 a2 a3 a4 a5 a6 a7 a8 a9 a10 a11 nw kp ad fd tp kn it wd sz nm mv ik td bg en so va iw im st ht) H → va_S (wA W0) s.heap H locs → ∀ (ls : Array Slot), lv_has ls 8 [(0, .ref a0), (1, .int v1), (2, .int v2), (4, .int v4), (5, .int v5), (6, .int v6), (7, .int v7)] → fX5_fits_43 F fd sz nm v1 v2 v4 v5 n v6 v7 nw ad = some (z0, z1, z2, z3) → W p l e rmX5_fits s m av below meth c H locs 0 0 (MQ below (qI D W0 (wX5 cI cS a0 a1 a2 a3 a4 a5 a6 a7 a8 a9 a10 a11 z1 kp z2 z3 tp kn it wd sz nm mv ik td bg en so va iw im st ht) z0) av s 0 0 (wA W0)) (F0 m 43 ls []) := by
  obtain ⟨hx, hb, hr, hml, hown, hts, hlk, hE⟩ := id C0
  have hinX5 : ∀ w ∈ u_ws RX5 TX5 21, w ∈ wsX5_fits := by decide +kernel
  intro n
  induction n with
  | zero =>
    intro v6 v7 nw ad H locs hP hS ls hl h
    cases (show none = some (z0, z1, z2, z3) from h)
  | succ n ih =>
    intro v6 v7 nw ad H locs hP hS ls hl h
    rw [fX5_fits_43] at h
    refine lv_iload hx hb dX5_fits_43 (lv_at hl 6 rfl) ?_
    refine lv_bipush (v := 100) hx hb dX5_fits_45 (by decide) ?_
    refine lv_icmp_ge (tgt := 89) hx hb dX5_fits_47 (by decide) (fun c_5 => ?_) (fun c_5 => ?_)
    · have h := ifp c_5 h
      refine lv_aload_n hx hb dX5_fits_89 rfl (lv_at hl 0 rfl) ?_
      refine va_get (D := D) (ci := 4) (v := .ref a1) (C := RX5) (T := TX5) (N := 21) hx hb hts hinX5 hown hE.1 hP 0 rfl rfl 0 (by decide) (hts _ (List.mem_of_getElem? (i := 1) rfl)) (fun _ h9 => h9) rfl dX5_fits_90 ?_
      refine lv_iload hx hb dX5_fits_93 (lv_at hl 3 rfl) ?_
      refine lv_iload hx hb dX5_fits_95 (lv_at hl 4 rfl) ?_
      obtain ⟨hi_6, h⟩ := ifs h
      refine va_iast hx hb hE.1 hP (hD _ rfl) hS 1 0 rfl rfl hi_6 dX5_fits_97 (fun H locs hP _ hS => ?_)
      have hP : va_P D vwCl (wX5 cI cS a0 a1 a2 a3 a4 a5 a6 a7 a8 a9 a10 a11 (upd nw v4.toNatClampNeg v5) kp ad fd tp kn it wd sz nm mv ik td bg en so va iw im st ht) H := hP
      refine lv_iload hx hb dX5_fits_98 (lv_at hl 5 rfl) ?_
      obtain ⟨q0, g0⟩ := Prod.mk.inj (Option.some.inj h)
      obtain ⟨q1, g1⟩ := Prod.mk.inj g0
      obtain ⟨q2, q3⟩ := Prod.mk.inj g1
      subst q0 q1 q2 q3
      exact eMi C0 hP hS rfl rfl dX5_fits_100
    · have h := ifn c_5 h
      refine lv_aload_n hx hb dX5_fits_50 rfl (lv_at hl 0 rfl) ?_
      refine va_get (D := D) (ci := 4) (v := .ref a1) (C := RX5) (T := TX5) (N := 21) hx hb hts hinX5 hown hE.1 hP 0 rfl rfl 0 (by decide) (hts _ (List.mem_of_getElem? (i := 1) rfl)) (fun _ h9 => h9) rfl dX5_fits_51 ?_
      refine lv_iload hx hb dX5_fits_54 (lv_at hl 3 rfl) ?_
      refine lv_iload hx hb dX5_fits_56 (lv_at hl 6 rfl) ?_
      obtain ⟨hi_7, h⟩ := ifs h
      refine va_iast hx hb hE.1 hP (hD _ rfl) hS 1 0 rfl rfl hi_7 dX5_fits_58 (fun H locs hP _ hS => ?_)
      have hP : va_P D vwCl (wX5 cI cS a0 a1 a2 a3 a4 a5 a6 a7 a8 a9 a10 a11 (upd nw v4.toNatClampNeg v7) kp ad fd tp kn it wd sz nm mv ik td bg en so va iw im st ht) H := hP
      refine lv_iload hx hb dX5_fits_59 (lv_at hl 5 rfl) ?_
      refine lv_aload_n hx hb dX5_fits_61 rfl (lv_at hl 0 rfl) ?_
      refine lv_iload_n hx hb dX5_fits_62 rfl (lv_at hl 1 rfl) ?_
      refine lv_aload_n hx hb dX5_fits_63 rfl (lv_at hl 0 rfl) ?_
      refine lv_iload_n hx hb dX5_fits_64 rfl (lv_at hl 2 rfl) ?_
      refine lv_iconst (v := 1) hx hb dX5_fits_65 (by decide) ?_
      obtain ⟨z_8, e_9, h⟩ := bds h
      have hPc := hP.sub (ws' := (wX5 cI cS a0 a1 a2 a3 a4 a5 a6 a7 a8 a9 a10 a11 (upd nw v4.toNatClampNeg v7) kp ad fd tp kn it wd sz nm mv ik td bg en so va iw im st ht)) [0, 1, 2, 3, 4, 5, 6, 7, 8, 9, 10, 11] rfl
      refine kRi (rV C0 (tX5_sayingIs l D cI cS a0 a1 a2 a3 a4 a5 a6 a7 a8 a9 a10 a11 (upd nw v4.toNatClampNeg v7) kp ad fd tp kn it wd sz nm mv ik td bg en so va iw im st ht v2 1 z_8 e_9) RX5 gX5_fits_X5_sayingIs rfl ⟨rfl, rfl⟩ pdX5_sayingIs rfl ⟨Nat.le_of_ble_eq_true rfl, Nat.le_of_ble_eq_true rfl⟩ (fun _ _ _ _ q => q) (va_recv hE.1 hPc (ci := 4) (q0 := 0) rfl rfl) (fun U hU _ _ => by rw [hU]; exact hPc) hl.1 rfl (Nat.le_of_ble_eq_true rfl) dX5_fits_66 ⟨Nat.zero_le _, Nat.zero_le _⟩) ?_
      obtain ⟨z_10, e_11, h⟩ := bds h
      have hPc := hP.sub (ws' := (wX5 cI cS a0 a1 a2 a3 a4 a5 a6 a7 a8 a9 a10 a11 (upd nw v4.toNatClampNeg v7) kp ad fd tp kn it wd sz nm mv ik td bg en so va iw im st ht)) [0, 1, 2, 3, 4, 5, 6, 7, 8, 9, 10, 11] rfl
      refine kMi (wf' := (wX5 cI cS a0 a1 a2 a3 a4 a5 a6 a7 a8 a9 a10 a11 z_10.2.1 kp z_10.2.2 fd tp kn it wd sz nm mv ik td bg en so va iw im st ht)) [0, 1, 2, 3, 4, 5, 6, 7, 8, 9, 10, 11] [some 0, some 1, some 2, some 3, some 4, some 5, some 6, some 7, some 8, some 9, some 10, some 11] (rV C0 (tX5_isSo l D cI cS F a0 a1 a2 a3 a4 a5 a6 a7 a8 a9 a10 a11 (upd nw v4.toNatClampNeg v7) kp ad fd tp kn it wd sz nm mv ik td bg en so va iw im st ht v1 z_8 z_10.1 z_10.2.1 z_10.2.2 e_11 (((hD (wX5 cI cS a0 a1 a2 a3 a4 a5 a6 a7 a8 a9 a10 a11 (upd nw v4.toNatClampNeg v7) kp ad fd tp kn it wd sz nm mv ik td bg en so va iw im st ht) rfl).sub [0, 1, 2, 3, 4, 5, 6, 7, 8, 9, 10, 11] (by decide) rfl).weaken (fun _ _ _ _ => trivial))) RX5 gX5_fits_X5_isSo rfl ⟨rfl, rfl⟩ pdX5_isSo rfl ⟨Nat.le_of_ble_eq_true rfl, Nat.le_of_ble_eq_true rfl⟩ (fun _ _ _ _ q => q) (va_recv hE.1 hPc (ci := 4) (q0 := 0) rfl rfl) (fun U hU _ _ => by rw [hU]; exact hPc) hl.1 rfl (Nat.le_of_ble_eq_true rfl) dX5_fits_69 ⟨Nat.zero_le _, Nat.zero_le _⟩) hP (hD _ rfl) hS rfl rfl rfl (fun H locs hP hS => ?_)
      refine lv_if_eq (tgt := 79) hx hb dX5_fits_72 (by decide) (fun c_12 => ?_) (fun c_12 => ?_)
      · have h := ifp c_12 h
        refine lv_iconst (v := 0) hx hb dX5_fits_79 (by decide) ?_
        refine lv_iadd hx hb dX5_fits_80 ?_
        refine lv_istore (lv' := [(6, .int (v6 + 0)), (0, .ref a0), (1, .int v1), (2, .int v2), (4, .int v4), (5, .int v5), (7, .int v7)]) hx hb dX5_fits_81 hl (by decide) rfl (fun ls hl => ?_)
        refine lv_iinc (v := v7 + 1) (lv' := [(7, .int (v7 + 1)), (6, .int (v6 + 0)), (0, .ref a0), (1, .int v1), (2, .int v2), (4, .int v4), (5, .int v5)]) hx hb dX5_fits_83 hl (k := 6) rfl rfl (by decide) rfl (fun ls hl => ?_)
        refine lv_goto (tgt := 43) hx hb dX5_fits_86 (by decide) ?_
        exact ih (v6 + 0) (v7 + 1) z_10.2.1 z_10.2.2 _ _ hP hS _ (lv_sub hl [2, 3, 4, 5, 6, 1, 0] rfl) h
      · have h := ifn c_12 h
        refine lv_iconst (v := 1) hx hb dX5_fits_75 (by decide) ?_
        refine lv_goto (tgt := 80) hx hb dX5_fits_76 (by decide) ?_
        refine lv_iadd hx hb dX5_fits_80 ?_
        refine lv_istore (lv' := [(6, .int (v6 + 1)), (0, .ref a0), (1, .int v1), (2, .int v2), (4, .int v4), (5, .int v5), (7, .int v7)]) hx hb dX5_fits_81 hl (by decide) rfl (fun ls hl => ?_)
        refine lv_iinc (v := v7 + 1) (lv' := [(7, .int (v7 + 1)), (6, .int (v6 + 1)), (0, .ref a0), (1, .int v1), (2, .int v2), (4, .int v4), (5, .int v5)]) hx hb dX5_fits_83 hl (k := 6) rfl rfl (by decide) rfl (fun ls hl => ?_)
        refine lv_goto (tgt := 43) hx hb dX5_fits_86 (by decide) ?_
        exact ih (v6 + 1) (v7 + 1) z_10.2.1 z_10.2.2 _ _ hP hS _ (lv_sub hl [2, 3, 4, 5, 6, 1, 0] rfl) h
set_option maxHeartbeats 4000000 in
set_option maxRecDepth 100000 in
theorem tX5_fits (l : Launch) (D : va_G) (cI cS : ClassId) (F : Nat) (a0 a1 a2 a3 a4 a5 a6 a7 a8 a9 a10 a11 : Nat) (nw : Nat → Int32) (kp : Nat → Int32) (ad : Nat → Int32) (fd : Nat → Int32) (tp : Nat → Int32) (kn : Nat → Option Nat) (it : Nat → Int32) (wd : Nat → Int32) (sz : Nat → Int32) (nm : Nat → Int32) (mv : Nat → Int32) (ik : Int32) (td : Int32) (bg : Int32) (en : Int32) (so : Int32) (va : Int32) (iw : Int32) (im : Int32) (st : Int32) (ht : Int32) (v1 : Int32) (v2 : Int32) (z0 : Int32) (z1 : Nat → Int32) (z2 : Nat → Int32) (z3 : Nat → Int32) (h : fX5_fits F nw ad fd wd sz nm v1 v2 = some (z0, z1, z2, z3)) (hD0 : va_D (fun _ => True) (wX5 cI cS a0 a1 a2 a3 a4 a5 a6 a7 a8 a9 a10 a11 nw kp ad fd tp kn it wd sz nm mv ik td bg en so va iw im st ht)) : Met l yX5_fits wsX5_fits rmX5_fits (PZ D cI cS [.ref a0, .int v1, .int v2] (fun U => va_P D vwCl (wX5 cI cS a0 a1 a2 a3 a4 a5 a6 a7 a8 a9 a10 a11 nw kp ad fd tp kn it wd sz nm mv ik td bg en so va iw im st ht) U.heap)) (qI D (wX5 cI cS a0 a1 a2 a3 a4 a5 a6 a7 a8 a9 a10 a11 nw kp ad fd tp kn it wd sz nm mv ik td bg en so va iw im st ht) (wX5 cI cS a0 a1 a2 a3 a4 a5 a6 a7 a8 a9 a10 a11 z1 kp z2 z3 tp kn it wd sz nm mv ik td bg en so va iw im st ht) z0) 0 0 (wA (wX5 cI cS a0 a1 a2 a3 a4 a5 a6 a7 a8 a9 a10 a11 nw kp ad fd tp kn it wd sz nm mv ik td bg en so va iw im st ht)) := by
  refine Met.mk RX5 (by decide) rfl rfl (Nat.le_of_ble_eq_true rfl) ?_
  intro p e s m below meth c ls C0 hP hl
  have hl : lv_has ls 8 [(0, .ref a0), (1, .int v1), (2, .int v2)] := hl
  obtain ⟨hx, hb, hr, hml, hown, hts, hlk, hE⟩ := id C0
  have hinX5 : ∀ w ∈ u_ws RX5 TX5 21, w ∈ wsX5_fits := by decide +kernel
  have hD : ∀ W : va_W, W.map Prod.fst = [a0, a1, a2, a3, a4, a5, a6, a7, a8, a9, a10, a11] → va_D (wA (wX5 cI cS a0 a1 a2 a3 a4 a5 a6 a7 a8 a9 a10 a11 nw kp ad fd tp kn it wd sz nm mv ik td bg en so va iw im st ht)) W := fun W hW => hD0.own.re hW
  have hS : va_S (wA (wX5 cI cS a0 a1 a2 a3 a4 a5 a6 a7 a8 a9 a10 a11 nw kp ad fd tp kn it wd sz nm mv ik td bg en so va iw im st ht)) s.heap s.heap [] := va_S.rf
  have hP : va_P D vwCl (wX5 cI cS a0 a1 a2 a3 a4 a5 a6 a7 a8 a9 a10 a11 nw kp ad fd tp kn it wd sz nm mv ik td bg en so va iw im st ht) s.heap := hP
  rw [fX5_fits] at h
  refine lv_aload_n hx hb dX5_fits_0 rfl (lv_at hl 0 rfl) ?_
  refine lv_iload_n hx hb dX5_fits_1 rfl (lv_at hl 1 rfl) ?_
  refine lv_aload_n hx hb dX5_fits_2 rfl (lv_at hl 0 rfl) ?_
  refine lv_iload_n hx hb dX5_fits_3 rfl (lv_at hl 2 rfl) ?_
  have hPc := hP.sub (ws' := (wX5 cI cS a0 a1 a2 a3 a4 a5 a6 a7 a8 a9 a10 a11 nw kp ad fd tp kn it wd sz nm mv ik td bg en so va iw im st ht)) [0, 1, 2, 3, 4, 5, 6, 7, 8, 9, 10, 11] rfl
  refine kRi (rV C0 (tX5_isSaying l D cI cS a0 a1 a2 a3 a4 a5 a6 a7 a8 a9 a10 a11 nw kp ad fd tp kn it wd sz nm mv ik td bg en so va iw im st ht v2 (fX5_isSaying nw v2) rfl) RX5 gX5_fits_X5_isSaying rfl ⟨rfl, rfl⟩ pdX5_isSaying rfl ⟨Nat.le_of_ble_eq_true rfl, Nat.le_of_ble_eq_true rfl⟩ (fun _ _ _ _ q => q) (va_recv hE.1 hPc (ci := 4) (q0 := 0) rfl rfl) (fun U hU _ _ => by rw [hU]; exact hPc) hl.1 rfl (Nat.le_of_ble_eq_true rfl) dX5_fits_4 ⟨Nat.zero_le _, Nat.zero_le _⟩) ?_
  obtain ⟨z_1, e_2, h⟩ := bds h
  have hPc := hP.sub (ws' := (wX5 cI cS a0 a1 a2 a3 a4 a5 a6 a7 a8 a9 a10 a11 nw kp ad fd tp kn it wd sz nm mv ik td bg en so va iw im st ht)) [0, 1, 2, 3, 4, 5, 6, 7, 8, 9, 10, 11] rfl
  refine kRi (rV C0 (tX5_lacks l D cI cS a0 a1 a2 a3 a4 a5 a6 a7 a8 a9 a10 a11 nw kp ad fd tp kn it wd sz nm mv ik td bg en so va iw im st ht v1 (fX5_isSaying nw v2) z_1 e_2) RX5 gX5_fits_X5_lacks rfl ⟨rfl, rfl⟩ pdX5_lacks rfl ⟨Nat.le_of_ble_eq_true rfl, Nat.le_of_ble_eq_true rfl⟩ (fun _ _ _ _ q => q) (va_recv hE.1 hPc (ci := 4) (q0 := 0) rfl rfl) (fun U hU _ _ => by rw [hU]; exact hPc) hl.1 rfl (Nat.le_of_ble_eq_true rfl) dX5_fits_7 ⟨Nat.zero_le _, Nat.zero_le _⟩) ?_
  refine lv_istore_n (lv' := [(3, .int z_1), (0, .ref a0), (1, .int v1), (2, .int v2)]) hx hb dX5_fits_10 rfl hl (by decide) rfl (fun ls hl => ?_)
  refine lv_iload_n hx hb dX5_fits_11 rfl (lv_at hl 0 rfl) ?_
  refine lv_if_eq (tgt := 21) hx hb dX5_fits_12 (by decide) (fun c_3 => ?_) (fun c_3 => ?_)
  · have h := ifp c_3 h
    refine lv_iload_n hx hb dX5_fits_21 rfl (lv_at hl 3 rfl) ?_
    refine lv_iconst (v := 2) hx hb dX5_fits_22 (by decide) ?_
    refine kRi (rS C0 (tX5_sayingAt l D cI cS v2 2 (fX5_sayingAt v2 2) rfl) gX5_fits_X5_sayingAt rfl ⟨rfl, rfl⟩ pdX5_sayingAt rfl ⟨Nat.le_of_ble_eq_true rfl, Nat.le_of_ble_eq_true rfl⟩ (fun _ _ _ _ q => q) (fun _ _ _ _ => vp0) hl.1 rfl (Nat.le_of_ble_eq_true rfl) dX5_fits_23 ⟨Nat.zero_le _, Nat.zero_le _⟩) ?_
    refine lv_istore (lv' := [(4, .int (fX5_sayingAt v2 2)), (3, .int z_1), (0, .ref a0), (1, .int v1), (2, .int v2)]) hx hb dX5_fits_26 hl (by decide) rfl (fun ls hl => ?_)
    refine lv_aload_n hx hb dX5_fits_28 rfl (lv_at hl 2 rfl) ?_
    refine va_get (D := D) (ci := 4) (v := .ref a1) (C := RX5) (T := TX5) (N := 21) hx hb hts hinX5 hown hE.1 hP 0 rfl rfl 0 (by decide) (hts _ (List.mem_of_getElem? (i := 1) rfl)) (fun _ h9 => h9) rfl dX5_fits_29 ?_
    refine lv_iload hx hb dX5_fits_32 (lv_at hl 0 rfl) ?_
    obtain ⟨hi_4, h⟩ := ifs h
    refine va_iald hx hb hE.1 hP 1 0 rfl rfl hi_4 dX5_fits_34 ?_
    refine lv_istore (lv' := [(5, .int (nw (fX5_sayingAt v2 2).toNatClampNeg)), (4, .int (fX5_sayingAt v2 2)), (3, .int z_1), (0, .ref a0), (1, .int v1), (2, .int v2)]) hx hb dX5_fits_35 hl (by decide) rfl (fun ls hl => ?_)
    refine lv_iconst (v := 0) hx hb dX5_fits_37 (by decide) ?_
    refine lv_istore (lv' := [(6, .int 0), (5, .int (nw (fX5_sayingAt v2 2).toNatClampNeg)), (4, .int (fX5_sayingAt v2 2)), (3, .int z_1), (0, .ref a0), (1, .int v1), (2, .int v2)]) hx hb dX5_fits_38 hl (by decide) rfl (fun ls hl => ?_)
    refine lv_iconst (v := 0) hx hb dX5_fits_40 (by decide) ?_
    refine lv_istore (lv' := [(7, .int 0), (6, .int 0), (5, .int (nw (fX5_sayingAt v2 2).toNatClampNeg)), (4, .int (fX5_sayingAt v2 2)), (3, .int z_1), (0, .ref a0), (1, .int v1), (2, .int v2)]) hx hb dX5_fits_41 hl (by decide) rfl (fun ls hl => ?_)
    exact lX5_fits_43 (l := l) (e := e) (below := below) C0 F kp fd tp kn it wd sz nm mv ik td bg en so va iw im st ht v1 v2 (fX5_sayingAt v2 2) (nw (fX5_sayingAt v2 2).toNatClampNeg) z0 z1 z2 z3 hD F 0 0 nw ad _ _ hP hS _ (lv_sub hl [5, 6, 7, 3, 2, 1, 0] rfl) h
  · have h := ifn c_3 h
    refine lv_aload_n hx hb dX5_fits_15 rfl (lv_at hl 1 rfl) ?_
    refine lv_iload_n hx hb dX5_fits_16 rfl (lv_at hl 0 rfl) ?_
    obtain ⟨z_13, e_14, h⟩ := bds h
    have hPc := hP.sub (ws' := (wX5 cI cS a0 a1 a2 a3 a4 a5 a6 a7 a8 a9 a10 a11 nw kp ad fd tp kn it wd sz nm mv ik td bg en so va iw im st ht)) [0, 1, 2, 3, 4, 5, 6, 7, 8, 9, 10, 11] rfl
    refine kMi (wf' := (wX5 cI cS a0 a1 a2 a3 a4 a5 a6 a7 a8 a9 a10 a11 nw kp ad z_13.2 tp kn it wd sz nm mv ik td bg en so va iw im st ht)) [0, 1, 2, 3, 4, 5, 6, 7, 8, 9, 10, 11] [some 0, some 1, some 2, some 3, some 4, some 5, some 6, some 7, some 8, some 9, some 10, some 11] (rV C0 (tX5_finding l D cI cS a0 a1 a2 a3 a4 a5 a6 a7 a8 a9 a10 a11 nw kp ad fd tp kn it wd sz nm mv ik td bg en so va iw im st ht z_1 z_13.1 z_13.2 e_14 (((hD (wX5 cI cS a0 a1 a2 a3 a4 a5 a6 a7 a8 a9 a10 a11 nw kp ad fd tp kn it wd sz nm mv ik td bg en so va iw im st ht) rfl).sub [0, 1, 2, 3, 4, 5, 6, 7, 8, 9, 10, 11] (by decide) rfl).weaken (fun _ _ _ _ => trivial))) RX5 gX5_fits_X5_finding rfl ⟨rfl, rfl⟩ pdX5_finding rfl ⟨Nat.le_of_ble_eq_true rfl, Nat.le_of_ble_eq_true rfl⟩ (fun _ _ _ _ q => q) (va_recv hE.1 hPc (ci := 4) (q0 := 0) rfl rfl) (fun U hU _ _ => by rw [hU]; exact hPc) hl.1 rfl (Nat.le_of_ble_eq_true rfl) dX5_fits_17 ⟨Nat.zero_le _, Nat.zero_le _⟩) hP (hD _ rfl) hS rfl rfl rfl (fun H locs hP hS => ?_)
    obtain ⟨q0, g0⟩ := Prod.mk.inj (Option.some.inj h)
    obtain ⟨q1, g1⟩ := Prod.mk.inj g0
    obtain ⟨q2, q3⟩ := Prod.mk.inj g1
    subst q0 q1 q2 q3
    exact eMi C0 hP hS rfl rfl dX5_fits_20
def fX5_kinds_43 (F : Nat) (fd : Nat → Int32) (sz : Nat → Int32) (nm : Nat → Int32) (v1 : Int32) (v2 : Int32) (v4 : Int32) (v5 : Int32) : Nat → Int32 → Int32 → (Nat → Int32) → (Nat → Int32) → Option (Int32 × (Nat → Int32) × (Nat → Int32) × (Nat → Int32))
  | 0, _, _, _, _ => none
  | n + 1, v6, v7, nw, ad => (if 6 < v7 then if ¬ (v4 < 0 ∨ 84 ≤ v4.toNatClampNeg) then some (v6, upd nw v4.toNatClampNeg v5, ad, fd) else none else if ¬ (v4 < 0 ∨ 84 ≤ v4.toNatClampNeg) then Option.bind (fX5_sayingIs (upd nw v4.toNatClampNeg v7) v2 1) (fun z_8 => Option.bind (fX5_isSo F (upd nw v4.toNatClampNeg v7) ad sz nm v1 z_8) (fun z_10 => (if z_10.1 = 0 then fX5_kinds_43 F fd sz nm v1 v2 v4 v5 n (v6 ||| 0) (v7 + 1) z_10.2.1 z_10.2.2 else fX5_kinds_43 F fd sz nm v1 v2 v4 v5 n (v6 ||| (1 <<< (v7 &&& 31))) (v7 + 1) z_10.2.1 z_10.2.2))) else none)
def fX5_kinds (F : Nat) (nw : Nat → Int32) (ad : Nat → Int32) (fd : Nat → Int32) (wd : Nat → Int32) (sz : Nat → Int32) (nm : Nat → Int32) (v1 : Int32) (v2 : Int32) : Option (Int32 × (Nat → Int32) × (Nat → Int32) × (Nat → Int32)) := Option.bind (fX5_lacks wd v1 (fX5_isSaying nw v2)) (fun z_1 => (if z_1 = 0 then if ¬ ((fX5_sayingAt v2 0) < 0 ∨ 84 ≤ (fX5_sayingAt v2 0).toNatClampNeg) then fX5_kinds_43 F fd sz nm v1 v2 (fX5_sayingAt v2 0) (nw (fX5_sayingAt v2 0).toNatClampNeg) F 0 0 nw ad else none else Option.bind (fX5_finding fd z_1) (fun z_13 => some (z_13.1, nw, ad, z_13.2))))
abbrev rmX5_kinds : Room := { frames := 7, cells := 0, slots := 0, locals := 160 }
theorem pdX5_kinds : (yX5_kinds.cls = RX5 ∧ yX5_kinds.cls ≠ "java/lang/invoke/MethodHandle" ∧ yX5_kinds.cls ≠ "java/lang/invoke/VarHandle" ∧ (parseMethodDescriptor yX5_kinds.desc).map (fun d => d.parameters.length) = some 2) := by decide +kernel
set_option maxHeartbeats 4000000 in
set_option maxRecDepth 100000 in
theorem lX5_kinds_43 {p : Program} {l : Launch} {e : Env} {s : State} {m : MethodId} {av : Array Value} {below : List Frame} {meth : Method} {c : Code} {D : va_G} {cI cS : ClassId} {a0 a1 a2 a3 a4 a5 a6 a7 a8 a9 a10 a11 : Nat} {W0 : va_W} (C0 : CX p s m av meth c RX5 cX5_kinds 8 (some .int) wsX5_kinds D cI cS) (F : Nat) (kp : Nat → Int32) (fd : Nat → Int32) (tp : Nat → Int32) (kn : Nat → Option Nat) (it : Nat → Int32) (wd : Nat → Int32) (sz : Nat → Int32) (nm : Nat → Int32) (mv : Nat → Int32) (ik : Int32) (td : Int32) (bg : Int32) (en : Int32) (so : Int32) (va : Int32) (iw : Int32) (im : Int32) (st : Int32) (ht : Int32) (v1 : Int32) (v2 : Int32) (v4 : Int32) (v5 : Int32) (z0 : Int32) (z1 : Nat → Int32) (z2 : Nat → Int32) (z3 : Nat → Int32) (hD : ∀ W : va_W, W.map Prod.fst = [a0, a1, a2, a3, a4, a5, a6, a7, a8, a9, a10, a11] → va_D (wA W0) W) : ∀ (n : Nat) (v6 : Int32) (v7 : Int32) (nw : Nat → Int32) (ad : Nat → Int32) (H : Heap) (locs : List Loc), va_P D vwCl (wX5 cI cS a0 a1 a2 a3 a4 a5 a6 a7 a8 a9 a10 a11 nw kp ad fd tp kn it wd sz nm mv ik td bg en so va iw im st ht) H → va_S (wA W0) s.heap H locs → ∀ (ls : Array Slot), lv_has ls 8 [(0, .ref a0), (1, .int v1), (2, .int v2), (4, .int v4), (5, .int v5), (6, .int v6), (7, .int v7)] → fX5_kinds_43 F fd sz nm v1 v2 v4 v5 n v6 v7 nw ad = some (z0, z1, z2, z3) → W p l e rmX5_kinds s m av below meth c H locs 0 0 (MQ below (qI D W0 (wX5 cI cS a0 a1 a2 a3 a4 a5 a6 a7 a8 a9 a10 a11 z1 kp z2 z3 tp kn it wd sz nm mv ik td bg en so va iw im st ht) z0) av s 0 0 (wA W0)) (F0 m 43 ls []) := by
  obtain ⟨hx, hb, hr, hml, hown, hts, hlk, hE⟩ := id C0
  have hinX5 : ∀ w ∈ u_ws RX5 TX5 21, w ∈ wsX5_kinds := by decide +kernel
  intro n
  induction n with
  | zero =>
    intro v6 v7 nw ad H locs hP hS ls hl h
    cases (show none = some (z0, z1, z2, z3) from h)
  | succ n ih =>
    intro v6 v7 nw ad H locs hP hS ls hl h
    rw [fX5_kinds_43] at h
    refine lv_iload hx hb dX5_kinds_43 (lv_at hl 6 rfl) ?_
    refine lv_bipush (v := 6) hx hb dX5_kinds_45 (by decide) ?_
    refine lv_icmp_gt (tgt := 92) hx hb dX5_kinds_47 (by decide) (fun c_5 => ?_) (fun c_5 => ?_)
    · have h := ifp c_5 h
      refine lv_aload_n hx hb dX5_kinds_92 rfl (lv_at hl 0 rfl) ?_
      refine va_get (D := D) (ci := 4) (v := .ref a1) (C := RX5) (T := TX5) (N := 21) hx hb hts hinX5 hown hE.1 hP 0 rfl rfl 0 (by decide) (hts _ (List.mem_of_getElem? (i := 1) rfl)) (fun _ h9 => h9) rfl dX5_kinds_93 ?_
      refine lv_iload hx hb dX5_kinds_96 (lv_at hl 3 rfl) ?_
      refine lv_iload hx hb dX5_kinds_98 (lv_at hl 4 rfl) ?_
      obtain ⟨hi_6, h⟩ := ifs h
      refine va_iast hx hb hE.1 hP (hD _ rfl) hS 1 0 rfl rfl hi_6 dX5_kinds_100 (fun H locs hP _ hS => ?_)
      have hP : va_P D vwCl (wX5 cI cS a0 a1 a2 a3 a4 a5 a6 a7 a8 a9 a10 a11 (upd nw v4.toNatClampNeg v5) kp ad fd tp kn it wd sz nm mv ik td bg en so va iw im st ht) H := hP
      refine lv_iload hx hb dX5_kinds_101 (lv_at hl 5 rfl) ?_
      obtain ⟨q0, g0⟩ := Prod.mk.inj (Option.some.inj h)
      obtain ⟨q1, g1⟩ := Prod.mk.inj g0
      obtain ⟨q2, q3⟩ := Prod.mk.inj g1
      subst q0 q1 q2 q3
      exact eMi C0 hP hS rfl rfl dX5_kinds_103
    · have h := ifn c_5 h
      refine lv_aload_n hx hb dX5_kinds_50 rfl (lv_at hl 0 rfl) ?_
      refine va_get (D := D) (ci := 4) (v := .ref a1) (C := RX5) (T := TX5) (N := 21) hx hb hts hinX5 hown hE.1 hP 0 rfl rfl 0 (by decide) (hts _ (List.mem_of_getElem? (i := 1) rfl)) (fun _ h9 => h9) rfl dX5_kinds_51 ?_
      refine lv_iload hx hb dX5_kinds_54 (lv_at hl 3 rfl) ?_
      refine lv_iload hx hb dX5_kinds_56 (lv_at hl 6 rfl) ?_
      obtain ⟨hi_7, h⟩ := ifs h
      refine va_iast hx hb hE.1 hP (hD _ rfl) hS 1 0 rfl rfl hi_7 dX5_kinds_58 (fun H locs hP _ hS => ?_)
      have hP : va_P D vwCl (wX5 cI cS a0 a1 a2 a3 a4 a5 a6 a7 a8 a9 a10 a11 (upd nw v4.toNatClampNeg v7) kp ad fd tp kn it wd sz nm mv ik td bg en so va iw im st ht) H := hP
      refine lv_iload hx hb dX5_kinds_59 (lv_at hl 5 rfl) ?_
      refine lv_aload_n hx hb dX5_kinds_61 rfl (lv_at hl 0 rfl) ?_
      refine lv_iload_n hx hb dX5_kinds_62 rfl (lv_at hl 1 rfl) ?_
      refine lv_aload_n hx hb dX5_kinds_63 rfl (lv_at hl 0 rfl) ?_
      refine lv_iload_n hx hb dX5_kinds_64 rfl (lv_at hl 2 rfl) ?_
      refine lv_iconst (v := 1) hx hb dX5_kinds_65 (by decide) ?_
      obtain ⟨z_8, e_9, h⟩ := bds h
      have hPc := hP.sub (ws' := (wX5 cI cS a0 a1 a2 a3 a4 a5 a6 a7 a8 a9 a10 a11 (upd nw v4.toNatClampNeg v7) kp ad fd tp kn it wd sz nm mv ik td bg en so va iw im st ht)) [0, 1, 2, 3, 4, 5, 6, 7, 8, 9, 10, 11] rfl
      refine kRi (rV C0 (tX5_sayingIs l D cI cS a0 a1 a2 a3 a4 a5 a6 a7 a8 a9 a10 a11 (upd nw v4.toNatClampNeg v7) kp ad fd tp kn it wd sz nm mv ik td bg en so va iw im st ht v2 1 z_8 e_9) RX5 gX5_kinds_X5_sayingIs rfl ⟨rfl, rfl⟩ pdX5_sayingIs rfl ⟨Nat.le_of_ble_eq_true rfl, Nat.le_of_ble_eq_true rfl⟩ (fun _ _ _ _ q => q) (va_recv hE.1 hPc (ci := 4) (q0 := 0) rfl rfl) (fun U hU _ _ => by rw [hU]; exact hPc) hl.1 rfl (Nat.le_of_ble_eq_true rfl) dX5_kinds_66 ⟨Nat.zero_le _, Nat.zero_le _⟩) ?_
      obtain ⟨z_10, e_11, h⟩ := bds h
      have hPc := hP.sub (ws' := (wX5 cI cS a0 a1 a2 a3 a4 a5 a6 a7 a8 a9 a10 a11 (upd nw v4.toNatClampNeg v7) kp ad fd tp kn it wd sz nm mv ik td bg en so va iw im st ht)) [0, 1, 2, 3, 4, 5, 6, 7, 8, 9, 10, 11] rfl
      refine kMi (wf' := (wX5 cI cS a0 a1 a2 a3 a4 a5 a6 a7 a8 a9 a10 a11 z_10.2.1 kp z_10.2.2 fd tp kn it wd sz nm mv ik td bg en so va iw im st ht)) [0, 1, 2, 3, 4, 5, 6, 7, 8, 9, 10, 11] [some 0, some 1, some 2, some 3, some 4, some 5, some 6, some 7, some 8, some 9, some 10, some 11] (rV C0 (tX5_isSo l D cI cS F a0 a1 a2 a3 a4 a5 a6 a7 a8 a9 a10 a11 (upd nw v4.toNatClampNeg v7) kp ad fd tp kn it wd sz nm mv ik td bg en so va iw im st ht v1 z_8 z_10.1 z_10.2.1 z_10.2.2 e_11 (((hD (wX5 cI cS a0 a1 a2 a3 a4 a5 a6 a7 a8 a9 a10 a11 (upd nw v4.toNatClampNeg v7) kp ad fd tp kn it wd sz nm mv ik td bg en so va iw im st ht) rfl).sub [0, 1, 2, 3, 4, 5, 6, 7, 8, 9, 10, 11] (by decide) rfl).weaken (fun _ _ _ _ => trivial))) RX5 gX5_kinds_X5_isSo rfl ⟨rfl, rfl⟩ pdX5_isSo rfl ⟨Nat.le_of_ble_eq_true rfl, Nat.le_of_ble_eq_true rfl⟩ (fun _ _ _ _ q => q) (va_recv hE.1 hPc (ci := 4) (q0 := 0) rfl rfl) (fun U hU _ _ => by rw [hU]; exact hPc) hl.1 rfl (Nat.le_of_ble_eq_true rfl) dX5_kinds_69 ⟨Nat.zero_le _, Nat.zero_le _⟩) hP (hD _ rfl) hS rfl rfl rfl (fun H locs hP hS => ?_)
      refine lv_if_eq (tgt := 82) hx hb dX5_kinds_72 (by decide) (fun c_12 => ?_) (fun c_12 => ?_)
      · have h := ifp c_12 h
        refine lv_iconst (v := 0) hx hb dX5_kinds_82 (by decide) ?_
        refine lv_ior hx hb dX5_kinds_83 ?_
        refine lv_istore (lv' := [(6, .int (v6 ||| 0)), (0, .ref a0), (1, .int v1), (2, .int v2), (4, .int v4), (5, .int v5), (7, .int v7)]) hx hb dX5_kinds_84 hl (by decide) rfl (fun ls hl => ?_)
        refine lv_iinc (v := v7 + 1) (lv' := [(7, .int (v7 + 1)), (6, .int (v6 ||| 0)), (0, .ref a0), (1, .int v1), (2, .int v2), (4, .int v4), (5, .int v5)]) hx hb dX5_kinds_86 hl (k := 6) rfl rfl (by decide) rfl (fun ls hl => ?_)
        refine lv_goto (tgt := 43) hx hb dX5_kinds_89 (by decide) ?_
        exact ih (v6 ||| 0) (v7 + 1) z_10.2.1 z_10.2.2 _ _ hP hS _ (lv_sub hl [2, 3, 4, 5, 6, 1, 0] rfl) h
      · have h := ifn c_12 h
        refine lv_iconst (v := 1) hx hb dX5_kinds_75 (by decide) ?_
        refine lv_iload hx hb dX5_kinds_76 (lv_at hl 6 rfl) ?_
        refine lv_ishl hx hb dX5_kinds_78 ?_
        refine lv_goto (tgt := 83) hx hb dX5_kinds_79 (by decide) ?_
        refine lv_ior hx hb dX5_kinds_83 ?_
        refine lv_istore (lv' := [(6, .int (v6 ||| (1 <<< (v7 &&& 31)))), (0, .ref a0), (1, .int v1), (2, .int v2), (4, .int v4), (5, .int v5), (7, .int v7)]) hx hb dX5_kinds_84 hl (by decide) rfl (fun ls hl => ?_)
        refine lv_iinc (v := v7 + 1) (lv' := [(7, .int (v7 + 1)), (6, .int (v6 ||| (1 <<< (v7 &&& 31)))), (0, .ref a0), (1, .int v1), (2, .int v2), (4, .int v4), (5, .int v5)]) hx hb dX5_kinds_86 hl (k := 6) rfl rfl (by decide) rfl (fun ls hl => ?_)
        refine lv_goto (tgt := 43) hx hb dX5_kinds_89 (by decide) ?_
        exact ih (v6 ||| (1 <<< (v7 &&& 31))) (v7 + 1) z_10.2.1 z_10.2.2 _ _ hP hS _ (lv_sub hl [2, 3, 4, 5, 6, 1, 0] rfl) h
set_option maxHeartbeats 4000000 in
set_option maxRecDepth 100000 in
theorem tX5_kinds (l : Launch) (D : va_G) (cI cS : ClassId) (F : Nat) (a0 a1 a2 a3 a4 a5 a6 a7 a8 a9 a10 a11 : Nat) (nw : Nat → Int32) (kp : Nat → Int32) (ad : Nat → Int32) (fd : Nat → Int32) (tp : Nat → Int32) (kn : Nat → Option Nat) (it : Nat → Int32) (wd : Nat → Int32) (sz : Nat → Int32) (nm : Nat → Int32) (mv : Nat → Int32) (ik : Int32) (td : Int32) (bg : Int32) (en : Int32) (so : Int32) (va : Int32) (iw : Int32) (im : Int32) (st : Int32) (ht : Int32) (v1 : Int32) (v2 : Int32) (z0 : Int32) (z1 : Nat → Int32) (z2 : Nat → Int32) (z3 : Nat → Int32) (h : fX5_kinds F nw ad fd wd sz nm v1 v2 = some (z0, z1, z2, z3)) (hD0 : va_D (fun _ => True) (wX5 cI cS a0 a1 a2 a3 a4 a5 a6 a7 a8 a9 a10 a11 nw kp ad fd tp kn it wd sz nm mv ik td bg en so va iw im st ht)) : Met l yX5_kinds wsX5_kinds rmX5_kinds (PZ D cI cS [.ref a0, .int v1, .int v2] (fun U => va_P D vwCl (wX5 cI cS a0 a1 a2 a3 a4 a5 a6 a7 a8 a9 a10 a11 nw kp ad fd tp kn it wd sz nm mv ik td bg en so va iw im st ht) U.heap)) (qI D (wX5 cI cS a0 a1 a2 a3 a4 a5 a6 a7 a8 a9 a10 a11 nw kp ad fd tp kn it wd sz nm mv ik td bg en so va iw im st ht) (wX5 cI cS a0 a1 a2 a3 a4 a5 a6 a7 a8 a9 a10 a11 z1 kp z2 z3 tp kn it wd sz nm mv ik td bg en so va iw im st ht) z0) 0 0 (wA (wX5 cI cS a0 a1 a2 a3 a4 a5 a6 a7 a8 a9 a10 a11 nw kp ad fd tp kn it wd sz nm mv ik td bg en so va iw im st ht)) := by
  refine Met.mk RX5 (by decide) rfl rfl (Nat.le_of_ble_eq_true rfl) ?_
  intro p e s m below meth c ls C0 hP hl
  have hl : lv_has ls 8 [(0, .ref a0), (1, .int v1), (2, .int v2)] := hl
  obtain ⟨hx, hb, hr, hml, hown, hts, hlk, hE⟩ := id C0
  have hinX5 : ∀ w ∈ u_ws RX5 TX5 21, w ∈ wsX5_kinds := by decide +kernel
  have hD : ∀ W : va_W, W.map Prod.fst = [a0, a1, a2, a3, a4, a5, a6, a7, a8, a9, a10, a11] → va_D (wA (wX5 cI cS a0 a1 a2 a3 a4 a5 a6 a7 a8 a9 a10 a11 nw kp ad fd tp kn it wd sz nm mv ik td bg en so va iw im st ht)) W := fun W hW => hD0.own.re hW
  have hS : va_S (wA (wX5 cI cS a0 a1 a2 a3 a4 a5 a6 a7 a8 a9 a10 a11 nw kp ad fd tp kn it wd sz nm mv ik td bg en so va iw im st ht)) s.heap s.heap [] := va_S.rf
  have hP : va_P D vwCl (wX5 cI cS a0 a1 a2 a3 a4 a5 a6 a7 a8 a9 a10 a11 nw kp ad fd tp kn it wd sz nm mv ik td bg en so va iw im st ht) s.heap := hP
  rw [fX5_kinds] at h
  refine lv_aload_n hx hb dX5_kinds_0 rfl (lv_at hl 0 rfl) ?_
  refine lv_iload_n hx hb dX5_kinds_1 rfl (lv_at hl 1 rfl) ?_
  refine lv_aload_n hx hb dX5_kinds_2 rfl (lv_at hl 0 rfl) ?_
  refine lv_iload_n hx hb dX5_kinds_3 rfl (lv_at hl 2 rfl) ?_
  have hPc := hP.sub (ws' := (wX5 cI cS a0 a1 a2 a3 a4 a5 a6 a7 a8 a9 a10 a11 nw kp ad fd tp kn it wd sz nm mv ik td bg en so va iw im st ht)) [0, 1, 2, 3, 4, 5, 6, 7, 8, 9, 10, 11] rfl
  refine kRi (rV C0 (tX5_isSaying l D cI cS a0 a1 a2 a3 a4 a5 a6 a7 a8 a9 a10 a11 nw kp ad fd tp kn it wd sz nm mv ik td bg en so va iw im st ht v2 (fX5_isSaying nw v2) rfl) RX5 gX5_kinds_X5_isSaying rfl ⟨rfl, rfl⟩ pdX5_isSaying rfl ⟨Nat.le_of_ble_eq_true rfl, Nat.le_of_ble_eq_true rfl⟩ (fun _ _ _ _ q => q) (va_recv hE.1 hPc (ci := 4) (q0 := 0) rfl rfl) (fun U hU _ _ => by rw [hU]; exact hPc) hl.1 rfl (Nat.le_of_ble_eq_true rfl) dX5_kinds_4 ⟨Nat.zero_le _, Nat.zero_le _⟩) ?_
  obtain ⟨z_1, e_2, h⟩ := bds h
  have hPc := hP.sub (ws' := (wX5 cI cS a0 a1 a2 a3 a4 a5 a6 a7 a8 a9 a10 a11 nw kp ad fd tp kn it wd sz nm mv ik td bg en so va iw im st ht)) [0, 1, 2, 3, 4, 5, 6, 7, 8, 9, 10, 11] rfl
  refine kRi (rV C0 (tX5_lacks l D cI cS a0 a1 a2 a3 a4 a5 a6 a7 a8 a9 a10 a11 nw kp ad fd tp kn it wd sz nm mv ik td bg en so va iw im st ht v1 (fX5_isSaying nw v2) z_1 e_2) RX5 gX5_kinds_X5_lacks rfl ⟨rfl, rfl⟩ pdX5_lacks rfl ⟨Nat.le_of_ble_eq_true rfl, Nat.le_of_ble_eq_true rfl⟩ (fun _ _ _ _ q => q) (va_recv hE.1 hPc (ci := 4) (q0 := 0) rfl rfl) (fun U hU _ _ => by rw [hU]; exact hPc) hl.1 rfl (Nat.le_of_ble_eq_true rfl) dX5_kinds_7 ⟨Nat.zero_le _, Nat.zero_le _⟩) ?_
  refine lv_istore_n (lv' := [(3, .int z_1), (0, .ref a0), (1, .int v1), (2, .int v2)]) hx hb dX5_kinds_10 rfl hl (by decide) rfl (fun ls hl => ?_)
  refine lv_iload_n hx hb dX5_kinds_11 rfl (lv_at hl 0 rfl) ?_
  refine lv_if_eq (tgt := 21) hx hb dX5_kinds_12 (by decide) (fun c_3 => ?_) (fun c_3 => ?_)
  · have h := ifp c_3 h
    refine lv_iload_n hx hb dX5_kinds_21 rfl (lv_at hl 3 rfl) ?_
    refine lv_iconst (v := 0) hx hb dX5_kinds_22 (by decide) ?_
    refine kRi (rS C0 (tX5_sayingAt l D cI cS v2 0 (fX5_sayingAt v2 0) rfl) gX5_kinds_X5_sayingAt rfl ⟨rfl, rfl⟩ pdX5_sayingAt rfl ⟨Nat.le_of_ble_eq_true rfl, Nat.le_of_ble_eq_true rfl⟩ (fun _ _ _ _ q => q) (fun _ _ _ _ => vp0) hl.1 rfl (Nat.le_of_ble_eq_true rfl) dX5_kinds_23 ⟨Nat.zero_le _, Nat.zero_le _⟩) ?_
    refine lv_istore (lv' := [(4, .int (fX5_sayingAt v2 0)), (3, .int z_1), (0, .ref a0), (1, .int v1), (2, .int v2)]) hx hb dX5_kinds_26 hl (by decide) rfl (fun ls hl => ?_)
    refine lv_aload_n hx hb dX5_kinds_28 rfl (lv_at hl 2 rfl) ?_
    refine va_get (D := D) (ci := 4) (v := .ref a1) (C := RX5) (T := TX5) (N := 21) hx hb hts hinX5 hown hE.1 hP 0 rfl rfl 0 (by decide) (hts _ (List.mem_of_getElem? (i := 1) rfl)) (fun _ h9 => h9) rfl dX5_kinds_29 ?_
    refine lv_iload hx hb dX5_kinds_32 (lv_at hl 0 rfl) ?_
    obtain ⟨hi_4, h⟩ := ifs h
    refine va_iald hx hb hE.1 hP 1 0 rfl rfl hi_4 dX5_kinds_34 ?_
    refine lv_istore (lv' := [(5, .int (nw (fX5_sayingAt v2 0).toNatClampNeg)), (4, .int (fX5_sayingAt v2 0)), (3, .int z_1), (0, .ref a0), (1, .int v1), (2, .int v2)]) hx hb dX5_kinds_35 hl (by decide) rfl (fun ls hl => ?_)
    refine lv_iconst (v := 0) hx hb dX5_kinds_37 (by decide) ?_
    refine lv_istore (lv' := [(6, .int 0), (5, .int (nw (fX5_sayingAt v2 0).toNatClampNeg)), (4, .int (fX5_sayingAt v2 0)), (3, .int z_1), (0, .ref a0), (1, .int v1), (2, .int v2)]) hx hb dX5_kinds_38 hl (by decide) rfl (fun ls hl => ?_)
    refine lv_iconst (v := 0) hx hb dX5_kinds_40 (by decide) ?_
    refine lv_istore (lv' := [(7, .int 0), (6, .int 0), (5, .int (nw (fX5_sayingAt v2 0).toNatClampNeg)), (4, .int (fX5_sayingAt v2 0)), (3, .int z_1), (0, .ref a0), (1, .int v1), (2, .int v2)]) hx hb dX5_kinds_41 hl (by decide) rfl (fun ls hl => ?_)
    exact lX5_kinds_43 (l := l) (e := e) (below := below) C0 F kp fd tp kn it wd sz nm mv ik td bg en so va iw im st ht v1 v2 (fX5_sayingAt v2 0) (nw (fX5_sayingAt v2 0).toNatClampNeg) z0 z1 z2 z3 hD F 0 0 nw ad _ _ hP hS _ (lv_sub hl [5, 6, 7, 3, 2, 1, 0] rfl) h
  · have h := ifn c_3 h
    refine lv_aload_n hx hb dX5_kinds_15 rfl (lv_at hl 1 rfl) ?_
    refine lv_iload_n hx hb dX5_kinds_16 rfl (lv_at hl 0 rfl) ?_
    obtain ⟨z_13, e_14, h⟩ := bds h
    have hPc := hP.sub (ws' := (wX5 cI cS a0 a1 a2 a3 a4 a5 a6 a7 a8 a9 a10 a11 nw kp ad fd tp kn it wd sz nm mv ik td bg en so va iw im st ht)) [0, 1, 2, 3, 4, 5, 6, 7, 8, 9, 10, 11] rfl
    refine kMi (wf' := (wX5 cI cS a0 a1 a2 a3 a4 a5 a6 a7 a8 a9 a10 a11 nw kp ad z_13.2 tp kn it wd sz nm mv ik td bg en so va iw im st ht)) [0, 1, 2, 3, 4, 5, 6, 7, 8, 9, 10, 11] [some 0, some 1, some 2, some 3, some 4, some 5, some 6, some 7, some 8, some 9, some 10, some 11] (rV C0 (tX5_finding l D cI cS a0 a1 a2 a3 a4 a5 a6 a7 a8 a9 a10 a11 nw kp ad fd tp kn it wd sz nm mv ik td bg en so va iw im st ht z_1 z_13.1 z_13.2 e_14 (((hD (wX5 cI cS a0 a1 a2 a3 a4 a5 a6 a7 a8 a9 a10 a11 nw kp ad fd tp kn it wd sz nm mv ik td bg en so va iw im st ht) rfl).sub [0, 1, 2, 3, 4, 5, 6, 7, 8, 9, 10, 11] (by decide) rfl).weaken (fun _ _ _ _ => trivial))) RX5 gX5_kinds_X5_finding rfl ⟨rfl, rfl⟩ pdX5_finding rfl ⟨Nat.le_of_ble_eq_true rfl, Nat.le_of_ble_eq_true rfl⟩ (fun _ _ _ _ q => q) (va_recv hE.1 hPc (ci := 4) (q0 := 0) rfl rfl) (fun U hU _ _ => by rw [hU]; exact hPc) hl.1 rfl (Nat.le_of_ble_eq_true rfl) dX5_kinds_17 ⟨Nat.zero_le _, Nat.zero_le _⟩) hP (hD _ rfl) hS rfl rfl rfl (fun H locs hP hS => ?_)
    obtain ⟨q0, g0⟩ := Prod.mk.inj (Option.some.inj h)
    obtain ⟨q1, g1⟩ := Prod.mk.inj g0
    obtain ⟨q2, q3⟩ := Prod.mk.inj g1
    subst q0 q1 q2 q3
    exact eMi C0 hP hS rfl rfl dX5_kinds_20
def fX5_drawn (nw : Nat → Int32) : Int32 × (Nat → Int32) := ((((upd nw 2 (((nw 2) * 1103515245) + 12345)) 2).toUInt32 >>> ((8 : Int32).toUInt32 &&& Int32.toUInt32 31)).toInt32, upd nw 2 (((nw 2) * 1103515245) + 12345))
def fX5_drawn_o0 (nw : Nat → Int32) : Int32 := (fX5_drawn nw).1
def fX5_drawn_o1 (nw : Nat → Int32) : Nat → Int32 := (fX5_drawn nw).2
theorem eeX5_drawn (nw : Nat → Int32) : fX5_drawn nw = (fX5_drawn_o0 nw, fX5_drawn_o1 nw) := rfl
abbrev rmX5_drawn : Room := { frames := 0, cells := 0, slots := 0, locals := 0 }
theorem pdX5_drawn : (yX5_drawn.cls = RX5 ∧ yX5_drawn.cls ≠ "java/lang/invoke/MethodHandle" ∧ yX5_drawn.cls ≠ "java/lang/invoke/VarHandle" ∧ (parseMethodDescriptor yX5_drawn.desc).map (fun d => d.parameters.length) = some 0) := by decide +kernel
set_option maxHeartbeats 4000000 in
set_option maxRecDepth 100000 in
theorem tX5_drawn (l : Launch) (D : va_G) (cI cS : ClassId) (a0 a1 a2 a3 a4 a5 a6 a7 a8 a9 a10 a11 : Nat) (nw : Nat → Int32) (kp : Nat → Int32) (ad : Nat → Int32) (fd : Nat → Int32) (tp : Nat → Int32) (kn : Nat → Option Nat) (it : Nat → Int32) (wd : Nat → Int32) (sz : Nat → Int32) (nm : Nat → Int32) (mv : Nat → Int32) (ik : Int32) (td : Int32) (bg : Int32) (en : Int32) (so : Int32) (va : Int32) (iw : Int32) (im : Int32) (st : Int32) (ht : Int32) (z0 : Int32) (z1 : Nat → Int32) (h : fX5_drawn nw = (z0, z1)) (hD0 : va_D (fun _ => True) (wX5 cI cS a0 a1 a2 a3 a4 a5 a6 a7 a8 a9 a10 a11 nw kp ad fd tp kn it wd sz nm mv ik td bg en so va iw im st ht)) : Met l yX5_drawn wsX5_drawn rmX5_drawn (PZ D cI cS [.ref a0] (fun U => va_P D vwCl (wX5 cI cS a0 a1 a2 a3 a4 a5 a6 a7 a8 a9 a10 a11 nw kp ad fd tp kn it wd sz nm mv ik td bg en so va iw im st ht) U.heap)) (qI D (wX5 cI cS a0 a1 a2 a3 a4 a5 a6 a7 a8 a9 a10 a11 nw kp ad fd tp kn it wd sz nm mv ik td bg en so va iw im st ht) (wX5 cI cS a0 a1 a2 a3 a4 a5 a6 a7 a8 a9 a10 a11 z1 kp ad fd tp kn it wd sz nm mv ik td bg en so va iw im st ht) z0) 0 0 (wA (wX5 cI cS a0 a1 a2 a3 a4 a5 a6 a7 a8 a9 a10 a11 nw kp ad fd tp kn it wd sz nm mv ik td bg en so va iw im st ht)) := by
  refine Met.mk RX5 (by decide) rfl rfl (Nat.le_of_ble_eq_true rfl) ?_
  intro p e s m below meth c ls C0 hP hl
  have hl : lv_has ls 1 [(0, .ref a0)] := hl
  obtain ⟨hx, hb, hr, hml, hown, hts, hlk, hE⟩ := id C0
  have hinX5 : ∀ w ∈ u_ws RX5 TX5 21, w ∈ wsX5_drawn := by decide +kernel
  have hD : ∀ W : va_W, W.map Prod.fst = [a0, a1, a2, a3, a4, a5, a6, a7, a8, a9, a10, a11] → va_D (wA (wX5 cI cS a0 a1 a2 a3 a4 a5 a6 a7 a8 a9 a10 a11 nw kp ad fd tp kn it wd sz nm mv ik td bg en so va iw im st ht)) W := fun W hW => hD0.own.re hW
  have hS : va_S (wA (wX5 cI cS a0 a1 a2 a3 a4 a5 a6 a7 a8 a9 a10 a11 nw kp ad fd tp kn it wd sz nm mv ik td bg en so va iw im st ht)) s.heap s.heap [] := va_S.rf
  have hP : va_P D vwCl (wX5 cI cS a0 a1 a2 a3 a4 a5 a6 a7 a8 a9 a10 a11 nw kp ad fd tp kn it wd sz nm mv ik td bg en so va iw im st ht) s.heap := hP
  rw [fX5_drawn] at h
  refine lv_aload_n hx hb dX5_drawn_0 rfl (lv_at hl 0 rfl) ?_
  refine va_get (D := D) (ci := 4) (v := .ref a1) (C := RX5) (T := TX5) (N := 21) hx hb hts hinX5 hown hE.1 hP 0 rfl rfl 0 (by decide) (hts _ (List.mem_of_getElem? (i := 1) rfl)) (fun _ h9 => h9) rfl dX5_drawn_1 ?_
  refine lv_iconst (v := 2) hx hb dX5_drawn_4 (by decide) ?_
  refine lv_aload_n hx hb dX5_drawn_5 rfl (lv_at hl 0 rfl) ?_
  refine va_get (D := D) (ci := 4) (v := .ref a1) (C := RX5) (T := TX5) (N := 21) hx hb hts hinX5 hown hE.1 hP 0 rfl rfl 0 (by decide) (hts _ (List.mem_of_getElem? (i := 1) rfl)) (fun _ h9 => h9) rfl dX5_drawn_6 ?_
  refine lv_iconst (v := 2) hx hb dX5_drawn_9 (by decide) ?_
  refine va_iald hx hb hE.1 hP 1 0 rfl rfl (by unfold vp_in; decide : vp_in 2 84) dX5_drawn_10 ?_
  refine lv_eqi (y := nw 2) rfl ?_
  refine lv_ldc (v := 1103515245) hx hb hown (hts _ (List.mem_of_getElem? (i := 2) rfl)) dX5_drawn_11 ?_
  refine lv_imul hx hb dX5_drawn_13 ?_
  refine lv_sipush (v := 12345) hx hb dX5_drawn_14 (by decide) ?_
  refine lv_iadd hx hb dX5_drawn_17 ?_
  refine va_iast hx hb hE.1 hP (hD _ rfl) hS 1 0 rfl rfl (by unfold vp_in; decide : vp_in 2 84) dX5_drawn_18 (fun H locs hP _ hS => ?_)
  have hP : va_P D vwCl (wX5 cI cS a0 a1 a2 a3 a4 a5 a6 a7 a8 a9 a10 a11 (upd nw 2 (((nw 2) * 1103515245) + 12345)) kp ad fd tp kn it wd sz nm mv ik td bg en so va iw im st ht) H := hP
  refine lv_aload_n hx hb dX5_drawn_19 rfl (lv_at hl 0 rfl) ?_
  refine va_get (D := D) (ci := 4) (v := .ref a1) (C := RX5) (T := TX5) (N := 21) hx hb hts hinX5 hown hE.1 hP 0 rfl rfl 0 (by decide) (hts _ (List.mem_of_getElem? (i := 1) rfl)) (fun _ h9 => h9) rfl dX5_drawn_20 ?_
  refine lv_iconst (v := 2) hx hb dX5_drawn_23 (by decide) ?_
  refine va_iald hx hb hE.1 hP 1 0 rfl rfl (by unfold vp_in; decide : vp_in 2 84) dX5_drawn_24 ?_
  refine lv_eqi (y := (upd nw 2 (((nw 2) * 1103515245) + 12345)) 2) rfl ?_
  refine lv_bipush (v := 8) hx hb dX5_drawn_25 (by decide) ?_
  refine lv_iushr (v := (((upd nw 2 (((nw 2) * 1103515245) + 12345)) 2).toUInt32 >>> ((8 : Int32).toUInt32 &&& Int32.toUInt32 31)).toInt32) hx hb dX5_drawn_27 rfl ?_
  obtain ⟨q0, q1⟩ := Prod.mk.inj (h)
  subst q0 q1
  exact eMi C0 hP hS rfl rfl dX5_drawn_28
def fX5_committee_39 (F : Nat) (fd : Nat → Int32) (v1 : Int32) : Nat → Int32 → (Nat → Int32) → Option (Int32 × (Nat → Int32) × (Nat → Int32))
  | 0, _, _ => none
  | n + 1, v2, nw => (if v1 ≤ v2 then Option.bind (fX5_inPort F nw) (fun z_4 => some (z_4, nw, fd)) else if ¬ ((fX5_placeNow (fX5_drawn_o1 nw)) < 0 ∨ 84 ≤ (fX5_placeNow (fX5_drawn_o1 nw)).toNatClampNeg) then (if (fX5_isSaying (fX5_drawn_o1 (upd (fX5_drawn_o1 nw) (fX5_placeNow (fX5_drawn_o1 nw)).toNatClampNeg ((fX5_drawn_o0 nw) - (fX5_drawn_o0 nw) / 9 * 9))) ((fX5_drawn_o0 (upd (fX5_drawn_o1 nw) (fX5_placeNow (fX5_drawn_o1 nw)).toNatClampNeg ((fX5_drawn_o0 nw) - (fX5_drawn_o0 nw) / 9 * 9))) - (fX5_drawn_o0 (upd (fX5_drawn_o1 nw) (fX5_placeNow (fX5_drawn_o1 nw)).toNatClampNeg ((fX5_drawn_o0 nw) - (fX5_drawn_o0 nw) / 9 * 9))) / 8 * 8)) = 0 then Option.bind (fX5_day F (fX5_drawn_o1 (upd (fX5_drawn_o1 nw) (fX5_placeNow (fX5_drawn_o1 nw)).toNatClampNeg ((fX5_drawn_o0 nw) - (fX5_drawn_o0 nw) / 9 * 9)))) (fun z_8 => fX5_committee_39 F fd v1 n (v2 + 1) z_8) else Option.bind (fX5_more (fX5_drawn_o1 (upd (fX5_drawn_o1 nw) (fX5_placeNow (fX5_drawn_o1 nw)).toNatClampNeg ((fX5_drawn_o0 nw) - (fX5_drawn_o0 nw) / 9 * 9))) (fX5_sayingAt ((fX5_drawn_o0 (upd (fX5_drawn_o1 nw) (fX5_placeNow (fX5_drawn_o1 nw)).toNatClampNeg ((fX5_drawn_o0 nw) - (fX5_drawn_o0 nw) / 9 * 9))) - (fX5_drawn_o0 (upd (fX5_drawn_o1 nw) (fX5_placeNow (fX5_drawn_o1 nw)).toNatClampNeg ((fX5_drawn_o0 nw) - (fX5_drawn_o0 nw) / 9 * 9))) / 8 * 8) 2) 5 99) (fun z_10 => Option.bind (fX5_day F z_10) (fun z_12 => fX5_committee_39 F fd v1 n (v2 + 1) z_12))) else none)
def fX5_committee (F : Nat) (nw : Nat → Int32) (fd : Nat → Int32) (v1 : Int32) : Option (Int32 × (Nat → Int32) × (Nat → Int32)) := (if (fX5_within v1 1 20) = 0 then Option.bind (fX5_finding fd (-1000001)) (fun z_16 => some (z_16.1, nw, z_16.2)) else (if ((nw 0) + v1) ≤ 99999 then fX5_committee_39 F fd v1 F 0 nw else Option.bind (fX5_finding fd (-1000005)) (fun z_14 => some (z_14.1, nw, z_14.2))))
abbrev rmX5_committee : Room := { frames := 6, cells := 0, slots := 0, locals := 135 }
theorem pdX5_committee : (yX5_committee.cls = RX5 ∧ yX5_committee.cls ≠ "java/lang/invoke/MethodHandle" ∧ yX5_committee.cls ≠ "java/lang/invoke/VarHandle" ∧ (parseMethodDescriptor yX5_committee.desc).map (fun d => d.parameters.length) = some 1) := by decide +kernel
set_option maxHeartbeats 4000000 in
set_option maxRecDepth 100000 in
theorem lX5_committee_39 {p : Program} {l : Launch} {e : Env} {s : State} {m : MethodId} {av : Array Value} {below : List Frame} {meth : Method} {c : Code} {D : va_G} {cI cS : ClassId} {a0 a1 a2 a3 a4 a5 a6 a7 a8 a9 a10 a11 : Nat} {W0 : va_W} (C0 : CX p s m av meth c RX5 cX5_committee 5 (some .int) wsX5_committee D cI cS) (F : Nat) (kp : Nat → Int32) (ad : Nat → Int32) (fd : Nat → Int32) (tp : Nat → Int32) (kn : Nat → Option Nat) (it : Nat → Int32) (wd : Nat → Int32) (sz : Nat → Int32) (nm : Nat → Int32) (mv : Nat → Int32) (ik : Int32) (td : Int32) (bg : Int32) (en : Int32) (so : Int32) (va : Int32) (iw : Int32) (im : Int32) (st : Int32) (ht : Int32) (v1 : Int32) (z0 : Int32) (z1 : Nat → Int32) (z2 : Nat → Int32) (hD : ∀ W : va_W, W.map Prod.fst = [a0, a1, a2, a3, a4, a5, a6, a7, a8, a9, a10, a11] → va_D (wA W0) W) : ∀ (n : Nat) (v2 : Int32) (nw : Nat → Int32) (H : Heap) (locs : List Loc), va_P D vwCl (wX5 cI cS a0 a1 a2 a3 a4 a5 a6 a7 a8 a9 a10 a11 nw kp ad fd tp kn it wd sz nm mv ik td bg en so va iw im st ht) H → va_S (wA W0) s.heap H locs → ∀ (ls : Array Slot), lv_has ls 5 [(0, .ref a0), (1, .int v1), (2, .int v2)] → fX5_committee_39 F fd v1 n v2 nw = some (z0, z1, z2) → W p l e rmX5_committee s m av below meth c H locs 0 0 (MQ below (qI D W0 (wX5 cI cS a0 a1 a2 a3 a4 a5 a6 a7 a8 a9 a10 a11 z1 kp ad z2 tp kn it wd sz nm mv ik td bg en so va iw im st ht) z0) av s 0 0 (wA W0)) (F0 m 39 ls []) := by
  obtain ⟨hx, hb, hr, hml, hown, hts, hlk, hE⟩ := id C0
  have hinX5 : ∀ w ∈ u_ws RX5 TX5 21, w ∈ wsX5_committee := by decide +kernel
  intro n
  induction n with
  | zero =>
    intro v2 nw H locs hP hS ls hl h
    cases (show none = some (z0, z1, z2) from h)
  | succ n ih =>
    intro v2 nw H locs hP hS ls hl h
    rw [fX5_committee_39] at h
    refine lv_iload_n hx hb dX5_committee_39 rfl (lv_at hl 2 rfl) ?_
    refine lv_iload_n hx hb dX5_committee_40 rfl (lv_at hl 1 rfl) ?_
    refine lv_icmp_ge (tgt := 103) hx hb dX5_committee_41 (by decide) (fun c_3 => ?_) (fun c_3 => ?_)
    · have h := ifp c_3 h
      refine lv_aload_n hx hb dX5_committee_103 rfl (lv_at hl 0 rfl) ?_
      obtain ⟨z_4, e_5, h⟩ := bds h
      have hPc := hP.sub (ws' := (wX5 cI cS a0 a1 a2 a3 a4 a5 a6 a7 a8 a9 a10 a11 nw kp ad fd tp kn it wd sz nm mv ik td bg en so va iw im st ht)) [0, 1, 2, 3, 4, 5, 6, 7, 8, 9, 10, 11] rfl
      refine kRi (rV C0 (tX5_inPort l D cI cS F a0 a1 a2 a3 a4 a5 a6 a7 a8 a9 a10 a11 nw kp ad fd tp kn it wd sz nm mv ik td bg en so va iw im st ht  z_4 e_5) RX5 gX5_committee_X5_inPort rfl ⟨rfl, rfl⟩ pdX5_inPort rfl ⟨Nat.le_of_ble_eq_true rfl, Nat.le_of_ble_eq_true rfl⟩ (fun _ _ _ _ q => q) (va_recv hE.1 hPc (ci := 4) (q0 := 0) rfl rfl) (fun U hU _ _ => by rw [hU]; exact hPc) hl.1 rfl (Nat.le_of_ble_eq_true rfl) dX5_committee_104 ⟨Nat.zero_le _, Nat.zero_le _⟩) ?_
      obtain ⟨q0, g0⟩ := Prod.mk.inj (Option.some.inj h)
      obtain ⟨q1, q2⟩ := Prod.mk.inj g0
      subst q0 q1 q2
      exact eMi C0 hP hS rfl rfl dX5_committee_107
    · have h := ifn c_3 h
      refine lv_aload_n hx hb dX5_committee_44 rfl (lv_at hl 0 rfl) ?_
      have hPc := hP.sub (ws' := (wX5 cI cS a0 a1 a2 a3 a4 a5 a6 a7 a8 a9 a10 a11 nw kp ad fd tp kn it wd sz nm mv ik td bg en so va iw im st ht)) [0, 1, 2, 3, 4, 5, 6, 7, 8, 9, 10, 11] rfl
      refine kMi (wf' := (wX5 cI cS a0 a1 a2 a3 a4 a5 a6 a7 a8 a9 a10 a11 (fX5_drawn_o1 nw) kp ad fd tp kn it wd sz nm mv ik td bg en so va iw im st ht)) [0, 1, 2, 3, 4, 5, 6, 7, 8, 9, 10, 11] [some 0, some 1, some 2, some 3, some 4, some 5, some 6, some 7, some 8, some 9, some 10, some 11] (rV C0 (tX5_drawn l D cI cS a0 a1 a2 a3 a4 a5 a6 a7 a8 a9 a10 a11 nw kp ad fd tp kn it wd sz nm mv ik td bg en so va iw im st ht  (fX5_drawn_o0 nw) (fX5_drawn_o1 nw) (eeX5_drawn ..) (((hD (wX5 cI cS a0 a1 a2 a3 a4 a5 a6 a7 a8 a9 a10 a11 nw kp ad fd tp kn it wd sz nm mv ik td bg en so va iw im st ht) rfl).sub [0, 1, 2, 3, 4, 5, 6, 7, 8, 9, 10, 11] (by decide) rfl).weaken (fun _ _ _ _ => trivial))) RX5 gX5_committee_X5_drawn rfl ⟨rfl, rfl⟩ pdX5_drawn rfl ⟨Nat.le_of_ble_eq_true rfl, Nat.le_of_ble_eq_true rfl⟩ (fun _ _ _ _ q => q) (va_recv hE.1 hPc (ci := 4) (q0 := 0) rfl rfl) (fun U hU _ _ => by rw [hU]; exact hPc) hl.1 rfl (Nat.le_of_ble_eq_true rfl) dX5_committee_45 ⟨Nat.zero_le _, Nat.zero_le _⟩) hP (hD _ rfl) hS rfl rfl rfl (fun H locs hP hS => ?_)
      refine lv_bipush (v := 9) hx hb dX5_committee_48 (by decide) ?_
      refine lv_irem hx hb dX5_committee_50 (by decide) ?_
      refine lv_istore_n (lv' := [(3, .int ((fX5_drawn_o0 nw) - (fX5_drawn_o0 nw) / 9 * 9)), (0, .ref a0), (1, .int v1), (2, .int v2)]) hx hb dX5_committee_51 rfl hl (by decide) rfl (fun ls hl => ?_)
      refine lv_aload_n hx hb dX5_committee_52 rfl (lv_at hl 1 rfl) ?_
      refine va_get (D := D) (ci := 4) (v := .ref a1) (C := RX5) (T := TX5) (N := 21) hx hb hts hinX5 hown hE.1 hP 0 rfl rfl 0 (by decide) (hts _ (List.mem_of_getElem? (i := 2) rfl)) (fun _ h9 => h9) rfl dX5_committee_53 ?_
      refine lv_aload_n hx hb dX5_committee_56 rfl (lv_at hl 1 rfl) ?_
      have hPc := hP.sub (ws' := (wX5 cI cS a0 a1 a2 a3 a4 a5 a6 a7 a8 a9 a10 a11 (fX5_drawn_o1 nw) kp ad fd tp kn it wd sz nm mv ik td bg en so va iw im st ht)) [0, 1, 2, 3, 4, 5, 6, 7, 8, 9, 10, 11] rfl
      refine kRi (rV C0 (tX5_placeNow l D cI cS a0 a1 a2 a3 a4 a5 a6 a7 a8 a9 a10 a11 (fX5_drawn_o1 nw) kp ad fd tp kn it wd sz nm mv ik td bg en so va iw im st ht  (fX5_placeNow (fX5_drawn_o1 nw)) rfl) RX5 gX5_committee_X5_placeNow rfl ⟨rfl, rfl⟩ pdX5_placeNow rfl ⟨Nat.le_of_ble_eq_true rfl, Nat.le_of_ble_eq_true rfl⟩ (fun _ _ _ _ q => q) (va_recv hE.1 hPc (ci := 4) (q0 := 0) rfl rfl) (fun U hU _ _ => by rw [hU]; exact hPc) hl.1 rfl (Nat.le_of_ble_eq_true rfl) dX5_committee_57 ⟨Nat.zero_le _, Nat.zero_le _⟩) ?_
      refine lv_iload_n hx hb dX5_committee_60 rfl (lv_at hl 0 rfl) ?_
      obtain ⟨hi_6, h⟩ := ifs h
      refine va_iast hx hb hE.1 hP (hD _ rfl) hS 1 0 rfl rfl hi_6 dX5_committee_61 (fun H locs hP _ hS => ?_)
      have hP : va_P D vwCl (wX5 cI cS a0 a1 a2 a3 a4 a5 a6 a7 a8 a9 a10 a11 (upd (fX5_drawn_o1 nw) (fX5_placeNow (fX5_drawn_o1 nw)).toNatClampNeg ((fX5_drawn_o0 nw) - (fX5_drawn_o0 nw) / 9 * 9)) kp ad fd tp kn it wd sz nm mv ik td bg en so va iw im st ht) H := hP
      refine lv_aload_n hx hb dX5_committee_62 rfl (lv_at hl 1 rfl) ?_
      have hPc := hP.sub (ws' := (wX5 cI cS a0 a1 a2 a3 a4 a5 a6 a7 a8 a9 a10 a11 (upd (fX5_drawn_o1 nw) (fX5_placeNow (fX5_drawn_o1 nw)).toNatClampNeg ((fX5_drawn_o0 nw) - (fX5_drawn_o0 nw) / 9 * 9)) kp ad fd tp kn it wd sz nm mv ik td bg en so va iw im st ht)) [0, 1, 2, 3, 4, 5, 6, 7, 8, 9, 10, 11] rfl
      refine kMi (wf' := (wX5 cI cS a0 a1 a2 a3 a4 a5 a6 a7 a8 a9 a10 a11 (fX5_drawn_o1 (upd (fX5_drawn_o1 nw) (fX5_placeNow (fX5_drawn_o1 nw)).toNatClampNeg ((fX5_drawn_o0 nw) - (fX5_drawn_o0 nw) / 9 * 9))) kp ad fd tp kn it wd sz nm mv ik td bg en so va iw im st ht)) [0, 1, 2, 3, 4, 5, 6, 7, 8, 9, 10, 11] [some 0, some 1, some 2, some 3, some 4, some 5, some 6, some 7, some 8, some 9, some 10, some 11] (rV C0 (tX5_drawn l D cI cS a0 a1 a2 a3 a4 a5 a6 a7 a8 a9 a10 a11 (upd (fX5_drawn_o1 nw) (fX5_placeNow (fX5_drawn_o1 nw)).toNatClampNeg ((fX5_drawn_o0 nw) - (fX5_drawn_o0 nw) / 9 * 9)) kp ad fd tp kn it wd sz nm mv ik td bg en so va iw im st ht  (fX5_drawn_o0 (upd (fX5_drawn_o1 nw) (fX5_placeNow (fX5_drawn_o1 nw)).toNatClampNeg ((fX5_drawn_o0 nw) - (fX5_drawn_o0 nw) / 9 * 9))) (fX5_drawn_o1 (upd (fX5_drawn_o1 nw) (fX5_placeNow (fX5_drawn_o1 nw)).toNatClampNeg ((fX5_drawn_o0 nw) - (fX5_drawn_o0 nw) / 9 * 9))) (eeX5_drawn ..) (((hD (wX5 cI cS a0 a1 a2 a3 a4 a5 a6 a7 a8 a9 a10 a11 (upd (fX5_drawn_o1 nw) (fX5_placeNow (fX5_drawn_o1 nw)).toNatClampNeg ((fX5_drawn_o0 nw) - (fX5_drawn_o0 nw) / 9 * 9)) kp ad fd tp kn it wd sz nm mv ik td bg en so va iw im st ht) rfl).sub [0, 1, 2, 3, 4, 5, 6, 7, 8, 9, 10, 11] (by decide) rfl).weaken (fun _ _ _ _ => trivial))) RX5 gX5_committee_X5_drawn rfl ⟨rfl, rfl⟩ pdX5_drawn rfl ⟨Nat.le_of_ble_eq_true rfl, Nat.le_of_ble_eq_true rfl⟩ (fun _ _ _ _ q => q) (va_recv hE.1 hPc (ci := 4) (q0 := 0) rfl rfl) (fun U hU _ _ => by rw [hU]; exact hPc) hl.1 rfl (Nat.le_of_ble_eq_true rfl) dX5_committee_63 ⟨Nat.zero_le _, Nat.zero_le _⟩) hP (hD _ rfl) hS rfl rfl rfl (fun H locs hP hS => ?_)
      refine lv_bipush (v := 8) hx hb dX5_committee_66 (by decide) ?_
      refine lv_irem hx hb dX5_committee_68 (by decide) ?_
      refine lv_istore (lv' := [(4, .int ((fX5_drawn_o0 (upd (fX5_drawn_o1 nw) (fX5_placeNow (fX5_drawn_o1 nw)).toNatClampNeg ((fX5_drawn_o0 nw) - (fX5_drawn_o0 nw) / 9 * 9))) - (fX5_drawn_o0 (upd (fX5_drawn_o1 nw) (fX5_placeNow (fX5_drawn_o1 nw)).toNatClampNeg ((fX5_drawn_o0 nw) - (fX5_drawn_o0 nw) / 9 * 9))) / 8 * 8)), (3, .int ((fX5_drawn_o0 nw) - (fX5_drawn_o0 nw) / 9 * 9)), (0, .ref a0), (1, .int v1), (2, .int v2)]) hx hb dX5_committee_69 hl (by decide) rfl (fun ls hl => ?_)
      refine lv_aload_n hx hb dX5_committee_71 rfl (lv_at hl 2 rfl) ?_
      refine lv_iload hx hb dX5_committee_72 (lv_at hl 0 rfl) ?_
      have hPc := hP.sub (ws' := (wX5 cI cS a0 a1 a2 a3 a4 a5 a6 a7 a8 a9 a10 a11 (fX5_drawn_o1 (upd (fX5_drawn_o1 nw) (fX5_placeNow (fX5_drawn_o1 nw)).toNatClampNeg ((fX5_drawn_o0 nw) - (fX5_drawn_o0 nw) / 9 * 9))) kp ad fd tp kn it wd sz nm mv ik td bg en so va iw im st ht)) [0, 1, 2, 3, 4, 5, 6, 7, 8, 9, 10, 11] rfl
      refine kRi (rV C0 (tX5_isSaying l D cI cS a0 a1 a2 a3 a4 a5 a6 a7 a8 a9 a10 a11 (fX5_drawn_o1 (upd (fX5_drawn_o1 nw) (fX5_placeNow (fX5_drawn_o1 nw)).toNatClampNeg ((fX5_drawn_o0 nw) - (fX5_drawn_o0 nw) / 9 * 9))) kp ad fd tp kn it wd sz nm mv ik td bg en so va iw im st ht ((fX5_drawn_o0 (upd (fX5_drawn_o1 nw) (fX5_placeNow (fX5_drawn_o1 nw)).toNatClampNeg ((fX5_drawn_o0 nw) - (fX5_drawn_o0 nw) / 9 * 9))) - (fX5_drawn_o0 (upd (fX5_drawn_o1 nw) (fX5_placeNow (fX5_drawn_o1 nw)).toNatClampNeg ((fX5_drawn_o0 nw) - (fX5_drawn_o0 nw) / 9 * 9))) / 8 * 8) (fX5_isSaying (fX5_drawn_o1 (upd (fX5_drawn_o1 nw) (fX5_placeNow (fX5_drawn_o1 nw)).toNatClampNeg ((fX5_drawn_o0 nw) - (fX5_drawn_o0 nw) / 9 * 9))) ((fX5_drawn_o0 (upd (fX5_drawn_o1 nw) (fX5_placeNow (fX5_drawn_o1 nw)).toNatClampNeg ((fX5_drawn_o0 nw) - (fX5_drawn_o0 nw) / 9 * 9))) - (fX5_drawn_o0 (upd (fX5_drawn_o1 nw) (fX5_placeNow (fX5_drawn_o1 nw)).toNatClampNeg ((fX5_drawn_o0 nw) - (fX5_drawn_o0 nw) / 9 * 9))) / 8 * 8)) rfl) RX5 gX5_committee_X5_isSaying rfl ⟨rfl, rfl⟩ pdX5_isSaying rfl ⟨Nat.le_of_ble_eq_true rfl, Nat.le_of_ble_eq_true rfl⟩ (fun _ _ _ _ q => q) (va_recv hE.1 hPc (ci := 4) (q0 := 0) rfl rfl) (fun U hU _ _ => by rw [hU]; exact hPc) hl.1 rfl (Nat.le_of_ble_eq_true rfl) dX5_committee_74 ⟨Nat.zero_le _, Nat.zero_le _⟩) ?_
      refine lv_if_eq (tgt := 93) hx hb dX5_committee_77 (by decide) (fun c_7 => ?_) (fun c_7 => ?_)
      · have h := ifp c_7 h
        refine lv_aload_n hx hb dX5_committee_93 rfl (lv_at hl 2 rfl) ?_
        obtain ⟨z_8, e_9, h⟩ := bds h
        have hPc := hP.sub (ws' := (wX5 cI cS a0 a1 a2 a3 a4 a5 a6 a7 a8 a9 a10 a11 (fX5_drawn_o1 (upd (fX5_drawn_o1 nw) (fX5_placeNow (fX5_drawn_o1 nw)).toNatClampNeg ((fX5_drawn_o0 nw) - (fX5_drawn_o0 nw) / 9 * 9))) kp ad fd tp kn it wd sz nm mv ik td bg en so va iw im st ht)) [0, 1, 2, 3, 4, 5, 6, 7, 8, 9, 10, 11] rfl
        refine kMv (wf' := (wX5 cI cS a0 a1 a2 a3 a4 a5 a6 a7 a8 a9 a10 a11 z_8 kp ad fd tp kn it wd sz nm mv ik td bg en so va iw im st ht)) [0, 1, 2, 3, 4, 5, 6, 7, 8, 9, 10, 11] [some 0, some 1, some 2, some 3, some 4, some 5, some 6, some 7, some 8, some 9, some 10, some 11] (rV C0 (tX5_day l D cI cS F a0 a1 a2 a3 a4 a5 a6 a7 a8 a9 a10 a11 (fX5_drawn_o1 (upd (fX5_drawn_o1 nw) (fX5_placeNow (fX5_drawn_o1 nw)).toNatClampNeg ((fX5_drawn_o0 nw) - (fX5_drawn_o0 nw) / 9 * 9))) kp ad fd tp kn it wd sz nm mv ik td bg en so va iw im st ht  z_8 e_9 (((hD (wX5 cI cS a0 a1 a2 a3 a4 a5 a6 a7 a8 a9 a10 a11 (fX5_drawn_o1 (upd (fX5_drawn_o1 nw) (fX5_placeNow (fX5_drawn_o1 nw)).toNatClampNeg ((fX5_drawn_o0 nw) - (fX5_drawn_o0 nw) / 9 * 9))) kp ad fd tp kn it wd sz nm mv ik td bg en so va iw im st ht) rfl).sub [0, 1, 2, 3, 4, 5, 6, 7, 8, 9, 10, 11] (by decide) rfl).weaken (fun _ _ _ _ => trivial))) RX5 gX5_committee_X5_day rfl ⟨rfl, rfl⟩ pdX5_day rfl ⟨Nat.le_of_ble_eq_true rfl, Nat.le_of_ble_eq_true rfl⟩ (fun _ _ _ _ q => q) (va_recv hE.1 hPc (ci := 4) (q0 := 0) rfl rfl) (fun U hU _ _ => by rw [hU]; exact hPc) hl.1 rfl (Nat.le_of_ble_eq_true rfl) dX5_committee_94 ⟨Nat.zero_le _, Nat.zero_le _⟩) hP (hD _ rfl) hS rfl rfl rfl (fun H locs hP hS => ?_)
        refine lv_iinc (v := v2 + 1) (lv' := [(2, .int (v2 + 1)), (4, .int ((fX5_drawn_o0 (upd (fX5_drawn_o1 nw) (fX5_placeNow (fX5_drawn_o1 nw)).toNatClampNeg ((fX5_drawn_o0 nw) - (fX5_drawn_o0 nw) / 9 * 9))) - (fX5_drawn_o0 (upd (fX5_drawn_o1 nw) (fX5_placeNow (fX5_drawn_o1 nw)).toNatClampNeg ((fX5_drawn_o0 nw) - (fX5_drawn_o0 nw) / 9 * 9))) / 8 * 8)), (3, .int ((fX5_drawn_o0 nw) - (fX5_drawn_o0 nw) / 9 * 9)), (0, .ref a0), (1, .int v1)]) hx hb dX5_committee_97 hl (k := 4) rfl rfl (by decide) rfl (fun ls hl => ?_)
        refine lv_goto (tgt := 39) hx hb dX5_committee_100 (by decide) ?_
        exact ih (v2 + 1) z_8 _ _ hP hS _ (lv_sub hl [3, 4, 0] rfl) h
      · have h := ifn c_7 h
        refine lv_aload_n hx hb dX5_committee_80 rfl (lv_at hl 2 rfl) ?_
        refine lv_iload hx hb dX5_committee_81 (lv_at hl 0 rfl) ?_
        refine lv_iconst (v := 2) hx hb dX5_committee_83 (by decide) ?_
        refine kRi (rS C0 (tX5_sayingAt l D cI cS ((fX5_drawn_o0 (upd (fX5_drawn_o1 nw) (fX5_placeNow (fX5_drawn_o1 nw)).toNatClampNeg ((fX5_drawn_o0 nw) - (fX5_drawn_o0 nw) / 9 * 9))) - (fX5_drawn_o0 (upd (fX5_drawn_o1 nw) (fX5_placeNow (fX5_drawn_o1 nw)).toNatClampNeg ((fX5_drawn_o0 nw) - (fX5_drawn_o0 nw) / 9 * 9))) / 8 * 8) 2 (fX5_sayingAt ((fX5_drawn_o0 (upd (fX5_drawn_o1 nw) (fX5_placeNow (fX5_drawn_o1 nw)).toNatClampNeg ((fX5_drawn_o0 nw) - (fX5_drawn_o0 nw) / 9 * 9))) - (fX5_drawn_o0 (upd (fX5_drawn_o1 nw) (fX5_placeNow (fX5_drawn_o1 nw)).toNatClampNeg ((fX5_drawn_o0 nw) - (fX5_drawn_o0 nw) / 9 * 9))) / 8 * 8) 2) rfl) gX5_committee_X5_sayingAt rfl ⟨rfl, rfl⟩ pdX5_sayingAt rfl ⟨Nat.le_of_ble_eq_true rfl, Nat.le_of_ble_eq_true rfl⟩ (fun _ _ _ _ q => q) (fun _ _ _ _ => vp0) hl.1 rfl (Nat.le_of_ble_eq_true rfl) dX5_committee_84 ⟨Nat.zero_le _, Nat.zero_le _⟩) ?_
        refine lv_iconst (v := 5) hx hb dX5_committee_87 (by decide) ?_
        refine lv_bipush (v := 99) hx hb dX5_committee_88 (by decide) ?_
        obtain ⟨z_10, e_11, h⟩ := bds h
        have hPc := hP.sub (ws' := (wX5 cI cS a0 a1 a2 a3 a4 a5 a6 a7 a8 a9 a10 a11 (fX5_drawn_o1 (upd (fX5_drawn_o1 nw) (fX5_placeNow (fX5_drawn_o1 nw)).toNatClampNeg ((fX5_drawn_o0 nw) - (fX5_drawn_o0 nw) / 9 * 9))) kp ad fd tp kn it wd sz nm mv ik td bg en so va iw im st ht)) [0, 1, 2, 3, 4, 5, 6, 7, 8, 9, 10, 11] rfl
        refine kMv (wf' := (wX5 cI cS a0 a1 a2 a3 a4 a5 a6 a7 a8 a9 a10 a11 z_10 kp ad fd tp kn it wd sz nm mv ik td bg en so va iw im st ht)) [0, 1, 2, 3, 4, 5, 6, 7, 8, 9, 10, 11] [some 0, some 1, some 2, some 3, some 4, some 5, some 6, some 7, some 8, some 9, some 10, some 11] (rV C0 (tX5_more l D cI cS a0 a1 a2 a3 a4 a5 a6 a7 a8 a9 a10 a11 (fX5_drawn_o1 (upd (fX5_drawn_o1 nw) (fX5_placeNow (fX5_drawn_o1 nw)).toNatClampNeg ((fX5_drawn_o0 nw) - (fX5_drawn_o0 nw) / 9 * 9))) kp ad fd tp kn it wd sz nm mv ik td bg en so va iw im st ht (fX5_sayingAt ((fX5_drawn_o0 (upd (fX5_drawn_o1 nw) (fX5_placeNow (fX5_drawn_o1 nw)).toNatClampNeg ((fX5_drawn_o0 nw) - (fX5_drawn_o0 nw) / 9 * 9))) - (fX5_drawn_o0 (upd (fX5_drawn_o1 nw) (fX5_placeNow (fX5_drawn_o1 nw)).toNatClampNeg ((fX5_drawn_o0 nw) - (fX5_drawn_o0 nw) / 9 * 9))) / 8 * 8) 2) 5 99 z_10 e_11 (((hD (wX5 cI cS a0 a1 a2 a3 a4 a5 a6 a7 a8 a9 a10 a11 (fX5_drawn_o1 (upd (fX5_drawn_o1 nw) (fX5_placeNow (fX5_drawn_o1 nw)).toNatClampNeg ((fX5_drawn_o0 nw) - (fX5_drawn_o0 nw) / 9 * 9))) kp ad fd tp kn it wd sz nm mv ik td bg en so va iw im st ht) rfl).sub [0, 1, 2, 3, 4, 5, 6, 7, 8, 9, 10, 11] (by decide) rfl).weaken (fun _ _ _ _ => trivial))) RX5 gX5_committee_X5_more rfl ⟨rfl, rfl⟩ pdX5_more rfl ⟨Nat.le_of_ble_eq_true rfl, Nat.le_of_ble_eq_true rfl⟩ (fun _ _ _ _ q => q) (va_recv hE.1 hPc (ci := 4) (q0 := 0) rfl rfl) (fun U hU _ _ => by rw [hU]; exact hPc) hl.1 rfl (Nat.le_of_ble_eq_true rfl) dX5_committee_90 ⟨Nat.zero_le _, Nat.zero_le _⟩) hP (hD _ rfl) hS rfl rfl rfl (fun H locs hP hS => ?_)
        refine lv_aload_n hx hb dX5_committee_93 rfl (lv_at hl 2 rfl) ?_
        obtain ⟨z_12, e_13, h⟩ := bds h
        have hPc := hP.sub (ws' := (wX5 cI cS a0 a1 a2 a3 a4 a5 a6 a7 a8 a9 a10 a11 z_10 kp ad fd tp kn it wd sz nm mv ik td bg en so va iw im st ht)) [0, 1, 2, 3, 4, 5, 6, 7, 8, 9, 10, 11] rfl
        refine kMv (wf' := (wX5 cI cS a0 a1 a2 a3 a4 a5 a6 a7 a8 a9 a10 a11 z_12 kp ad fd tp kn it wd sz nm mv ik td bg en so va iw im st ht)) [0, 1, 2, 3, 4, 5, 6, 7, 8, 9, 10, 11] [some 0, some 1, some 2, some 3, some 4, some 5, some 6, some 7, some 8, some 9, some 10, some 11] (rV C0 (tX5_day l D cI cS F a0 a1 a2 a3 a4 a5 a6 a7 a8 a9 a10 a11 z_10 kp ad fd tp kn it wd sz nm mv ik td bg en so va iw im st ht  z_12 e_13 (((hD (wX5 cI cS a0 a1 a2 a3 a4 a5 a6 a7 a8 a9 a10 a11 z_10 kp ad fd tp kn it wd sz nm mv ik td bg en so va iw im st ht) rfl).sub [0, 1, 2, 3, 4, 5, 6, 7, 8, 9, 10, 11] (by decide) rfl).weaken (fun _ _ _ _ => trivial))) RX5 gX5_committee_X5_day rfl ⟨rfl, rfl⟩ pdX5_day rfl ⟨Nat.le_of_ble_eq_true rfl, Nat.le_of_ble_eq_true rfl⟩ (fun _ _ _ _ q => q) (va_recv hE.1 hPc (ci := 4) (q0 := 0) rfl rfl) (fun U hU _ _ => by rw [hU]; exact hPc) hl.1 rfl (Nat.le_of_ble_eq_true rfl) dX5_committee_94 ⟨Nat.zero_le _, Nat.zero_le _⟩) hP (hD _ rfl) hS rfl rfl rfl (fun H locs hP hS => ?_)
        refine lv_iinc (v := v2 + 1) (lv' := [(2, .int (v2 + 1)), (4, .int ((fX5_drawn_o0 (upd (fX5_drawn_o1 nw) (fX5_placeNow (fX5_drawn_o1 nw)).toNatClampNeg ((fX5_drawn_o0 nw) - (fX5_drawn_o0 nw) / 9 * 9))) - (fX5_drawn_o0 (upd (fX5_drawn_o1 nw) (fX5_placeNow (fX5_drawn_o1 nw)).toNatClampNeg ((fX5_drawn_o0 nw) - (fX5_drawn_o0 nw) / 9 * 9))) / 8 * 8)), (3, .int ((fX5_drawn_o0 nw) - (fX5_drawn_o0 nw) / 9 * 9)), (0, .ref a0), (1, .int v1)]) hx hb dX5_committee_97 hl (k := 4) rfl rfl (by decide) rfl (fun ls hl => ?_)
        refine lv_goto (tgt := 39) hx hb dX5_committee_100 (by decide) ?_
        exact ih (v2 + 1) z_12 _ _ hP hS _ (lv_sub hl [3, 4, 0] rfl) h
set_option maxHeartbeats 4000000 in
set_option maxRecDepth 100000 in
theorem tX5_committee (l : Launch) (D : va_G) (cI cS : ClassId) (F : Nat) (a0 a1 a2 a3 a4 a5 a6 a7 a8 a9 a10 a11 : Nat) (nw : Nat → Int32) (kp : Nat → Int32) (ad : Nat → Int32) (fd : Nat → Int32) (tp : Nat → Int32) (kn : Nat → Option Nat) (it : Nat → Int32) (wd : Nat → Int32) (sz : Nat → Int32) (nm : Nat → Int32) (mv : Nat → Int32) (ik : Int32) (td : Int32) (bg : Int32) (en : Int32) (so : Int32) (va : Int32) (iw : Int32) (im : Int32) (st : Int32) (ht : Int32) (v1 : Int32) (z0 : Int32) (z1 : Nat → Int32) (z2 : Nat → Int32) (h : fX5_committee F nw fd v1 = some (z0, z1, z2)) (hD0 : va_D (fun _ => True) (wX5 cI cS a0 a1 a2 a3 a4 a5 a6 a7 a8 a9 a10 a11 nw kp ad fd tp kn it wd sz nm mv ik td bg en so va iw im st ht)) : Met l yX5_committee wsX5_committee rmX5_committee (PZ D cI cS [.ref a0, .int v1] (fun U => va_P D vwCl (wX5 cI cS a0 a1 a2 a3 a4 a5 a6 a7 a8 a9 a10 a11 nw kp ad fd tp kn it wd sz nm mv ik td bg en so va iw im st ht) U.heap)) (qI D (wX5 cI cS a0 a1 a2 a3 a4 a5 a6 a7 a8 a9 a10 a11 nw kp ad fd tp kn it wd sz nm mv ik td bg en so va iw im st ht) (wX5 cI cS a0 a1 a2 a3 a4 a5 a6 a7 a8 a9 a10 a11 z1 kp ad z2 tp kn it wd sz nm mv ik td bg en so va iw im st ht) z0) 0 0 (wA (wX5 cI cS a0 a1 a2 a3 a4 a5 a6 a7 a8 a9 a10 a11 nw kp ad fd tp kn it wd sz nm mv ik td bg en so va iw im st ht)) := by
  refine Met.mk RX5 (by decide) rfl rfl (Nat.le_of_ble_eq_true rfl) ?_
  intro p e s m below meth c ls C0 hP hl
  have hl : lv_has ls 5 [(0, .ref a0), (1, .int v1)] := hl
  obtain ⟨hx, hb, hr, hml, hown, hts, hlk, hE⟩ := id C0
  have hinX5 : ∀ w ∈ u_ws RX5 TX5 21, w ∈ wsX5_committee := by decide +kernel
  have hD : ∀ W : va_W, W.map Prod.fst = [a0, a1, a2, a3, a4, a5, a6, a7, a8, a9, a10, a11] → va_D (wA (wX5 cI cS a0 a1 a2 a3 a4 a5 a6 a7 a8 a9 a10 a11 nw kp ad fd tp kn it wd sz nm mv ik td bg en so va iw im st ht)) W := fun W hW => hD0.own.re hW
  have hS : va_S (wA (wX5 cI cS a0 a1 a2 a3 a4 a5 a6 a7 a8 a9 a10 a11 nw kp ad fd tp kn it wd sz nm mv ik td bg en so va iw im st ht)) s.heap s.heap [] := va_S.rf
  have hP : va_P D vwCl (wX5 cI cS a0 a1 a2 a3 a4 a5 a6 a7 a8 a9 a10 a11 nw kp ad fd tp kn it wd sz nm mv ik td bg en so va iw im st ht) s.heap := hP
  rw [fX5_committee] at h
  refine lv_iload_n hx hb dX5_committee_0 rfl (lv_at hl 1 rfl) ?_
  refine lv_iconst (v := 1) hx hb dX5_committee_1 (by decide) ?_
  refine lv_bipush (v := 20) hx hb dX5_committee_2 (by decide) ?_
  refine kRi (rS C0 (tX5_within l D cI cS v1 1 20 (fX5_within v1 1 20) rfl) gX5_committee_X5_within rfl ⟨rfl, rfl⟩ pdX5_within rfl ⟨Nat.le_of_ble_eq_true rfl, Nat.le_of_ble_eq_true rfl⟩ (fun _ _ _ _ q => q) (fun _ _ _ _ => vp0) hl.1 rfl (Nat.le_of_ble_eq_true rfl) dX5_committee_4 ⟨Nat.zero_le _, Nat.zero_le _⟩) ?_
  refine lv_if_ne (tgt := 17) hx hb dX5_committee_7 (by decide) (fun c_1 => ?_) (fun c_1 => ?_)
  · have h := ifn c_1 h
    refine lv_aload_n hx hb dX5_committee_17 rfl (lv_at hl 0 rfl) ?_
    refine va_get (D := D) (ci := 4) (v := .ref a1) (C := RX5) (T := TX5) (N := 21) hx hb hts hinX5 hown hE.1 hP 0 rfl rfl 0 (by decide) (hts _ (List.mem_of_getElem? (i := 2) rfl)) (fun _ h9 => h9) rfl dX5_committee_18 ?_
    refine lv_iconst (v := 0) hx hb dX5_committee_21 (by decide) ?_
    refine va_iald hx hb hE.1 hP 1 0 rfl rfl (by unfold vp_in; decide : vp_in 0 84) dX5_committee_22 ?_
    refine lv_eqi (y := nw 0) rfl ?_
    refine lv_iload_n hx hb dX5_committee_23 rfl (lv_at hl 1 rfl) ?_
    refine lv_iadd hx hb dX5_committee_24 ?_
    refine lv_ldc (v := 99999) hx hb hown (hts _ (List.mem_of_getElem? (i := 3) rfl)) dX5_committee_25 ?_
    refine lv_icmp_le (tgt := 37) hx hb dX5_committee_27 (by decide) (fun c_2 => ?_) (fun c_2 => ?_)
    · have h := ifp c_2 h
      refine lv_iconst (v := 0) hx hb dX5_committee_37 (by decide) ?_
      refine lv_istore_n (lv' := [(2, .int 0), (0, .ref a0), (1, .int v1)]) hx hb dX5_committee_38 rfl hl (by decide) rfl (fun ls hl => ?_)
      exact lX5_committee_39 (l := l) (e := e) (below := below) C0 F kp ad fd tp kn it wd sz nm mv ik td bg en so va iw im st ht v1 z0 z1 z2 hD F 0 nw _ _ hP hS _ (lv_sub hl [1, 2, 0] rfl) h
    · have h := ifn c_2 h
      refine lv_aload_n hx hb dX5_committee_30 rfl (lv_at hl 0 rfl) ?_
      refine lv_ldc (v := (-1000005)) hx hb hown (hts _ (List.mem_of_getElem? (i := 4) rfl)) dX5_committee_31 ?_
      obtain ⟨z_14, e_15, h⟩ := bds h
      have hPc := hP.sub (ws' := (wX5 cI cS a0 a1 a2 a3 a4 a5 a6 a7 a8 a9 a10 a11 nw kp ad fd tp kn it wd sz nm mv ik td bg en so va iw im st ht)) [0, 1, 2, 3, 4, 5, 6, 7, 8, 9, 10, 11] rfl
      refine kMi (wf' := (wX5 cI cS a0 a1 a2 a3 a4 a5 a6 a7 a8 a9 a10 a11 nw kp ad z_14.2 tp kn it wd sz nm mv ik td bg en so va iw im st ht)) [0, 1, 2, 3, 4, 5, 6, 7, 8, 9, 10, 11] [some 0, some 1, some 2, some 3, some 4, some 5, some 6, some 7, some 8, some 9, some 10, some 11] (rV C0 (tX5_finding l D cI cS a0 a1 a2 a3 a4 a5 a6 a7 a8 a9 a10 a11 nw kp ad fd tp kn it wd sz nm mv ik td bg en so va iw im st ht (-1000005) z_14.1 z_14.2 e_15 (((hD (wX5 cI cS a0 a1 a2 a3 a4 a5 a6 a7 a8 a9 a10 a11 nw kp ad fd tp kn it wd sz nm mv ik td bg en so va iw im st ht) rfl).sub [0, 1, 2, 3, 4, 5, 6, 7, 8, 9, 10, 11] (by decide) rfl).weaken (fun _ _ _ _ => trivial))) RX5 gX5_committee_X5_finding rfl ⟨rfl, rfl⟩ pdX5_finding rfl ⟨Nat.le_of_ble_eq_true rfl, Nat.le_of_ble_eq_true rfl⟩ (fun _ _ _ _ q => q) (va_recv hE.1 hPc (ci := 4) (q0 := 0) rfl rfl) (fun U hU _ _ => by rw [hU]; exact hPc) hl.1 rfl (Nat.le_of_ble_eq_true rfl) dX5_committee_33 ⟨Nat.zero_le _, Nat.zero_le _⟩) hP (hD _ rfl) hS rfl rfl rfl (fun H locs hP hS => ?_)
      obtain ⟨q0, g0⟩ := Prod.mk.inj (Option.some.inj h)
      obtain ⟨q1, q2⟩ := Prod.mk.inj g0
      subst q0 q1 q2
      exact eMi C0 hP hS rfl rfl dX5_committee_36
  · have h := ifp c_1 h
    refine lv_aload_n hx hb dX5_committee_10 rfl (lv_at hl 0 rfl) ?_
    refine lv_ldc (v := (-1000001)) hx hb hown (hts _ (List.mem_of_getElem? (i := 1) rfl)) dX5_committee_11 ?_
    obtain ⟨z_16, e_17, h⟩ := bds h
    have hPc := hP.sub (ws' := (wX5 cI cS a0 a1 a2 a3 a4 a5 a6 a7 a8 a9 a10 a11 nw kp ad fd tp kn it wd sz nm mv ik td bg en so va iw im st ht)) [0, 1, 2, 3, 4, 5, 6, 7, 8, 9, 10, 11] rfl
    refine kMi (wf' := (wX5 cI cS a0 a1 a2 a3 a4 a5 a6 a7 a8 a9 a10 a11 nw kp ad z_16.2 tp kn it wd sz nm mv ik td bg en so va iw im st ht)) [0, 1, 2, 3, 4, 5, 6, 7, 8, 9, 10, 11] [some 0, some 1, some 2, some 3, some 4, some 5, some 6, some 7, some 8, some 9, some 10, some 11] (rV C0 (tX5_finding l D cI cS a0 a1 a2 a3 a4 a5 a6 a7 a8 a9 a10 a11 nw kp ad fd tp kn it wd sz nm mv ik td bg en so va iw im st ht (-1000001) z_16.1 z_16.2 e_17 (((hD (wX5 cI cS a0 a1 a2 a3 a4 a5 a6 a7 a8 a9 a10 a11 nw kp ad fd tp kn it wd sz nm mv ik td bg en so va iw im st ht) rfl).sub [0, 1, 2, 3, 4, 5, 6, 7, 8, 9, 10, 11] (by decide) rfl).weaken (fun _ _ _ _ => trivial))) RX5 gX5_committee_X5_finding rfl ⟨rfl, rfl⟩ pdX5_finding rfl ⟨Nat.le_of_ble_eq_true rfl, Nat.le_of_ble_eq_true rfl⟩ (fun _ _ _ _ q => q) (va_recv hE.1 hPc (ci := 4) (q0 := 0) rfl rfl) (fun U hU _ _ => by rw [hU]; exact hPc) hl.1 rfl (Nat.le_of_ble_eq_true rfl) dX5_committee_13 ⟨Nat.zero_le _, Nat.zero_le _⟩) hP (hD _ rfl) hS rfl rfl rfl (fun H locs hP hS => ?_)
    obtain ⟨q0, g0⟩ := Prod.mk.inj (Option.some.inj h)
    obtain ⟨q1, q2⟩ := Prod.mk.inj g0
    subst q0 q1 q2
    exact eMi C0 hP hS rfl rfl dX5_committee_16
def fX5_odds_41 (F : Nat) (k : Int32 → Option (Int64 × (Nat → Int32))) (nw : Nat → Int32) (v1 : Int32) : Nat → Int32 → Int32 → Option (Int64 × (Nat → Int32))
  | 0, _, _ => none
  | n + 1, v4, v5 => (if 16 ≤ v5 then k v4 else Option.bind (fX5_wouldGoAt F nw v1 v5) (fun z_9 => (if z_9 = 0 then fX5_odds_41 F k nw v1 n (v4 + 0) (v5 + 1) else fX5_odds_41 F k nw v1 n (v4 + 1) (v5 + 1))))
def fX5_odds_82 (k : Int32 → Option (Int64 × (Nat → Int32))) : Nat → Int32 → Int32 → Option (Int64 × (Nat → Int32))
  | 0, _, _ => none
  | n + 1, v5, v6 => (if v6 = 0 then k v5 else if ¬ (v6 = 0) then fX5_odds_82 k n v6 (v5 - v5 / v6 * v6) else none)
def fX5_odds_111 (fd : Nat → Int32) (v2 : Int32) (v3 : Int32) (v4 : Int32) (v5 : Int32) : Nat → Int64 → Int32 → Option (Int64 × (Nat → Int32))
  | 0, _, _ => none
  | n + 1, v7, v9 => (if v2 ≤ v9 then some (v7, fd) else (if v3 = 0 then if ¬ (v5 = 0) then fX5_odds_111 fd v2 v3 v4 v5 n (v7 * ((v4 / v5).toInt64)) (v9 + 1) else none else if ¬ (v5 = 0) then fX5_odds_111 fd v2 v3 v4 v5 n (v7 * ((16 / v5).toInt64)) (v9 + 1) else none))
def fX5_odds (F : Nat) (nw : Nat → Int32) (fd : Nat → Int32) (v1 : Int32) (v2 : Int32) (v3 : Int32) : Option (Int64 × (Nat → Int32)) := (if (fX5_isShip nw v1) = 0 then Option.bind (fX5_finding fd (-1000001)) (fun z_2 => some (z_2.1.toInt64, z_2.2)) else (if (fX5_within v2 0 15) = 0 then Option.bind (fX5_finding fd (-1000001)) (fun z_5 => some (z_5.1.toInt64, z_5.2)) else (if (fX5_within v3 0 1) = 0 then Option.bind (fX5_finding fd (-1000001)) (fun z_20 => some (z_20.1.toInt64, z_20.2)) else fX5_odds_41 F (fun w_12 => fX5_odds_82 (fun w_15 => fX5_odds_111 fd v2 v3 w_12 w_15 F 1 0) F 16 w_12) nw v1 F 0 0)))
abbrev rmX5_odds : Room := { frames := 5, cells := 0, slots := 0, locals := 113 }
theorem pdX5_odds : (yX5_odds.cls = RX5 ∧ yX5_odds.cls ≠ "java/lang/invoke/MethodHandle" ∧ yX5_odds.cls ≠ "java/lang/invoke/VarHandle" ∧ (parseMethodDescriptor yX5_odds.desc).map (fun d => d.parameters.length) = some 3) := by decide +kernel
set_option maxHeartbeats 4000000 in
set_option maxRecDepth 100000 in
theorem lX5_odds_41 {p : Program} {l : Launch} {e : Env} {s : State} {m : MethodId} {av : Array Value} {below : List Frame} {meth : Method} {c : Code} {D : va_G} {cI cS : ClassId} {a0 a1 a2 a3 a4 a5 a6 a7 a8 a9 a10 a11 : Nat} {W0 : va_W} (C0 : CX p s m av meth c RX5 cX5_odds 10 (some .long) wsX5_odds D cI cS) (F : Nat) (k : Int32 → Option (Int64 × (Nat → Int32))) (nw : Nat → Int32) (kp : Nat → Int32) (ad : Nat → Int32) (fd : Nat → Int32) (tp : Nat → Int32) (kn : Nat → Option Nat) (it : Nat → Int32) (wd : Nat → Int32) (sz : Nat → Int32) (nm : Nat → Int32) (mv : Nat → Int32) (ik : Int32) (td : Int32) (bg : Int32) (en : Int32) (so : Int32) (va : Int32) (iw : Int32) (im : Int32) (st : Int32) (ht : Int32) (v1 : Int32) (v2 : Int32) (v3 : Int32) (z0 : Int64) (z1 : Nat → Int32) (hD : ∀ W : va_W, W.map Prod.fst = [a0, a1, a2, a3, a4, a5, a6, a7, a8, a9, a10, a11] → va_D (wA W0) W) (kk : ∀ (v4 : Int32) (H : Heap) (locs : List Loc), va_P D vwCl (wX5 cI cS a0 a1 a2 a3 a4 a5 a6 a7 a8 a9 a10 a11 nw kp ad fd tp kn it wd sz nm mv ik td bg en so va iw im st ht) H → va_S (wA W0) s.heap H locs → ∀ (ls : Array Slot), lv_has ls 10 [(2, .int v2), (3, .int v3), (4, .int v4)] → k v4 = some (z0, z1) → W p l e rmX5_odds s m av below meth c H locs 0 0 (MQ below (qL D W0 (wX5 cI cS a0 a1 a2 a3 a4 a5 a6 a7 a8 a9 a10 a11 nw kp ad z1 tp kn it wd sz nm mv ik td bg en so va iw im st ht) z0) av s 0 0 (wA W0)) (F0 m 74 ls [])) : ∀ (n : Nat) (v4 : Int32) (v5 : Int32) (H : Heap) (locs : List Loc), va_P D vwCl (wX5 cI cS a0 a1 a2 a3 a4 a5 a6 a7 a8 a9 a10 a11 nw kp ad fd tp kn it wd sz nm mv ik td bg en so va iw im st ht) H → va_S (wA W0) s.heap H locs → ∀ (ls : Array Slot), lv_has ls 10 [(0, .ref a0), (1, .int v1), (2, .int v2), (3, .int v3), (4, .int v4), (5, .int v5)] → fX5_odds_41 F k nw v1 n v4 v5 = some (z0, z1) → W p l e rmX5_odds s m av below meth c H locs 0 0 (MQ below (qL D W0 (wX5 cI cS a0 a1 a2 a3 a4 a5 a6 a7 a8 a9 a10 a11 nw kp ad z1 tp kn it wd sz nm mv ik td bg en so va iw im st ht) z0) av s 0 0 (wA W0)) (F0 m 41 ls []) := by
  obtain ⟨hx, hb, hr, hml, hown, hts, hlk, hE⟩ := id C0
  intro n
  induction n with
  | zero =>
    intro v4 v5 H locs hP hS ls hl h
    cases (show none = some (z0, z1) from h)
  | succ n ih =>
    intro v4 v5 H locs hP hS ls hl h
    rw [fX5_odds_41] at h
    refine lv_iload hx hb dX5_odds_41 (lv_at hl 5 rfl) ?_
    refine lv_bipush (v := 16) hx hb dX5_odds_43 (by decide) ?_
    refine lv_icmp_ge (tgt := 74) hx hb dX5_odds_45 (by decide) (fun c_8 => ?_) (fun c_8 => ?_)
    · have h := ifp c_8 h
      exact kk v4 _ _ hP hS _ (lv_sub hl [2, 3, 4] rfl) h
    · have h := ifn c_8 h
      refine lv_iload hx hb dX5_odds_48 (lv_at hl 4 rfl) ?_
      refine lv_aload_n hx hb dX5_odds_50 rfl (lv_at hl 0 rfl) ?_
      refine lv_iload_n hx hb dX5_odds_51 rfl (lv_at hl 1 rfl) ?_
      refine lv_iload hx hb dX5_odds_52 (lv_at hl 5 rfl) ?_
      obtain ⟨z_9, e_10, h⟩ := bds h
      have hPc := hP.sub (ws' := (wX5 cI cS a0 a1 a2 a3 a4 a5 a6 a7 a8 a9 a10 a11 nw kp ad fd tp kn it wd sz nm mv ik td bg en so va iw im st ht)) [0, 1, 2, 3, 4, 5, 6, 7, 8, 9, 10, 11] rfl
      refine kRi (rV C0 (tX5_wouldGoAt l D cI cS F a0 a1 a2 a3 a4 a5 a6 a7 a8 a9 a10 a11 nw kp ad fd tp kn it wd sz nm mv ik td bg en so va iw im st ht v1 v5 z_9 e_10) RX5 gX5_odds_X5_wouldGoAt rfl ⟨rfl, rfl⟩ pdX5_wouldGoAt rfl ⟨Nat.le_of_ble_eq_true rfl, Nat.le_of_ble_eq_true rfl⟩ (fun _ _ _ _ q => q) (va_recv hE.1 hPc (ci := 4) (q0 := 0) rfl rfl) (fun U hU _ _ => by rw [hU]; exact hPc) hl.1 rfl (Nat.le_of_ble_eq_true rfl) dX5_odds_54 ⟨Nat.zero_le _, Nat.zero_le _⟩) ?_
      refine lv_if_eq (tgt := 64) hx hb dX5_odds_57 (by decide) (fun c_11 => ?_) (fun c_11 => ?_)
      · have h := ifp c_11 h
        refine lv_iconst (v := 0) hx hb dX5_odds_64 (by decide) ?_
        refine lv_iadd hx hb dX5_odds_65 ?_
        refine lv_istore (lv' := [(4, .int (v4 + 0)), (0, .ref a0), (1, .int v1), (2, .int v2), (3, .int v3), (5, .int v5)]) hx hb dX5_odds_66 hl (by decide) rfl (fun ls hl => ?_)
        refine lv_iinc (v := v5 + 1) (lv' := [(5, .int (v5 + 1)), (4, .int (v4 + 0)), (0, .ref a0), (1, .int v1), (2, .int v2), (3, .int v3)]) hx hb dX5_odds_68 hl (k := 5) rfl rfl (by decide) rfl (fun ls hl => ?_)
        refine lv_goto (tgt := 41) hx hb dX5_odds_71 (by decide) ?_
        exact ih (v4 + 0) (v5 + 1) _ _ hP hS _ (lv_sub hl [2, 3, 4, 5, 1, 0] rfl) h
      · have h := ifn c_11 h
        refine lv_iconst (v := 1) hx hb dX5_odds_60 (by decide) ?_
        refine lv_goto (tgt := 65) hx hb dX5_odds_61 (by decide) ?_
        refine lv_iadd hx hb dX5_odds_65 ?_
        refine lv_istore (lv' := [(4, .int (v4 + 1)), (0, .ref a0), (1, .int v1), (2, .int v2), (3, .int v3), (5, .int v5)]) hx hb dX5_odds_66 hl (by decide) rfl (fun ls hl => ?_)
        refine lv_iinc (v := v5 + 1) (lv' := [(5, .int (v5 + 1)), (4, .int (v4 + 1)), (0, .ref a0), (1, .int v1), (2, .int v2), (3, .int v3)]) hx hb dX5_odds_68 hl (k := 5) rfl rfl (by decide) rfl (fun ls hl => ?_)
        refine lv_goto (tgt := 41) hx hb dX5_odds_71 (by decide) ?_
        exact ih (v4 + 1) (v5 + 1) _ _ hP hS _ (lv_sub hl [2, 3, 4, 5, 1, 0] rfl) h
set_option maxHeartbeats 4000000 in
set_option maxRecDepth 100000 in
theorem lX5_odds_82 {p : Program} {l : Launch} {e : Env} {s : State} {m : MethodId} {av : Array Value} {below : List Frame} {meth : Method} {c : Code} {D : va_G} {cI cS : ClassId} {a0 a1 a2 a3 a4 a5 a6 a7 a8 a9 a10 a11 : Nat} {W0 : va_W} (C0 : CX p s m av meth c RX5 cX5_odds 10 (some .long) wsX5_odds D cI cS) (F : Nat) (k : Int32 → Option (Int64 × (Nat → Int32))) (nw : Nat → Int32) (kp : Nat → Int32) (ad : Nat → Int32) (fd : Nat → Int32) (tp : Nat → Int32) (kn : Nat → Option Nat) (it : Nat → Int32) (wd : Nat → Int32) (sz : Nat → Int32) (nm : Nat → Int32) (mv : Nat → Int32) (ik : Int32) (td : Int32) (bg : Int32) (en : Int32) (so : Int32) (va : Int32) (iw : Int32) (im : Int32) (st : Int32) (ht : Int32) (v2 : Int32) (v3 : Int32) (v4 : Int32) (z0 : Int64) (z1 : Nat → Int32) (hD : ∀ W : va_W, W.map Prod.fst = [a0, a1, a2, a3, a4, a5, a6, a7, a8, a9, a10, a11] → va_D (wA W0) W) (kk : ∀ (v5 : Int32) (H : Heap) (locs : List Loc), va_P D vwCl (wX5 cI cS a0 a1 a2 a3 a4 a5 a6 a7 a8 a9 a10 a11 nw kp ad fd tp kn it wd sz nm mv ik td bg en so va iw im st ht) H → va_S (wA W0) s.heap H locs → ∀ (ls : Array Slot), lv_has ls 10 [(2, .int v2), (3, .int v3), (4, .int v4), (5, .int v5)] → k v5 = some (z0, z1) → W p l e rmX5_odds s m av below meth c H locs 0 0 (MQ below (qL D W0 (wX5 cI cS a0 a1 a2 a3 a4 a5 a6 a7 a8 a9 a10 a11 nw kp ad z1 tp kn it wd sz nm mv ik td bg en so va iw im st ht) z0) av s 0 0 (wA W0)) (F0 m 105 ls [])) : ∀ (n : Nat) (v5 : Int32) (v6 : Int32) (H : Heap) (locs : List Loc), va_P D vwCl (wX5 cI cS a0 a1 a2 a3 a4 a5 a6 a7 a8 a9 a10 a11 nw kp ad fd tp kn it wd sz nm mv ik td bg en so va iw im st ht) H → va_S (wA W0) s.heap H locs → ∀ (ls : Array Slot), lv_has ls 10 [(2, .int v2), (3, .int v3), (4, .int v4), (5, .int v5), (6, .int v6)] → fX5_odds_82 k n v5 v6 = some (z0, z1) → W p l e rmX5_odds s m av below meth c H locs 0 0 (MQ below (qL D W0 (wX5 cI cS a0 a1 a2 a3 a4 a5 a6 a7 a8 a9 a10 a11 nw kp ad z1 tp kn it wd sz nm mv ik td bg en so va iw im st ht) z0) av s 0 0 (wA W0)) (F0 m 82 ls []) := by
  obtain ⟨hx, hb, hr, hml, hown, hts, hlk, hE⟩ := id C0
  intro n
  induction n with
  | zero =>
    intro v5 v6 H locs hP hS ls hl h
    cases (show none = some (z0, z1) from h)
  | succ n ih =>
    intro v5 v6 H locs hP hS ls hl h
    rw [fX5_odds_82] at h
    refine lv_iload hx hb dX5_odds_82 (lv_at hl 4 rfl) ?_
    refine lv_if_eq (tgt := 105) hx hb dX5_odds_84 (by decide) (fun c_13 => ?_) (fun c_13 => ?_)
    · have h := ifp c_13 h
      exact kk v5 _ _ hP hS _ (lv_sub hl [0, 1, 2, 3] rfl) h
    · have h := ifn c_13 h
      refine lv_iload hx hb dX5_odds_87 (lv_at hl 3 rfl) ?_
      refine lv_iload hx hb dX5_odds_89 (lv_at hl 4 rfl) ?_
      obtain ⟨hz_14, h⟩ := ifs h
      refine lv_irem hx hb dX5_odds_91 hz_14 ?_
      refine lv_istore (lv' := [(7, .int (v5 - v5 / v6 * v6)), (2, .int v2), (3, .int v3), (4, .int v4), (5, .int v5), (6, .int v6)]) hx hb dX5_odds_92 hl (by decide) rfl (fun ls hl => ?_)
      refine lv_iload hx hb dX5_odds_94 (lv_at hl 5 rfl) ?_
      refine lv_istore (lv' := [(5, .int v6), (7, .int (v5 - v5 / v6 * v6)), (2, .int v2), (3, .int v3), (4, .int v4), (6, .int v6)]) hx hb dX5_odds_96 hl (by decide) rfl (fun ls hl => ?_)
      refine lv_iload hx hb dX5_odds_98 (lv_at hl 1 rfl) ?_
      refine lv_istore (lv' := [(6, .int (v5 - v5 / v6 * v6)), (5, .int v6), (7, .int (v5 - v5 / v6 * v6)), (2, .int v2), (3, .int v3), (4, .int v4)]) hx hb dX5_odds_100 hl (by decide) rfl (fun ls hl => ?_)
      refine lv_goto (tgt := 82) hx hb dX5_odds_102 (by decide) ?_
      exact ih v6 (v5 - v5 / v6 * v6) _ _ hP hS _ (lv_sub hl [3, 4, 5, 1, 0] rfl) h
set_option maxHeartbeats 4000000 in
set_option maxRecDepth 100000 in
theorem lX5_odds_111 {p : Program} {l : Launch} {e : Env} {s : State} {m : MethodId} {av : Array Value} {below : List Frame} {meth : Method} {c : Code} {D : va_G} {cI cS : ClassId} {a0 a1 a2 a3 a4 a5 a6 a7 a8 a9 a10 a11 : Nat} {W0 : va_W} (C0 : CX p s m av meth c RX5 cX5_odds 10 (some .long) wsX5_odds D cI cS) (F : Nat) (nw : Nat → Int32) (kp : Nat → Int32) (ad : Nat → Int32) (fd : Nat → Int32) (tp : Nat → Int32) (kn : Nat → Option Nat) (it : Nat → Int32) (wd : Nat → Int32) (sz : Nat → Int32) (nm : Nat → Int32) (mv : Nat → Int32) (ik : Int32) (td : Int32) (bg : Int32) (en : Int32) (so : Int32) (va : Int32) (iw : Int32) (im : Int32) (st : Int32) (ht : Int32) (v2 : Int32) (v3 : Int32) (v4 : Int32) (v5 : Int32) (z0 : Int64) (z1 : Nat → Int32) (hD : ∀ W : va_W, W.map Prod.fst = [a0, a1, a2, a3, a4, a5, a6, a7, a8, a9, a10, a11] → va_D (wA W0) W) : ∀ (n : Nat) (v7 : Int64) (v9 : Int32) (H : Heap) (locs : List Loc), va_P D vwCl (wX5 cI cS a0 a1 a2 a3 a4 a5 a6 a7 a8 a9 a10 a11 nw kp ad fd tp kn it wd sz nm mv ik td bg en so va iw im st ht) H → va_S (wA W0) s.heap H locs → ∀ (ls : Array Slot), lv_has ls 10 [(2, .int v2), (3, .int v3), (4, .int v4), (5, .int v5), (7, .long v7), (9, .int v9)] → fX5_odds_111 fd v2 v3 v4 v5 n v7 v9 = some (z0, z1) → W p l e rmX5_odds s m av below meth c H locs 0 0 (MQ below (qL D W0 (wX5 cI cS a0 a1 a2 a3 a4 a5 a6 a7 a8 a9 a10 a11 nw kp ad z1 tp kn it wd sz nm mv ik td bg en so va iw im st ht) z0) av s 0 0 (wA W0)) (F0 m 111 ls []) := by
  obtain ⟨hx, hb, hr, hml, hown, hts, hlk, hE⟩ := id C0
  intro n
  induction n with
  | zero =>
    intro v7 v9 H locs hP hS ls hl h
    cases (show none = some (z0, z1) from h)
  | succ n ih =>
    intro v7 v9 H locs hP hS ls hl h
    rw [fX5_odds_111] at h
    refine lv_iload hx hb dX5_odds_111 (lv_at hl 5 rfl) ?_
    refine lv_iload_n hx hb dX5_odds_113 rfl (lv_at hl 0 rfl) ?_
    refine lv_icmp_ge (tgt := 143) hx hb dX5_odds_114 (by decide) (fun c_16 => ?_) (fun c_16 => ?_)
    · have h := ifp c_16 h
      refine lv_lload hx hb dX5_odds_143 (lv_at hl 4 rfl) ?_
      obtain ⟨q0, q1⟩ := Prod.mk.inj (Option.some.inj h)
      subst q0 q1
      exact eMl C0 hP hS rfl rfl dX5_odds_145
    · have h := ifn c_16 h
      refine lv_lload hx hb dX5_odds_117 (lv_at hl 4 rfl) ?_
      refine lv_iload_n hx hb dX5_odds_119 rfl (lv_at hl 1 rfl) ?_
      refine lv_if_ne (tgt := 128) hx hb dX5_odds_120 (by decide) (fun c_17 => ?_) (fun c_17 => ?_)
      · have h := ifn c_17 h
        refine lv_bipush (v := 16) hx hb dX5_odds_128 (by decide) ?_
        refine lv_iload hx hb dX5_odds_130 (lv_at hl 3 rfl) ?_
        obtain ⟨hz_18, h⟩ := ifs h
        refine lv_idiv hx hb dX5_odds_132 hz_18 ?_
        refine lv_i2l (v := (16 / v5).toInt64) hx hb dX5_odds_133 rfl ?_
        refine lv_lmul hx hb dX5_odds_134 ?_
        refine lv_lstore (lv' := [(7, .long (v7 * ((16 / v5).toInt64))), (2, .int v2), (3, .int v3), (4, .int v4), (5, .int v5), (9, .int v9)]) hx hb dX5_odds_135 hl (by decide) rfl (fun ls hl => ?_)
        refine lv_iinc (v := v9 + 1) (lv' := [(9, .int (v9 + 1)), (7, .long (v7 * ((16 / v5).toInt64))), (2, .int v2), (3, .int v3), (4, .int v4), (5, .int v5)]) hx hb dX5_odds_137 hl (k := 5) rfl rfl (by decide) rfl (fun ls hl => ?_)
        refine lv_goto (tgt := 111) hx hb dX5_odds_140 (by decide) ?_
        exact ih (v7 * ((16 / v5).toInt64)) (v9 + 1) _ _ hP hS _ (lv_sub hl [2, 3, 4, 5, 1, 0] rfl) h
      · have h := ifp c_17 h
        refine lv_iload hx hb dX5_odds_123 (lv_at hl 2 rfl) ?_
        refine lv_goto (tgt := 130) hx hb dX5_odds_125 (by decide) ?_
        refine lv_iload hx hb dX5_odds_130 (lv_at hl 3 rfl) ?_
        obtain ⟨hz_19, h⟩ := ifs h
        refine lv_idiv hx hb dX5_odds_132 hz_19 ?_
        refine lv_i2l (v := (v4 / v5).toInt64) hx hb dX5_odds_133 rfl ?_
        refine lv_lmul hx hb dX5_odds_134 ?_
        refine lv_lstore (lv' := [(7, .long (v7 * ((v4 / v5).toInt64))), (2, .int v2), (3, .int v3), (4, .int v4), (5, .int v5), (9, .int v9)]) hx hb dX5_odds_135 hl (by decide) rfl (fun ls hl => ?_)
        refine lv_iinc (v := v9 + 1) (lv' := [(9, .int (v9 + 1)), (7, .long (v7 * ((v4 / v5).toInt64))), (2, .int v2), (3, .int v3), (4, .int v4), (5, .int v5)]) hx hb dX5_odds_137 hl (k := 5) rfl rfl (by decide) rfl (fun ls hl => ?_)
        refine lv_goto (tgt := 111) hx hb dX5_odds_140 (by decide) ?_
        exact ih (v7 * ((v4 / v5).toInt64)) (v9 + 1) _ _ hP hS _ (lv_sub hl [2, 3, 4, 5, 1, 0] rfl) h
set_option maxHeartbeats 4000000 in
set_option maxRecDepth 100000 in
theorem tX5_odds (l : Launch) (D : va_G) (cI cS : ClassId) (F : Nat) (a0 a1 a2 a3 a4 a5 a6 a7 a8 a9 a10 a11 : Nat) (nw : Nat → Int32) (kp : Nat → Int32) (ad : Nat → Int32) (fd : Nat → Int32) (tp : Nat → Int32) (kn : Nat → Option Nat) (it : Nat → Int32) (wd : Nat → Int32) (sz : Nat → Int32) (nm : Nat → Int32) (mv : Nat → Int32) (ik : Int32) (td : Int32) (bg : Int32) (en : Int32) (so : Int32) (va : Int32) (iw : Int32) (im : Int32) (st : Int32) (ht : Int32) (v1 : Int32) (v2 : Int32) (v3 : Int32) (z0 : Int64) (z1 : Nat → Int32) (h : fX5_odds F nw fd v1 v2 v3 = some (z0, z1)) (hD0 : va_D (fun _ => True) (wX5 cI cS a0 a1 a2 a3 a4 a5 a6 a7 a8 a9 a10 a11 nw kp ad fd tp kn it wd sz nm mv ik td bg en so va iw im st ht)) : Met l yX5_odds wsX5_odds rmX5_odds (PZ D cI cS [.ref a0, .int v1, .int v2, .int v3] (fun U => va_P D vwCl (wX5 cI cS a0 a1 a2 a3 a4 a5 a6 a7 a8 a9 a10 a11 nw kp ad fd tp kn it wd sz nm mv ik td bg en so va iw im st ht) U.heap)) (qL D (wX5 cI cS a0 a1 a2 a3 a4 a5 a6 a7 a8 a9 a10 a11 nw kp ad fd tp kn it wd sz nm mv ik td bg en so va iw im st ht) (wX5 cI cS a0 a1 a2 a3 a4 a5 a6 a7 a8 a9 a10 a11 nw kp ad z1 tp kn it wd sz nm mv ik td bg en so va iw im st ht) z0) 0 0 (wA (wX5 cI cS a0 a1 a2 a3 a4 a5 a6 a7 a8 a9 a10 a11 nw kp ad fd tp kn it wd sz nm mv ik td bg en so va iw im st ht)) := by
  refine Met.mk RX5 (by decide) rfl rfl (Nat.le_of_ble_eq_true rfl) ?_
  intro p e s m below meth c ls C0 hP hl
  have hl : lv_has ls 10 [(0, .ref a0), (1, .int v1), (2, .int v2), (3, .int v3)] := hl
  obtain ⟨hx, hb, hr, hml, hown, hts, hlk, hE⟩ := id C0
  have hD : ∀ W : va_W, W.map Prod.fst = [a0, a1, a2, a3, a4, a5, a6, a7, a8, a9, a10, a11] → va_D (wA (wX5 cI cS a0 a1 a2 a3 a4 a5 a6 a7 a8 a9 a10 a11 nw kp ad fd tp kn it wd sz nm mv ik td bg en so va iw im st ht)) W := fun W hW => hD0.own.re hW
  have hS : va_S (wA (wX5 cI cS a0 a1 a2 a3 a4 a5 a6 a7 a8 a9 a10 a11 nw kp ad fd tp kn it wd sz nm mv ik td bg en so va iw im st ht)) s.heap s.heap [] := va_S.rf
  have hP : va_P D vwCl (wX5 cI cS a0 a1 a2 a3 a4 a5 a6 a7 a8 a9 a10 a11 nw kp ad fd tp kn it wd sz nm mv ik td bg en so va iw im st ht) s.heap := hP
  rw [fX5_odds] at h
  refine lv_aload_n hx hb dX5_odds_0 rfl (lv_at hl 0 rfl) ?_
  refine lv_iload_n hx hb dX5_odds_1 rfl (lv_at hl 1 rfl) ?_
  have hPc := hP.sub (ws' := (wX5 cI cS a0 a1 a2 a3 a4 a5 a6 a7 a8 a9 a10 a11 nw kp ad fd tp kn it wd sz nm mv ik td bg en so va iw im st ht)) [0, 1, 2, 3, 4, 5, 6, 7, 8, 9, 10, 11] rfl
  refine kRi (rV C0 (tX5_isShip l D cI cS a0 a1 a2 a3 a4 a5 a6 a7 a8 a9 a10 a11 nw kp ad fd tp kn it wd sz nm mv ik td bg en so va iw im st ht v1 (fX5_isShip nw v1) rfl) RX5 gX5_odds_X5_isShip rfl ⟨rfl, rfl⟩ pdX5_isShip rfl ⟨Nat.le_of_ble_eq_true rfl, Nat.le_of_ble_eq_true rfl⟩ (fun _ _ _ _ q => q) (va_recv hE.1 hPc (ci := 4) (q0 := 0) rfl rfl) (fun U hU _ _ => by rw [hU]; exact hPc) hl.1 rfl (Nat.le_of_ble_eq_true rfl) dX5_odds_2 ⟨Nat.zero_le _, Nat.zero_le _⟩) ?_
  refine lv_if_eq (tgt := 27) hx hb dX5_odds_5 (by decide) (fun c_1 => ?_) (fun c_1 => ?_)
  · have h := ifp c_1 h
    refine lv_aload_n hx hb dX5_odds_27 rfl (lv_at hl 0 rfl) ?_
    refine lv_ldc (v := (-1000001)) hx hb hown (hts _ (List.mem_of_getElem? (i := 1) rfl)) dX5_odds_28 ?_
    obtain ⟨z_2, e_3, h⟩ := bds h
    have hPc := hP.sub (ws' := (wX5 cI cS a0 a1 a2 a3 a4 a5 a6 a7 a8 a9 a10 a11 nw kp ad fd tp kn it wd sz nm mv ik td bg en so va iw im st ht)) [0, 1, 2, 3, 4, 5, 6, 7, 8, 9, 10, 11] rfl
    refine kMi (wf' := (wX5 cI cS a0 a1 a2 a3 a4 a5 a6 a7 a8 a9 a10 a11 nw kp ad z_2.2 tp kn it wd sz nm mv ik td bg en so va iw im st ht)) [0, 1, 2, 3, 4, 5, 6, 7, 8, 9, 10, 11] [some 0, some 1, some 2, some 3, some 4, some 5, some 6, some 7, some 8, some 9, some 10, some 11] (rV C0 (tX5_finding l D cI cS a0 a1 a2 a3 a4 a5 a6 a7 a8 a9 a10 a11 nw kp ad fd tp kn it wd sz nm mv ik td bg en so va iw im st ht (-1000001) z_2.1 z_2.2 e_3 (((hD (wX5 cI cS a0 a1 a2 a3 a4 a5 a6 a7 a8 a9 a10 a11 nw kp ad fd tp kn it wd sz nm mv ik td bg en so va iw im st ht) rfl).sub [0, 1, 2, 3, 4, 5, 6, 7, 8, 9, 10, 11] (by decide) rfl).weaken (fun _ _ _ _ => trivial))) RX5 gX5_odds_X5_finding rfl ⟨rfl, rfl⟩ pdX5_finding rfl ⟨Nat.le_of_ble_eq_true rfl, Nat.le_of_ble_eq_true rfl⟩ (fun _ _ _ _ q => q) (va_recv hE.1 hPc (ci := 4) (q0 := 0) rfl rfl) (fun U hU _ _ => by rw [hU]; exact hPc) hl.1 rfl (Nat.le_of_ble_eq_true rfl) dX5_odds_30 ⟨Nat.zero_le _, Nat.zero_le _⟩) hP (hD _ rfl) hS rfl rfl rfl (fun H locs hP hS => ?_)
    refine lv_i2l (v := z_2.1.toInt64) hx hb dX5_odds_33 rfl ?_
    obtain ⟨q0, q1⟩ := Prod.mk.inj (Option.some.inj h)
    subst q0 q1
    exact eMl C0 hP hS rfl rfl dX5_odds_34
  · have h := ifn c_1 h
    refine lv_iload_n hx hb dX5_odds_8 rfl (lv_at hl 2 rfl) ?_
    refine lv_iconst (v := 0) hx hb dX5_odds_9 (by decide) ?_
    refine lv_bipush (v := 15) hx hb dX5_odds_10 (by decide) ?_
    refine kRi (rS C0 (tX5_within l D cI cS v2 0 15 (fX5_within v2 0 15) rfl) gX5_odds_X5_within rfl ⟨rfl, rfl⟩ pdX5_within rfl ⟨Nat.le_of_ble_eq_true rfl, Nat.le_of_ble_eq_true rfl⟩ (fun _ _ _ _ q => q) (fun _ _ _ _ => vp0) hl.1 rfl (Nat.le_of_ble_eq_true rfl) dX5_odds_12 ⟨Nat.zero_le _, Nat.zero_le _⟩) ?_
    refine lv_if_eq (tgt := 27) hx hb dX5_odds_15 (by decide) (fun c_4 => ?_) (fun c_4 => ?_)
    · have h := ifp c_4 h
      refine lv_aload_n hx hb dX5_odds_27 rfl (lv_at hl 0 rfl) ?_
      refine lv_ldc (v := (-1000001)) hx hb hown (hts _ (List.mem_of_getElem? (i := 1) rfl)) dX5_odds_28 ?_
      obtain ⟨z_5, e_6, h⟩ := bds h
      have hPc := hP.sub (ws' := (wX5 cI cS a0 a1 a2 a3 a4 a5 a6 a7 a8 a9 a10 a11 nw kp ad fd tp kn it wd sz nm mv ik td bg en so va iw im st ht)) [0, 1, 2, 3, 4, 5, 6, 7, 8, 9, 10, 11] rfl
      refine kMi (wf' := (wX5 cI cS a0 a1 a2 a3 a4 a5 a6 a7 a8 a9 a10 a11 nw kp ad z_5.2 tp kn it wd sz nm mv ik td bg en so va iw im st ht)) [0, 1, 2, 3, 4, 5, 6, 7, 8, 9, 10, 11] [some 0, some 1, some 2, some 3, some 4, some 5, some 6, some 7, some 8, some 9, some 10, some 11] (rV C0 (tX5_finding l D cI cS a0 a1 a2 a3 a4 a5 a6 a7 a8 a9 a10 a11 nw kp ad fd tp kn it wd sz nm mv ik td bg en so va iw im st ht (-1000001) z_5.1 z_5.2 e_6 (((hD (wX5 cI cS a0 a1 a2 a3 a4 a5 a6 a7 a8 a9 a10 a11 nw kp ad fd tp kn it wd sz nm mv ik td bg en so va iw im st ht) rfl).sub [0, 1, 2, 3, 4, 5, 6, 7, 8, 9, 10, 11] (by decide) rfl).weaken (fun _ _ _ _ => trivial))) RX5 gX5_odds_X5_finding rfl ⟨rfl, rfl⟩ pdX5_finding rfl ⟨Nat.le_of_ble_eq_true rfl, Nat.le_of_ble_eq_true rfl⟩ (fun _ _ _ _ q => q) (va_recv hE.1 hPc (ci := 4) (q0 := 0) rfl rfl) (fun U hU _ _ => by rw [hU]; exact hPc) hl.1 rfl (Nat.le_of_ble_eq_true rfl) dX5_odds_30 ⟨Nat.zero_le _, Nat.zero_le _⟩) hP (hD _ rfl) hS rfl rfl rfl (fun H locs hP hS => ?_)
      refine lv_i2l (v := z_5.1.toInt64) hx hb dX5_odds_33 rfl ?_
      obtain ⟨q0, q1⟩ := Prod.mk.inj (Option.some.inj h)
      subst q0 q1
      exact eMl C0 hP hS rfl rfl dX5_odds_34
    · have h := ifn c_4 h
      refine lv_iload_n hx hb dX5_odds_18 rfl (lv_at hl 3 rfl) ?_
      refine lv_iconst (v := 0) hx hb dX5_odds_19 (by decide) ?_
      refine lv_iconst (v := 1) hx hb dX5_odds_20 (by decide) ?_
      refine kRi (rS C0 (tX5_within l D cI cS v3 0 1 (fX5_within v3 0 1) rfl) gX5_odds_X5_within rfl ⟨rfl, rfl⟩ pdX5_within rfl ⟨Nat.le_of_ble_eq_true rfl, Nat.le_of_ble_eq_true rfl⟩ (fun _ _ _ _ q => q) (fun _ _ _ _ => vp0) hl.1 rfl (Nat.le_of_ble_eq_true rfl) dX5_odds_21 ⟨Nat.zero_le _, Nat.zero_le _⟩) ?_
      refine lv_if_ne (tgt := 35) hx hb dX5_odds_24 (by decide) (fun c_7 => ?_) (fun c_7 => ?_)
      · have h := ifn c_7 h
        refine lv_iconst (v := 0) hx hb dX5_odds_35 (by decide) ?_
        refine lv_istore (lv' := [(4, .int 0), (0, .ref a0), (1, .int v1), (2, .int v2), (3, .int v3)]) hx hb dX5_odds_36 hl (by decide) rfl (fun ls hl => ?_)
        refine lv_iconst (v := 0) hx hb dX5_odds_38 (by decide) ?_
        refine lv_istore (lv' := [(5, .int 0), (4, .int 0), (0, .ref a0), (1, .int v1), (2, .int v2), (3, .int v3)]) hx hb dX5_odds_39 hl (by decide) rfl (fun ls hl => ?_)
        refine lX5_odds_41 (l := l) (e := e) (below := below) C0 F _ nw kp ad fd tp kn it wd sz nm mv ik td bg en so va iw im st ht v1 v2 v3 z0 z1 hD (fun w_12 H locs hP hS ls hl h => ?_) F 0 0 _ _ hP hS _ (lv_sub hl [2, 3, 4, 5, 1, 0] rfl) h
        refine lv_bipush (v := 16) hx hb dX5_odds_74 (by decide) ?_
        refine lv_istore (lv' := [(5, .int 16), (2, .int v2), (3, .int v3), (4, .int w_12)]) hx hb dX5_odds_76 hl (by decide) rfl (fun ls hl => ?_)
        refine lv_iload hx hb dX5_odds_78 (lv_at hl 3 rfl) ?_
        refine lv_istore (lv' := [(6, .int w_12), (5, .int 16), (2, .int v2), (3, .int v3), (4, .int w_12)]) hx hb dX5_odds_80 hl (by decide) rfl (fun ls hl => ?_)
        refine lX5_odds_82 (l := l) (e := e) (below := below) C0 F _ nw kp ad fd tp kn it wd sz nm mv ik td bg en so va iw im st ht v2 v3 w_12 z0 z1 hD (fun w_15 H locs hP hS ls hl h => ?_) F 16 w_12 _ _ hP hS _ (lv_sub hl [2, 3, 4, 1, 0] rfl) h
        refine lv_lconst (v := 1) hx hb dX5_odds_105 (by decide) ?_
        refine lv_lstore (lv' := [(7, .long 1), (2, .int v2), (3, .int v3), (4, .int w_12), (5, .int w_15)]) hx hb dX5_odds_106 hl (by decide) rfl (fun ls hl => ?_)
        refine lv_iconst (v := 0) hx hb dX5_odds_108 (by decide) ?_
        refine lv_istore (lv' := [(9, .int 0), (7, .long 1), (2, .int v2), (3, .int v3), (4, .int w_12), (5, .int w_15)]) hx hb dX5_odds_109 hl (by decide) rfl (fun ls hl => ?_)
        exact lX5_odds_111 (l := l) (e := e) (below := below) C0 F nw kp ad fd tp kn it wd sz nm mv ik td bg en so va iw im st ht v2 v3 w_12 w_15 z0 z1 hD F 1 0 _ _ hP hS _ (lv_sub hl [2, 3, 4, 5, 1, 0] rfl) h
      · have h := ifp c_7 h
        refine lv_aload_n hx hb dX5_odds_27 rfl (lv_at hl 0 rfl) ?_
        refine lv_ldc (v := (-1000001)) hx hb hown (hts _ (List.mem_of_getElem? (i := 1) rfl)) dX5_odds_28 ?_
        obtain ⟨z_20, e_21, h⟩ := bds h
        have hPc := hP.sub (ws' := (wX5 cI cS a0 a1 a2 a3 a4 a5 a6 a7 a8 a9 a10 a11 nw kp ad fd tp kn it wd sz nm mv ik td bg en so va iw im st ht)) [0, 1, 2, 3, 4, 5, 6, 7, 8, 9, 10, 11] rfl
        refine kMi (wf' := (wX5 cI cS a0 a1 a2 a3 a4 a5 a6 a7 a8 a9 a10 a11 nw kp ad z_20.2 tp kn it wd sz nm mv ik td bg en so va iw im st ht)) [0, 1, 2, 3, 4, 5, 6, 7, 8, 9, 10, 11] [some 0, some 1, some 2, some 3, some 4, some 5, some 6, some 7, some 8, some 9, some 10, some 11] (rV C0 (tX5_finding l D cI cS a0 a1 a2 a3 a4 a5 a6 a7 a8 a9 a10 a11 nw kp ad fd tp kn it wd sz nm mv ik td bg en so va iw im st ht (-1000001) z_20.1 z_20.2 e_21 (((hD (wX5 cI cS a0 a1 a2 a3 a4 a5 a6 a7 a8 a9 a10 a11 nw kp ad fd tp kn it wd sz nm mv ik td bg en so va iw im st ht) rfl).sub [0, 1, 2, 3, 4, 5, 6, 7, 8, 9, 10, 11] (by decide) rfl).weaken (fun _ _ _ _ => trivial))) RX5 gX5_odds_X5_finding rfl ⟨rfl, rfl⟩ pdX5_finding rfl ⟨Nat.le_of_ble_eq_true rfl, Nat.le_of_ble_eq_true rfl⟩ (fun _ _ _ _ q => q) (va_recv hE.1 hPc (ci := 4) (q0 := 0) rfl rfl) (fun U hU _ _ => by rw [hU]; exact hPc) hl.1 rfl (Nat.le_of_ble_eq_true rfl) dX5_odds_30 ⟨Nat.zero_le _, Nat.zero_le _⟩) hP (hD _ rfl) hS rfl rfl rfl (fun H locs hP hS => ?_)
        refine lv_i2l (v := z_20.1.toInt64) hx hb dX5_odds_33 rfl ?_
        obtain ⟨q0, q1⟩ := Prod.mk.inj (Option.some.inj h)
        subst q0 q1
        exact eMl C0 hP hS rfl rfl dX5_odds_34
