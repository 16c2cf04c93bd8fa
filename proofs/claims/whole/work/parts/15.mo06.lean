def fX5_seed (nw : Nat → Int32) (v1 : Int32) : Option (Int32 × (Nat → Int32)) := Option.bind (fX5_become nw 2 v1) (fun z_1 => some (z_1.1, z_1.2))
abbrev rmX5_seed : Room := { frames := 1, cells := 0, slots := 0, locals := 23 }
theorem pdX5_seed : (yX5_seed.cls = RX5 ∧ yX5_seed.cls ≠ "java/lang/invoke/MethodHandle" ∧ yX5_seed.cls ≠ "java/lang/invoke/VarHandle" ∧ (parseMethodDescriptor yX5_seed.desc).map (fun d => d.parameters.length) = some 1) := by decide +kernel
set_option maxHeartbeats 4000000 in
set_option maxRecDepth 100000 in
theorem tX5_seed (l : Launch) (D : va_G) (cI cS : ClassId) (a0 a1 a2 a3 a4 a5 a6 a7 a8 a9 a10 a11 : Nat) (nw : Nat → Int32) (kp : Nat → Int32) (ad : Nat → Int32) (fd : Nat → Int32) (tp : Nat → Int32) (kn : Nat → Option Nat) (it : Nat → Int32) (wd : Nat → Int32) (sz : Nat → Int32) (nm : Nat → Int32) (mv : Nat → Int32) (ik : Int32) (td : Int32) (bg : Int32) (en : Int32) (so : Int32) (va : Int32) (iw : Int32) (im : Int32) (st : Int32) (ht : Int32) (v1 : Int32) (z0 : Int32) (z1 : Nat → Int32) (h : fX5_seed nw v1 = some (z0, z1)) (hD0 : va_D (fun _ => True) (wX5 cI cS a0 a1 a2 a3 a4 a5 a6 a7 a8 a9 a10 a11 nw kp ad fd tp kn it wd sz nm mv ik td bg en so va iw im st ht)) : Met l yX5_seed wsX5_seed rmX5_seed (PZ D cI cS [.ref a0, .int v1] (fun U => va_P D vwCl (wX5 cI cS a0 a1 a2 a3 a4 a5 a6 a7 a8 a9 a10 a11 nw kp ad fd tp kn it wd sz nm mv ik td bg en so va iw im st ht) U.heap)) (qI D (wX5 cI cS a0 a1 a2 a3 a4 a5 a6 a7 a8 a9 a10 a11 nw kp ad fd tp kn it wd sz nm mv ik td bg en so va iw im st ht) (wX5 cI cS a0 a1 a2 a3 a4 a5 a6 a7 a8 a9 a10 a11 z1 kp ad fd tp kn it wd sz nm mv ik td bg en so va iw im st ht) z0) 0 0 (wA (wX5 cI cS a0 a1 a2 a3 a4 a5 a6 a7 a8 a9 a10 a11 nw kp ad fd tp kn it wd sz nm mv ik td bg en so va iw im st ht)) := by
  refine Met.mk RX5 (by decide) rfl rfl (Nat.le_of_ble_eq_true rfl) ?_
  intro p e s m below meth c ls C0 hP hl
  have hl : lv_has ls 2 [(0, .ref a0), (1, .int v1)] := hl
  obtain ⟨hx, hb, hr, hml, hown, hts, hlk, hE⟩ := id C0
  have hD : ∀ W : va_W, W.map Prod.fst = [a0, a1, a2, a3, a4, a5, a6, a7, a8, a9, a10, a11] → va_D (wA (wX5 cI cS a0 a1 a2 a3 a4 a5 a6 a7 a8 a9 a10 a11 nw kp ad fd tp kn it wd sz nm mv ik td bg en so va iw im st ht)) W := fun W hW => hD0.own.re hW
  have hS : va_S (wA (wX5 cI cS a0 a1 a2 a3 a4 a5 a6 a7 a8 a9 a10 a11 nw kp ad fd tp kn it wd sz nm mv ik td bg en so va iw im st ht)) s.heap s.heap [] := va_S.rf
  have hP : va_P D vwCl (wX5 cI cS a0 a1 a2 a3 a4 a5 a6 a7 a8 a9 a10 a11 nw kp ad fd tp kn it wd sz nm mv ik td bg en so va iw im st ht) s.heap := hP
  rw [fX5_seed] at h
  refine lv_aload_n hx hb dX5_seed_0 rfl (lv_at hl 0 rfl) ?_
  refine lv_iconst (v := 2) hx hb dX5_seed_1 (by decide) ?_
  refine lv_iload_n hx hb dX5_seed_2 rfl (lv_at hl 1 rfl) ?_
  obtain ⟨z_1, e_2, h⟩ := bds h
  have hPc := hP.sub (ws' := (wX5 cI cS a0 a1 a2 a3 a4 a5 a6 a7 a8 a9 a10 a11 nw kp ad fd tp kn it wd sz nm mv ik td bg en so va iw im st ht)) [0, 1, 2, 3, 4, 5, 6, 7, 8, 9, 10, 11] rfl
  refine kMi (wf' := (wX5 cI cS a0 a1 a2 a3 a4 a5 a6 a7 a8 a9 a10 a11 z_1.2 kp ad fd tp kn it wd sz nm mv ik td bg en so va iw im st ht)) [0, 1, 2, 3, 4, 5, 6, 7, 8, 9, 10, 11] [some 0, some 1, some 2, some 3, some 4, some 5, some 6, some 7, some 8, some 9, some 10, some 11] (rV C0 (tX5_become l D cI cS a0 a1 a2 a3 a4 a5 a6 a7 a8 a9 a10 a11 nw kp ad fd tp kn it wd sz nm mv ik td bg en so va iw im st ht 2 v1 z_1.1 z_1.2 e_2 (((hD (wX5 cI cS a0 a1 a2 a3 a4 a5 a6 a7 a8 a9 a10 a11 nw kp ad fd tp kn it wd sz nm mv ik td bg en so va iw im st ht) rfl).sub [0, 1, 2, 3, 4, 5, 6, 7, 8, 9, 10, 11] (by decide) rfl).weaken (fun _ _ _ _ => trivial))) RX5 gX5_seed_X5_become rfl ⟨rfl, rfl⟩ pdX5_become rfl ⟨Nat.le_of_ble_eq_true rfl, Nat.le_of_ble_eq_true rfl⟩ (fun _ _ _ _ q => q) (va_recv hE.1 hPc (ci := 4) (q0 := 0) rfl rfl) (fun U hU _ _ => by rw [hU]; exact hPc) hl.1 rfl (Nat.le_of_ble_eq_true rfl) dX5_seed_3 ⟨Nat.zero_le _, Nat.zero_le _⟩) hP (hD _ rfl) hS rfl rfl rfl (fun H locs hP hS => ?_)
  obtain ⟨q0, q1⟩ := Prod.mk.inj (Option.some.inj h)
  subst q0 q1
  exact eMi C0 hP hS rfl rfl dX5_seed_6
def fX5_feed_38 (fd : Nat → Int32) (v1 : Int32) : Nat → Int32 → (Nat → Int32) → Int32 → Option (Int32 × (Nat → Int32) × (Nat → Int32) × Int32)
  | 0, _, _, _ => none
  | n + 1, v3, tp, td => (if v3 < 0 then some (td, fd, tp, td) else if ¬ (td < 0 ∨ 120 ≤ td.toNatClampNeg) then fX5_feed_38 fd v1 n (v3 + (-1)) (upd tp td.toNatClampNeg ((v1 >>> ((8 * v3) &&& 31)) &&& 255)) (td + 1) else none)
def fX5_feed (F : Nat) (fd : Nat → Int32) (tp : Nat → Int32) (td : Int32) (v1 : Int32) (v2 : Int32) : Option (Int32 × (Nat → Int32) × (Nat → Int32) × Int32) := (if (fX5_within v2 1 4) = 0 then Option.bind (fX5_finding fd (-1000001)) (fun z_7 => some (z_7.1, z_7.2, tp, td)) else (if (td + v2) ≤ 120 then fX5_feed_38 fd v1 F (v2 - 1) tp td else Option.bind (fX5_finding fd (-1000002)) (fun z_5 => some (z_5.1, z_5.2, tp, td))))
abbrev rmX5_feed : Room := { frames := 1, cells := 0, slots := 0, locals := 22 }
theorem pdX5_feed : (yX5_feed.cls = RX5 ∧ yX5_feed.cls ≠ "java/lang/invoke/MethodHandle" ∧ yX5_feed.cls ≠ "java/lang/invoke/VarHandle" ∧ (parseMethodDescriptor yX5_feed.desc).map (fun d => d.parameters.length) = some 2) := by decide +kernel
set_option maxHeartbeats 4000000 in
set_option maxRecDepth 100000 in
theorem lX5_feed_38 {p : Program} {l : Launch} {e : Env} {s : State} {m : MethodId} {av : Array Value} {below : List Frame} {meth : Method} {c : Code} {D : va_G} {cI cS : ClassId} {a0 a1 a2 a3 a4 a5 a6 a7 a8 a9 a10 a11 : Nat} {W0 : va_W} (C0 : CX p s m av meth c RX5 cX5_feed 4 (some .int) wsX5_feed D cI cS) (F : Nat) (nw : Nat → Int32) (kp : Nat → Int32) (ad : Nat → Int32) (fd : Nat → Int32) (kn : Nat → Option Nat) (it : Nat → Int32) (wd : Nat → Int32) (sz : Nat → Int32) (nm : Nat → Int32) (mv : Nat → Int32) (ik : Int32) (bg : Int32) (en : Int32) (so : Int32) (va : Int32) (iw : Int32) (im : Int32) (st : Int32) (ht : Int32) (v1 : Int32) (z0 : Int32) (z1 : Nat → Int32) (z2 : Nat → Int32) (z3 : Int32) (hD : ∀ W : va_W, W.map Prod.fst = [a0, a1, a2, a3, a4, a5, a6, a7, a8, a9, a10, a11] → va_D (wA W0) W) : ∀ (n : Nat) (v3 : Int32) (tp : Nat → Int32) (td : Int32) (H : Heap) (locs : List Loc), va_P D vwCl (wX5 cI cS a0 a1 a2 a3 a4 a5 a6 a7 a8 a9 a10 a11 nw kp ad fd tp kn it wd sz nm mv ik td bg en so va iw im st ht) H → va_S (wA W0) s.heap H locs → ∀ (ls : Array Slot), lv_has ls 4 [(0, .ref a0), (1, .int v1), (3, .int v3)] → fX5_feed_38 fd v1 n v3 tp td = some (z0, z1, z2, z3) → W p l e rmX5_feed s m av below meth c H locs 0 0 (MQ below (qI D W0 (wX5 cI cS a0 a1 a2 a3 a4 a5 a6 a7 a8 a9 a10 a11 nw kp ad z1 z2 kn it wd sz nm mv ik z3 bg en so va iw im st ht) z0) av s 0 0 (wA W0)) (F0 m 38 ls []) := by
  obtain ⟨hx, hb, hr, hml, hown, hts, hlk, hE⟩ := id C0
  have hinX5 : ∀ w ∈ u_ws RX5 TX5 21, w ∈ wsX5_feed := by decide +kernel
  intro n
  induction n with
  | zero =>
    intro v3 tp td H locs hP hS ls hl h
    cases (show none = some (z0, z1, z2, z3) from h)
  | succ n ih =>
    intro v3 tp td H locs hP hS ls hl h
    rw [fX5_feed_38] at h
    refine lv_iload_n hx hb dX5_feed_38 rfl (lv_at hl 2 rfl) ?_
    refine lv_if_lt (tgt := 77) hx hb dX5_feed_39 (by decide) (fun c_3 => ?_) (fun c_3 => ?_)
    · have h := ifp c_3 h
      refine lv_aload_n hx hb dX5_feed_77 rfl (lv_at hl 0 rfl) ?_
      refine va_get (D := D) (ci := 4) (v := .int td) (C := RX5) (T := TX5) (N := 21) hx hb hts hinX5 hown hE.1 hP 0 rfl rfl 6 (by decide) (hts _ (List.mem_of_getElem? (i := 2) rfl)) (fun _ h9 => h9) rfl dX5_feed_78 ?_
      obtain ⟨q0, g0⟩ := Prod.mk.inj (Option.some.inj h)
      obtain ⟨q1, g1⟩ := Prod.mk.inj g0
      obtain ⟨q2, q3⟩ := Prod.mk.inj g1
      subst q0 q1 q2 q3
      exact eMi C0 hP hS rfl rfl dX5_feed_81
    · have h := ifn c_3 h
      refine lv_aload_n hx hb dX5_feed_42 rfl (lv_at hl 0 rfl) ?_
      refine va_get (D := D) (ci := 4) (v := .ref a5) (C := RX5) (T := TX5) (N := 21) hx hb hts hinX5 hown hE.1 hP 0 rfl rfl 5 (by decide) (hts _ (List.mem_of_getElem? (i := 4) rfl)) (fun _ h9 => h9) rfl dX5_feed_43 ?_
      refine lv_aload_n hx hb dX5_feed_46 rfl (lv_at hl 0 rfl) ?_
      refine va_get (D := D) (ci := 4) (v := .int td) (C := RX5) (T := TX5) (N := 21) hx hb hts hinX5 hown hE.1 hP 0 rfl rfl 6 (by decide) (hts _ (List.mem_of_getElem? (i := 2) rfl)) (fun _ h9 => h9) rfl dX5_feed_47 ?_
      refine lv_iload_n hx hb dX5_feed_50 rfl (lv_at hl 1 rfl) ?_
      refine lv_bipush (v := 8) hx hb dX5_feed_51 (by decide) ?_
      refine lv_iload_n hx hb dX5_feed_53 rfl (lv_at hl 2 rfl) ?_
      refine lv_imul hx hb dX5_feed_54 ?_
      refine lv_ishr hx hb dX5_feed_55 ?_
      refine lv_sipush (v := 255) hx hb dX5_feed_56 (by decide) ?_
      refine lv_iand hx hb dX5_feed_59 ?_
      obtain ⟨hi_4, h⟩ := ifs h
      refine va_iast hx hb hE.1 hP (hD _ rfl) hS 5 0 rfl rfl hi_4 dX5_feed_60 (fun H locs hP _ hS => ?_)
      have hP : va_P D vwCl (wX5 cI cS a0 a1 a2 a3 a4 a5 a6 a7 a8 a9 a10 a11 nw kp ad fd (upd tp td.toNatClampNeg ((v1 >>> ((8 * v3) &&& 31)) &&& 255)) kn it wd sz nm mv ik td bg en so va iw im st ht) H := hP
      refine lv_aload_n hx hb dX5_feed_61 rfl (lv_at hl 0 rfl) ?_
      refine lv_dup hx hb dX5_feed_62 rfl ?_
      refine va_get (D := D) (ci := 4) (v := .int td) (C := RX5) (T := TX5) (N := 21) hx hb hts hinX5 hown hE.1 hP 0 rfl rfl 6 (by decide) (hts _ (List.mem_of_getElem? (i := 2) rfl)) (fun _ h9 => h9) rfl dX5_feed_63 ?_
      refine lv_iconst (v := 1) hx hb dX5_feed_66 (by decide) ?_
      refine lv_iadd hx hb dX5_feed_67 ?_
      refine va_put (D := D) (ci := 4) (v := .int (td + 1)) (ty := .int) (C := RX5) (T := TX5) (N := 21) hx hb hts hinX5 tyX5 tyX5_ok nmX5 hown hE.1 hP (hD _ rfl) hS 0 rfl rfl 6 (by decide) (hts _ (List.mem_of_getElem? (i := 2) rfl)) (fun _ h9 => h9) rfl (by decide +kernel) rfl rfl (Nat.le_of_ble_eq_true rfl) dX5_feed_68 (fun H locs hP _ hS => ?_)
      have hP : va_P D vwCl (wX5 cI cS a0 a1 a2 a3 a4 a5 a6 a7 a8 a9 a10 a11 nw kp ad fd (upd tp td.toNatClampNeg ((v1 >>> ((8 * v3) &&& 31)) &&& 255)) kn it wd sz nm mv ik (td + 1) bg en so va iw im st ht) H := hP
      refine lv_iinc (v := v3 + (-1)) (lv' := [(3, .int (v3 + (-1))), (0, .ref a0), (1, .int v1)]) hx hb dX5_feed_71 hl (k := 2) rfl rfl (by decide) rfl (fun ls hl => ?_)
      refine lv_goto (tgt := 38) hx hb dX5_feed_74 (by decide) ?_
      exact ih (v3 + (-1)) (upd tp td.toNatClampNeg ((v1 >>> ((8 * v3) &&& 31)) &&& 255)) (td + 1) _ _ hP hS _ (lv_sub hl [1, 2, 0] rfl) h
set_option maxHeartbeats 4000000 in
set_option maxRecDepth 100000 in
theorem tX5_feed (l : Launch) (D : va_G) (cI cS : ClassId) (F : Nat) (a0 a1 a2 a3 a4 a5 a6 a7 a8 a9 a10 a11 : Nat) (nw : Nat → Int32) (kp : Nat → Int32) (ad : Nat → Int32) (fd : Nat → Int32) (tp : Nat → Int32) (kn : Nat → Option Nat) (it : Nat → Int32) (wd : Nat → Int32) (sz : Nat → Int32) (nm : Nat → Int32) (mv : Nat → Int32) (ik : Int32) (td : Int32) (bg : Int32) (en : Int32) (so : Int32) (va : Int32) (iw : Int32) (im : Int32) (st : Int32) (ht : Int32) (v1 : Int32) (v2 : Int32) (z0 : Int32) (z1 : Nat → Int32) (z2 : Nat → Int32) (z3 : Int32) (h : fX5_feed F fd tp td v1 v2 = some (z0, z1, z2, z3)) (hD0 : va_D (fun _ => True) (wX5 cI cS a0 a1 a2 a3 a4 a5 a6 a7 a8 a9 a10 a11 nw kp ad fd tp kn it wd sz nm mv ik td bg en so va iw im st ht)) : Met l yX5_feed wsX5_feed rmX5_feed (PZ D cI cS [.ref a0, .int v1, .int v2] (fun U => va_P D vwCl (wX5 cI cS a0 a1 a2 a3 a4 a5 a6 a7 a8 a9 a10 a11 nw kp ad fd tp kn it wd sz nm mv ik td bg en so va iw im st ht) U.heap)) (qI D (wX5 cI cS a0 a1 a2 a3 a4 a5 a6 a7 a8 a9 a10 a11 nw kp ad fd tp kn it wd sz nm mv ik td bg en so va iw im st ht) (wX5 cI cS a0 a1 a2 a3 a4 a5 a6 a7 a8 a9 a10 a11 nw kp ad z1 z2 kn it wd sz nm mv ik z3 bg en so va iw im st ht) z0) 0 0 (wA (wX5 cI cS a0 a1 a2 a3 a4 a5 a6 a7 a8 a9 a10 a11 nw kp ad fd tp kn it wd sz nm mv ik td bg en so va iw im st ht)) := by
  refine Met.mk RX5 (by decide) rfl rfl (Nat.le_of_ble_eq_true rfl) ?_
  intro p e s m below meth c ls C0 hP hl
  have hl : lv_has ls 4 [(0, .ref a0), (1, .int v1), (2, .int v2)] := hl
  obtain ⟨hx, hb, hr, hml, hown, hts, hlk, hE⟩ := id C0
  have hinX5 : ∀ w ∈ u_ws RX5 TX5 21, w ∈ wsX5_feed := by decide +kernel
  have hD : ∀ W : va_W, W.map Prod.fst = [a0, a1, a2, a3, a4, a5, a6, a7, a8, a9, a10, a11] → va_D (wA (wX5 cI cS a0 a1 a2 a3 a4 a5 a6 a7 a8 a9 a10 a11 nw kp ad fd tp kn it wd sz nm mv ik td bg en so va iw im st ht)) W := fun W hW => hD0.own.re hW
  have hS : va_S (wA (wX5 cI cS a0 a1 a2 a3 a4 a5 a6 a7 a8 a9 a10 a11 nw kp ad fd tp kn it wd sz nm mv ik td bg en so va iw im st ht)) s.heap s.heap [] := va_S.rf
  have hP : va_P D vwCl (wX5 cI cS a0 a1 a2 a3 a4 a5 a6 a7 a8 a9 a10 a11 nw kp ad fd tp kn it wd sz nm mv ik td bg en so va iw im st ht) s.heap := hP
  rw [fX5_feed] at h
  refine lv_iload_n hx hb dX5_feed_0 rfl (lv_at hl 2 rfl) ?_
  refine lv_iconst (v := 1) hx hb dX5_feed_1 (by decide) ?_
  refine lv_iconst (v := 4) hx hb dX5_feed_2 (by decide) ?_
  refine kRi (rS C0 (tX5_within l D cI cS v2 1 4 (fX5_within v2 1 4) rfl) gX5_feed_X5_within rfl ⟨rfl, rfl⟩ pdX5_within rfl ⟨Nat.le_of_ble_eq_true rfl, Nat.le_of_ble_eq_true rfl⟩ (fun _ _ _ _ q => q) (fun _ _ _ _ => vp0) hl.1 rfl (Nat.le_of_ble_eq_true rfl) dX5_feed_3 ⟨Nat.zero_le _, Nat.zero_le _⟩) ?_
  refine lv_if_ne (tgt := 16) hx hb dX5_feed_6 (by decide) (fun c_1 => ?_) (fun c_1 => ?_)
  · have h := ifn c_1 h
    refine lv_aload_n hx hb dX5_feed_16 rfl (lv_at hl 0 rfl) ?_
    refine va_get (D := D) (ci := 4) (v := .int td) (C := RX5) (T := TX5) (N := 21) hx hb hts hinX5 hown hE.1 hP 0 rfl rfl 6 (by decide) (hts _ (List.mem_of_getElem? (i := 2) rfl)) (fun _ h9 => h9) rfl dX5_feed_17 ?_
    refine lv_iload_n hx hb dX5_feed_20 rfl (lv_at hl 2 rfl) ?_
    refine lv_iadd hx hb dX5_feed_21 ?_
    refine lv_bipush (v := 120) hx hb dX5_feed_22 (by decide) ?_
    refine lv_icmp_le (tgt := 34) hx hb dX5_feed_24 (by decide) (fun c_2 => ?_) (fun c_2 => ?_)
    · have h := ifp c_2 h
      refine lv_iload_n hx hb dX5_feed_34 rfl (lv_at hl 2 rfl) ?_
      refine lv_iconst (v := 1) hx hb dX5_feed_35 (by decide) ?_
      refine lv_isub hx hb dX5_feed_36 ?_
      refine lv_istore_n (lv' := [(3, .int (v2 - 1)), (0, .ref a0), (1, .int v1), (2, .int v2)]) hx hb dX5_feed_37 rfl hl (by decide) rfl (fun ls hl => ?_)
      exact lX5_feed_38 (l := l) (e := e) (below := below) C0 F nw kp ad fd kn it wd sz nm mv ik bg en so va iw im st ht v1 z0 z1 z2 z3 hD F (v2 - 1) tp td _ _ hP hS _ (lv_sub hl [1, 2, 0] rfl) h
    · have h := ifn c_2 h
      refine lv_aload_n hx hb dX5_feed_27 rfl (lv_at hl 0 rfl) ?_
      refine lv_ldc (v := (-1000002)) hx hb hown (hts _ (List.mem_of_getElem? (i := 3) rfl)) dX5_feed_28 ?_
      obtain ⟨z_5, e_6, h⟩ := bds h
      have hPc := hP.sub (ws' := (wX5 cI cS a0 a1 a2 a3 a4 a5 a6 a7 a8 a9 a10 a11 nw kp ad fd tp kn it wd sz nm mv ik td bg en so va iw im st ht)) [0, 1, 2, 3, 4, 5, 6, 7, 8, 9, 10, 11] rfl
      refine kMi (wf' := (wX5 cI cS a0 a1 a2 a3 a4 a5 a6 a7 a8 a9 a10 a11 nw kp ad z_5.2 tp kn it wd sz nm mv ik td bg en so va iw im st ht)) [0, 1, 2, 3, 4, 5, 6, 7, 8, 9, 10, 11] [some 0, some 1, some 2, some 3, some 4, some 5, some 6, some 7, some 8, some 9, some 10, some 11] (rV C0 (tX5_finding l D cI cS a0 a1 a2 a3 a4 a5 a6 a7 a8 a9 a10 a11 nw kp ad fd tp kn it wd sz nm mv ik td bg en so va iw im st ht (-1000002) z_5.1 z_5.2 e_6 (((hD (wX5 cI cS a0 a1 a2 a3 a4 a5 a6 a7 a8 a9 a10 a11 nw kp ad fd tp kn it wd sz nm mv ik td bg en so va iw im st ht) rfl).sub [0, 1, 2, 3, 4, 5, 6, 7, 8, 9, 10, 11] (by decide) rfl).weaken (fun _ _ _ _ => trivial))) RX5 gX5_feed_X5_finding rfl ⟨rfl, rfl⟩ pdX5_finding rfl ⟨Nat.le_of_ble_eq_true rfl, Nat.le_of_ble_eq_true rfl⟩ (fun _ _ _ _ q => q) (va_recv hE.1 hPc (ci := 4) (q0 := 0) rfl rfl) (fun U hU _ _ => by rw [hU]; exact hPc) hl.1 rfl (Nat.le_of_ble_eq_true rfl) dX5_feed_30 ⟨Nat.zero_le _, Nat.zero_le _⟩) hP (hD _ rfl) hS rfl rfl rfl (fun H locs hP hS => ?_)
      obtain ⟨q0, g0⟩ := Prod.mk.inj (Option.some.inj h)
      obtain ⟨q1, g1⟩ := Prod.mk.inj g0
      obtain ⟨q2, q3⟩ := Prod.mk.inj g1
      subst q0 q1 q2 q3
      exact eMi C0 hP hS rfl rfl dX5_feed_33
  · have h := ifp c_1 h
    refine lv_aload_n hx hb dX5_feed_9 rfl (lv_at hl 0 rfl) ?_
    refine lv_ldc (v := (-1000001)) hx hb hown (hts _ (List.mem_of_getElem? (i := 1) rfl)) dX5_feed_10 ?_
    obtain ⟨z_7, e_8, h⟩ := bds h
    have hPc := hP.sub (ws' := (wX5 cI cS a0 a1 a2 a3 a4 a5 a6 a7 a8 a9 a10 a11 nw kp ad fd tp kn it wd sz nm mv ik td bg en so va iw im st ht)) [0, 1, 2, 3, 4, 5, 6, 7, 8, 9, 10, 11] rfl
    refine kMi (wf' := (wX5 cI cS a0 a1 a2 a3 a4 a5 a6 a7 a8 a9 a10 a11 nw kp ad z_7.2 tp kn it wd sz nm mv ik td bg en so va iw im st ht)) [0, 1, 2, 3, 4, 5, 6, 7, 8, 9, 10, 11] [some 0, some 1, some 2, some 3, some 4, some 5, some 6, some 7, some 8, some 9, some 10, some 11] (rV C0 (tX5_finding l D cI cS a0 a1 a2 a3 a4 a5 a6 a7 a8 a9 a10 a11 nw kp ad fd tp kn it wd sz nm mv ik td bg en so va iw im st ht (-1000001) z_7.1 z_7.2 e_8 (((hD (wX5 cI cS a0 a1 a2 a3 a4 a5 a6 a7 a8 a9 a10 a11 nw kp ad fd tp kn it wd sz nm mv ik td bg en so va iw im st ht) rfl).sub [0, 1, 2, 3, 4, 5, 6, 7, 8, 9, 10, 11] (by decide) rfl).weaken (fun _ _ _ _ => trivial))) RX5 gX5_feed_X5_finding rfl ⟨rfl, rfl⟩ pdX5_finding rfl ⟨Nat.le_of_ble_eq_true rfl, Nat.le_of_ble_eq_true rfl⟩ (fun _ _ _ _ q => q) (va_recv hE.1 hPc (ci := 4) (q0 := 0) rfl rfl) (fun U hU _ _ => by rw [hU]; exact hPc) hl.1 rfl (Nat.le_of_ble_eq_true rfl) dX5_feed_12 ⟨Nat.zero_le _, Nat.zero_le _⟩) hP (hD _ rfl) hS rfl rfl rfl (fun H locs hP hS => ?_)
    obtain ⟨q0, g0⟩ := Prod.mk.inj (Option.some.inj h)
    obtain ⟨q1, g1⟩ := Prod.mk.inj g0
    obtain ⟨q2, q3⟩ := Prod.mk.inj g1
    subst q0 q1 q2 q3
    exact eMi C0 hP hS rfl rfl dX5_feed_15
def fX5_wipe (td : Int32) : Int32 × Int32 := (td, 0)
def fX5_wipe_o0 (td : Int32) : Int32 := (fX5_wipe td).1
def fX5_wipe_o1 (td : Int32) : Int32 := (fX5_wipe td).2
theorem eeX5_wipe (td : Int32) : fX5_wipe td = (fX5_wipe_o0 td, fX5_wipe_o1 td) := rfl
abbrev rmX5_wipe : Room := { frames := 0, cells := 0, slots := 0, locals := 0 }
theorem pdX5_wipe : (yX5_wipe.cls = RX5 ∧ yX5_wipe.cls ≠ "java/lang/invoke/MethodHandle" ∧ yX5_wipe.cls ≠ "java/lang/invoke/VarHandle" ∧ (parseMethodDescriptor yX5_wipe.desc).map (fun d => d.parameters.length) = some 0) := by decide +kernel
set_option maxHeartbeats 4000000 in
set_option maxRecDepth 100000 in
theorem tX5_wipe (l : Launch) (D : va_G) (cI cS : ClassId) (a0 a1 a2 a3 a4 a5 a6 a7 a8 a9 a10 a11 : Nat) (nw : Nat → Int32) (kp : Nat → Int32) (ad : Nat → Int32) (fd : Nat → Int32) (tp : Nat → Int32) (kn : Nat → Option Nat) (it : Nat → Int32) (wd : Nat → Int32) (sz : Nat → Int32) (nm : Nat → Int32) (mv : Nat → Int32) (ik : Int32) (td : Int32) (bg : Int32) (en : Int32) (so : Int32) (va : Int32) (iw : Int32) (im : Int32) (st : Int32) (ht : Int32) (z0 : Int32) (z1 : Int32) (h : fX5_wipe td = (z0, z1)) (hD0 : va_D (fun _ => True) (wX5 cI cS a0 a1 a2 a3 a4 a5 a6 a7 a8 a9 a10 a11 nw kp ad fd tp kn it wd sz nm mv ik td bg en so va iw im st ht)) : Met l yX5_wipe wsX5_wipe rmX5_wipe (PZ D cI cS [.ref a0] (fun U => va_P D vwCl (wX5 cI cS a0 a1 a2 a3 a4 a5 a6 a7 a8 a9 a10 a11 nw kp ad fd tp kn it wd sz nm mv ik td bg en so va iw im st ht) U.heap)) (qI D (wX5 cI cS a0 a1 a2 a3 a4 a5 a6 a7 a8 a9 a10 a11 nw kp ad fd tp kn it wd sz nm mv ik td bg en so va iw im st ht) (wX5 cI cS a0 a1 a2 a3 a4 a5 a6 a7 a8 a9 a10 a11 nw kp ad fd tp kn it wd sz nm mv ik z1 bg en so va iw im st ht) z0) 0 0 (wA (wX5 cI cS a0 a1 a2 a3 a4 a5 a6 a7 a8 a9 a10 a11 nw kp ad fd tp kn it wd sz nm mv ik td bg en so va iw im st ht)) := by
  refine Met.mk RX5 (by decide) rfl rfl (Nat.le_of_ble_eq_true rfl) ?_
  intro p e s m below meth c ls C0 hP hl
  have hl : lv_has ls 2 [(0, .ref a0)] := hl
  obtain ⟨hx, hb, hr, hml, hown, hts, hlk, hE⟩ := id C0
  have hinX5 : ∀ w ∈ u_ws RX5 TX5 21, w ∈ wsX5_wipe := by decide +kernel
  have hD : ∀ W : va_W, W.map Prod.fst = [a0, a1, a2, a3, a4, a5, a6, a7, a8, a9, a10, a11] → va_D (wA (wX5 cI cS a0 a1 a2 a3 a4 a5 a6 a7 a8 a9 a10 a11 nw kp ad fd tp kn it wd sz nm mv ik td bg en so va iw im st ht)) W := fun W hW => hD0.own.re hW
  have hS : va_S (wA (wX5 cI cS a0 a1 a2 a3 a4 a5 a6 a7 a8 a9 a10 a11 nw kp ad fd tp kn it wd sz nm mv ik td bg en so va iw im st ht)) s.heap s.heap [] := va_S.rf
  have hP : va_P D vwCl (wX5 cI cS a0 a1 a2 a3 a4 a5 a6 a7 a8 a9 a10 a11 nw kp ad fd tp kn it wd sz nm mv ik td bg en so va iw im st ht) s.heap := hP
  rw [fX5_wipe] at h
  refine lv_aload_n hx hb dX5_wipe_0 rfl (lv_at hl 0 rfl) ?_
  refine va_get (D := D) (ci := 4) (v := .int td) (C := RX5) (T := TX5) (N := 21) hx hb hts hinX5 hown hE.1 hP 0 rfl rfl 6 (by decide) (hts _ (List.mem_of_getElem? (i := 1) rfl)) (fun _ h9 => h9) rfl dX5_wipe_1 ?_
  refine lv_istore_n (lv' := [(1, .int td), (0, .ref a0)]) hx hb dX5_wipe_4 rfl hl (by decide) rfl (fun ls hl => ?_)
  refine lv_aload_n hx hb dX5_wipe_5 rfl (lv_at hl 1 rfl) ?_
  refine lv_iconst (v := 0) hx hb dX5_wipe_6 (by decide) ?_
  refine va_put (D := D) (ci := 4) (v := .int 0) (ty := .int) (C := RX5) (T := TX5) (N := 21) hx hb hts hinX5 tyX5 tyX5_ok nmX5 hown hE.1 hP (hD _ rfl) hS 0 rfl rfl 6 (by decide) (hts _ (List.mem_of_getElem? (i := 1) rfl)) (fun _ h9 => h9) rfl (by decide +kernel) rfl rfl (Nat.le_of_ble_eq_true rfl) dX5_wipe_7 (fun H locs hP _ hS => ?_)
  have hP : va_P D vwCl (wX5 cI cS a0 a1 a2 a3 a4 a5 a6 a7 a8 a9 a10 a11 nw kp ad fd tp kn it wd sz nm mv ik 0 bg en so va iw im st ht) H := hP
  refine lv_iload_n hx hb dX5_wipe_10 rfl (lv_at hl 0 rfl) ?_
  obtain ⟨q0, q1⟩ := Prod.mk.inj (h)
  subst q0 q1
  exact eMi C0 hP hS rfl rfl dX5_wipe_11
def fX5_byteAt (tp : Nat → Int32) (td : Int32) (v1 : Int32) : Option (Int32) := (if td ≤ v1 then some (-1) else if ¬ (v1 < 0 ∨ 120 ≤ v1.toNatClampNeg) then some (tp v1.toNatClampNeg) else none)
abbrev rmX5_byteAt : Room := { frames := 0, cells := 0, slots := 0, locals := 0 }
theorem pdX5_byteAt : (yX5_byteAt.cls = RX5 ∧ yX5_byteAt.cls ≠ "java/lang/invoke/MethodHandle" ∧ yX5_byteAt.cls ≠ "java/lang/invoke/VarHandle" ∧ (parseMethodDescriptor yX5_byteAt.desc).map (fun d => d.parameters.length) = some 1) := by decide +kernel
set_option maxHeartbeats 4000000 in
set_option maxRecDepth 100000 in
theorem tX5_byteAt (l : Launch) (D : va_G) (cI cS : ClassId) (a0 a1 a2 a3 a4 a5 a6 a7 a8 a9 a10 a11 : Nat) (nw : Nat → Int32) (kp : Nat → Int32) (ad : Nat → Int32) (fd : Nat → Int32) (tp : Nat → Int32) (kn : Nat → Option Nat) (it : Nat → Int32) (wd : Nat → Int32) (sz : Nat → Int32) (nm : Nat → Int32) (mv : Nat → Int32) (ik : Int32) (td : Int32) (bg : Int32) (en : Int32) (so : Int32) (va : Int32) (iw : Int32) (im : Int32) (st : Int32) (ht : Int32) (v1 : Int32) (z0 : Int32) (h : fX5_byteAt tp td v1 = some z0) : Met l yX5_byteAt wsX5_byteAt rmX5_byteAt (PZ D cI cS [.ref a0, .int v1] (fun U => va_P D vwCl (wX5 cI cS a0 a1 a2 a3 a4 a5 a6 a7 a8 a9 a10 a11 nw kp ad fd tp kn it wd sz nm mv ik td bg en so va iw im st ht) U.heap)) (vp_Si (fun x => x = z0)) 0 0 (fun _ => False) := by
  refine Met.mk RX5 (by decide) rfl rfl (Nat.le_of_ble_eq_true rfl) ?_
  intro p e s m below meth c ls C0 hP hl
  have hl : lv_has ls 2 [(0, .ref a0), (1, .int v1)] := hl
  obtain ⟨hx, hb, hr, hml, hown, hts, hlk, hE⟩ := id C0
  have hinX5 : ∀ w ∈ u_ws RX5 TX5 21, w ∈ wsX5_byteAt := by decide +kernel
  rw [fX5_byteAt] at h
  refine lv_iload_n hx hb dX5_byteAt_0 rfl (lv_at hl 1 rfl) ?_
  refine lv_aload_n hx hb dX5_byteAt_1 rfl (lv_at hl 0 rfl) ?_
  refine va_get (D := D) (ci := 4) (v := .int td) (C := RX5) (T := TX5) (N := 21) hx hb hts hinX5 hown hE.1 hP 0 rfl rfl 6 (by decide) (hts _ (List.mem_of_getElem? (i := 1) rfl)) (fun _ h9 => h9) rfl dX5_byteAt_2 ?_
  refine lv_icmp_ge (tgt := 17) hx hb dX5_byteAt_5 (by decide) (fun c_1 => ?_) (fun c_1 => ?_)
  · have h := ifp c_1 h
    refine lv_iconst (v := (-1)) hx hb dX5_byteAt_17 (by decide) ?_
    exact eRi C0 (Option.some.inj h) dX5_byteAt_18
  · have h := ifn c_1 h
    refine lv_aload_n hx hb dX5_byteAt_8 rfl (lv_at hl 0 rfl) ?_
    refine va_get (D := D) (ci := 4) (v := .ref a5) (C := RX5) (T := TX5) (N := 21) hx hb hts hinX5 hown hE.1 hP 0 rfl rfl 5 (by decide) (hts _ (List.mem_of_getElem? (i := 2) rfl)) (fun _ h9 => h9) rfl dX5_byteAt_9 ?_
    refine lv_iload_n hx hb dX5_byteAt_12 rfl (lv_at hl 1 rfl) ?_
    obtain ⟨hi_2, h⟩ := ifs h
    refine va_iald hx hb hE.1 hP 5 0 rfl rfl hi_2 dX5_byteAt_13 ?_
    refine lv_goto (tgt := 18) hx hb dX5_byteAt_14 (by decide) ?_
    exact eRi C0 (Option.some.inj h) dX5_byteAt_18
def fX5_token_8 (k : Int32 → Option (Int32 × Int32 × Int32 × Int32)) (tp : Nat → Int32) (td : Int32) : Nat → Int32 → Option (Int32 × Int32 × Int32 × Int32)
  | 0, _ => none
  | n + 1, bg => Option.bind (fX5_byteAt tp td bg) (fun z_1 => (if z_1 = 32 then fX5_token_8 k tp td n (bg + 1) else k bg))
def fX5_token_131 (tp : Nat → Int32) (td : Int32) (bg : Int32) (so : Int32) : Nat → Int32 → Int32 → Option (Int32 × Int32 × Int32 × Int32)
  | 0, _, _ => none
  | n + 1, en, va => Option.bind (fX5_byteAt tp td en) (fun z_10 => (if (fX5_within z_10 48 57) = 0 then some (bg, en, so, va) else Option.bind (fX5_byteAt tp td en) (fun z_13 => fX5_token_131 tp td bg so n (en + 1) (if (((10 * va) + z_13) - 48) < 10000 then ((10 * va) + z_13) - 48 else 10000))))
def fX5_token_84 (tp : Nat → Int32) (td : Int32) (bg : Int32) (so : Int32) (va : Int32) : Nat → Int32 → Option (Int32 × Int32 × Int32 × Int32)
  | 0, _ => none
  | n + 1, en => Option.bind (fX5_byteAt tp td en) (fun z_15 => (if (fX5_within z_15 97 122) = 0 then some (bg, en, so, va) else fX5_token_84 tp td bg so va n (en + 1)))
def fX5_token (F : Nat) (tp : Nat → Int32) (td : Int32) (bg : Int32) (en : Int32) (so : Int32) (va : Int32) : Option (Int32 × Int32 × Int32 × Int32) := fX5_token_8 (fun bg__4 => Option.bind (fX5_byteAt tp td bg__4) (fun z_5 => (if 0 ≤ z_5 then (if (fX5_within z_5 97 122) = 0 then (if (fX5_within z_5 48 57) = 0 then some (bg__4, bg__4 + 1, 3, 0) else fX5_token_131 tp td bg__4 2 F bg__4 0) else fX5_token_84 tp td bg__4 1 0 F bg__4) else some (bg__4, bg__4, 0, 0)))) tp td F en
abbrev rmX5_token : Room := { frames := 1, cells := 0, slots := 0, locals := 22 }
theorem pdX5_token : (yX5_token.cls = RX5 ∧ yX5_token.cls ≠ "java/lang/invoke/MethodHandle" ∧ yX5_token.cls ≠ "java/lang/invoke/VarHandle" ∧ (parseMethodDescriptor yX5_token.desc).map (fun d => d.parameters.length) = some 0) := by decide +kernel
set_option maxHeartbeats 4000000 in
set_option maxRecDepth 100000 in
theorem lX5_token_8 {p : Program} {l : Launch} {e : Env} {s : State} {m : MethodId} {av : Array Value} {below : List Frame} {meth : Method} {c : Code} {D : va_G} {cI cS : ClassId} {a0 a1 a2 a3 a4 a5 a6 a7 a8 a9 a10 a11 : Nat} {W0 : va_W} (C0 : CX p s m av meth c RX5 cX5_token 2 none wsX5_token D cI cS) (F : Nat) (k : Int32 → Option (Int32 × Int32 × Int32 × Int32)) (nw : Nat → Int32) (kp : Nat → Int32) (ad : Nat → Int32) (fd : Nat → Int32) (tp : Nat → Int32) (kn : Nat → Option Nat) (it : Nat → Int32) (wd : Nat → Int32) (sz : Nat → Int32) (nm : Nat → Int32) (mv : Nat → Int32) (ik : Int32) (td : Int32) (en : Int32) (so : Int32) (va : Int32) (iw : Int32) (im : Int32) (st : Int32) (ht : Int32) (z0 : Int32) (z1 : Int32) (z2 : Int32) (z3 : Int32) (hD : ∀ W : va_W, W.map Prod.fst = [a0, a1, a2, a3, a4, a5, a6, a7, a8, a9, a10, a11] → va_D (wA W0) W) (kk : ∀ (bg : Int32) (H : Heap) (locs : List Loc), va_P D vwCl (wX5 cI cS a0 a1 a2 a3 a4 a5 a6 a7 a8 a9 a10 a11 nw kp ad fd tp kn it wd sz nm mv ik td bg en so va iw im st ht) H → va_S (wA W0) s.heap H locs → ∀ (ls : Array Slot), lv_has ls 2 [(0, .ref a0)] → k bg = some (z0, z1, z2, z3) → W p l e rmX5_token s m av below meth c H locs 0 0 (MQ below (qV D W0 (wX5 cI cS a0 a1 a2 a3 a4 a5 a6 a7 a8 a9 a10 a11 nw kp ad fd tp kn it wd sz nm mv ik td z0 z1 z2 z3 iw im st ht)) av s 0 0 (wA W0)) (F0 m 34 ls [])) : ∀ (n : Nat) (bg : Int32) (H : Heap) (locs : List Loc), va_P D vwCl (wX5 cI cS a0 a1 a2 a3 a4 a5 a6 a7 a8 a9 a10 a11 nw kp ad fd tp kn it wd sz nm mv ik td bg en so va iw im st ht) H → va_S (wA W0) s.heap H locs → ∀ (ls : Array Slot), lv_has ls 2 [(0, .ref a0)] → fX5_token_8 k tp td n bg = some (z0, z1, z2, z3) → W p l e rmX5_token s m av below meth c H locs 0 0 (MQ below (qV D W0 (wX5 cI cS a0 a1 a2 a3 a4 a5 a6 a7 a8 a9 a10 a11 nw kp ad fd tp kn it wd sz nm mv ik td z0 z1 z2 z3 iw im st ht)) av s 0 0 (wA W0)) (F0 m 8 ls []) := by
  obtain ⟨hx, hb, hr, hml, hown, hts, hlk, hE⟩ := id C0
  have hinX5 : ∀ w ∈ u_ws RX5 TX5 21, w ∈ wsX5_token := by decide +kernel
  intro n
  induction n with
  | zero =>
    intro bg H locs hP hS ls hl h
    cases (show none = some (z0, z1, z2, z3) from h)
  | succ n ih =>
    intro bg H locs hP hS ls hl h
    rw [fX5_token_8] at h
    refine lv_aload_n hx hb dX5_token_8 rfl (lv_at hl 0 rfl) ?_
    refine lv_aload_n hx hb dX5_token_9 rfl (lv_at hl 0 rfl) ?_
    refine va_get (D := D) (ci := 4) (v := .int bg) (C := RX5) (T := TX5) (N := 21) hx hb hts hinX5 hown hE.1 hP 0 rfl rfl 7 (by decide) (hts _ (List.mem_of_getElem? (i := 2) rfl)) (fun _ h9 => h9) rfl dX5_token_10 ?_
    obtain ⟨z_1, e_2, h⟩ := bds h
    have hPc := hP.sub (ws' := (wX5 cI cS a0 a1 a2 a3 a4 a5 a6 a7 a8 a9 a10 a11 nw kp ad fd tp kn it wd sz nm mv ik td bg en so va iw im st ht)) [0, 1, 2, 3, 4, 5, 6, 7, 8, 9, 10, 11] rfl
    refine kRi (rV C0 (tX5_byteAt l D cI cS a0 a1 a2 a3 a4 a5 a6 a7 a8 a9 a10 a11 nw kp ad fd tp kn it wd sz nm mv ik td bg en so va iw im st ht bg z_1 e_2) RX5 gX5_token_X5_byteAt rfl ⟨rfl, rfl⟩ pdX5_byteAt rfl ⟨Nat.le_of_ble_eq_true rfl, Nat.le_of_ble_eq_true rfl⟩ (fun _ _ _ _ q => q) (va_recv hE.1 hPc (ci := 4) (q0 := 0) rfl rfl) (fun U hU _ _ => by rw [hU]; exact hPc) hl.1 rfl (Nat.le_of_ble_eq_true rfl) dX5_token_13 ⟨Nat.zero_le _, Nat.zero_le _⟩) ?_
    refine lv_bipush (v := 32) hx hb dX5_token_16 (by decide) ?_
    refine lv_icmp_ne (tgt := 34) hx hb dX5_token_18 (by decide) (fun c_3 => ?_) (fun c_3 => ?_)
    · have h := ifn c_3 h
      exact kk bg _ _ hP hS _ (lv_sub hl [0] rfl) h
    · have h := ifp c_3 h
      refine lv_aload_n hx hb dX5_token_21 rfl (lv_at hl 0 rfl) ?_
      refine lv_dup hx hb dX5_token_22 rfl ?_
      refine va_get (D := D) (ci := 4) (v := .int bg) (C := RX5) (T := TX5) (N := 21) hx hb hts hinX5 hown hE.1 hP 0 rfl rfl 7 (by decide) (hts _ (List.mem_of_getElem? (i := 2) rfl)) (fun _ h9 => h9) rfl dX5_token_23 ?_
      refine lv_iconst (v := 1) hx hb dX5_token_26 (by decide) ?_
      refine lv_iadd hx hb dX5_token_27 ?_
      refine va_put (D := D) (ci := 4) (v := .int (bg + 1)) (ty := .int) (C := RX5) (T := TX5) (N := 21) hx hb hts hinX5 tyX5 tyX5_ok nmX5 hown hE.1 hP (hD _ rfl) hS 0 rfl rfl 7 (by decide) (hts _ (List.mem_of_getElem? (i := 2) rfl)) (fun _ h9 => h9) rfl (by decide +kernel) rfl rfl (Nat.le_of_ble_eq_true rfl) dX5_token_28 (fun H locs hP _ hS => ?_)
      have hP : va_P D vwCl (wX5 cI cS a0 a1 a2 a3 a4 a5 a6 a7 a8 a9 a10 a11 nw kp ad fd tp kn it wd sz nm mv ik td (bg + 1) en so va iw im st ht) H := hP
      refine lv_goto (tgt := 8) hx hb dX5_token_31 (by decide) ?_
      exact ih (bg + 1) _ _ hP hS _ (lv_sub hl [0] rfl) h
set_option maxHeartbeats 4000000 in
set_option maxRecDepth 100000 in
theorem lX5_token_131 {p : Program} {l : Launch} {e : Env} {s : State} {m : MethodId} {av : Array Value} {below : List Frame} {meth : Method} {c : Code} {D : va_G} {cI cS : ClassId} {a0 a1 a2 a3 a4 a5 a6 a7 a8 a9 a10 a11 : Nat} {W0 : va_W} (C0 : CX p s m av meth c RX5 cX5_token 2 none wsX5_token D cI cS) (F : Nat) (nw : Nat → Int32) (kp : Nat → Int32) (ad : Nat → Int32) (fd : Nat → Int32) (tp : Nat → Int32) (kn : Nat → Option Nat) (it : Nat → Int32) (wd : Nat → Int32) (sz : Nat → Int32) (nm : Nat → Int32) (mv : Nat → Int32) (ik : Int32) (td : Int32) (bg : Int32) (so : Int32) (iw : Int32) (im : Int32) (st : Int32) (ht : Int32) (z0 : Int32) (z1 : Int32) (z2 : Int32) (z3 : Int32) (hD : ∀ W : va_W, W.map Prod.fst = [a0, a1, a2, a3, a4, a5, a6, a7, a8, a9, a10, a11] → va_D (wA W0) W) : ∀ (n : Nat) (en : Int32) (va : Int32) (H : Heap) (locs : List Loc), va_P D vwCl (wX5 cI cS a0 a1 a2 a3 a4 a5 a6 a7 a8 a9 a10 a11 nw kp ad fd tp kn it wd sz nm mv ik td bg en so va iw im st ht) H → va_S (wA W0) s.heap H locs → ∀ (ls : Array Slot), lv_has ls 2 [(0, .ref a0)] → fX5_token_131 tp td bg so n en va = some (z0, z1, z2, z3) → W p l e rmX5_token s m av below meth c H locs 0 0 (MQ below (qV D W0 (wX5 cI cS a0 a1 a2 a3 a4 a5 a6 a7 a8 a9 a10 a11 nw kp ad fd tp kn it wd sz nm mv ik td z0 z1 z2 z3 iw im st ht)) av s 0 0 (wA W0)) (F0 m 131 ls []) := by
  obtain ⟨hx, hb, hr, hml, hown, hts, hlk, hE⟩ := id C0
  have hinX5 : ∀ w ∈ u_ws RX5 TX5 21, w ∈ wsX5_token := by decide +kernel
  intro n
  induction n with
  | zero =>
    intro en va H locs hP hS ls hl h
    cases (show none = some (z0, z1, z2, z3) from h)
  | succ n ih =>
    intro en va H locs hP hS ls hl h
    rw [fX5_token_131] at h
    refine lv_aload_n hx hb dX5_token_131 rfl (lv_at hl 0 rfl) ?_
    refine lv_aload_n hx hb dX5_token_132 rfl (lv_at hl 0 rfl) ?_
    refine va_get (D := D) (ci := 4) (v := .int en) (C := RX5) (T := TX5) (N := 21) hx hb hts hinX5 hown hE.1 hP 0 rfl rfl 8 (by decide) (hts _ (List.mem_of_getElem? (i := 1) rfl)) (fun _ h9 => h9) rfl dX5_token_133 ?_
    obtain ⟨z_10, e_11, h⟩ := bds h
    have hPc := hP.sub (ws' := (wX5 cI cS a0 a1 a2 a3 a4 a5 a6 a7 a8 a9 a10 a11 nw kp ad fd tp kn it wd sz nm mv ik td bg en so va iw im st ht)) [0, 1, 2, 3, 4, 5, 6, 7, 8, 9, 10, 11] rfl
    refine kRi (rV C0 (tX5_byteAt l D cI cS a0 a1 a2 a3 a4 a5 a6 a7 a8 a9 a10 a11 nw kp ad fd tp kn it wd sz nm mv ik td bg en so va iw im st ht en z_10 e_11) RX5 gX5_token_X5_byteAt rfl ⟨rfl, rfl⟩ pdX5_byteAt rfl ⟨Nat.le_of_ble_eq_true rfl, Nat.le_of_ble_eq_true rfl⟩ (fun _ _ _ _ q => q) (va_recv hE.1 hPc (ci := 4) (q0 := 0) rfl rfl) (fun U hU _ _ => by rw [hU]; exact hPc) hl.1 rfl (Nat.le_of_ble_eq_true rfl) dX5_token_136 ⟨Nat.zero_le _, Nat.zero_le _⟩) ?_
    refine lv_bipush (v := 48) hx hb dX5_token_139 (by decide) ?_
    refine lv_bipush (v := 57) hx hb dX5_token_141 (by decide) ?_
    refine kRi (rS C0 (tX5_within l D cI cS z_10 48 57 (fX5_within z_10 48 57) rfl) gX5_token_X5_within rfl ⟨rfl, rfl⟩ pdX5_within rfl ⟨Nat.le_of_ble_eq_true rfl, Nat.le_of_ble_eq_true rfl⟩ (fun _ _ _ _ q => q) (fun _ _ _ _ => vp0) hl.1 rfl (Nat.le_of_ble_eq_true rfl) dX5_token_143 ⟨Nat.zero_le _, Nat.zero_le _⟩) ?_
    refine lv_if_eq (tgt := 206) hx hb dX5_token_146 (by decide) (fun c_12 => ?_) (fun c_12 => ?_)
    · have h := ifp c_12 h
      obtain ⟨q0, g0⟩ := Prod.mk.inj (Option.some.inj h)
      obtain ⟨q1, g1⟩ := Prod.mk.inj g0
      obtain ⟨q2, q3⟩ := Prod.mk.inj g1
      subst q0 q1 q2 q3
      exact eMv C0 hP hS rfl dX5_token_206
    · have h := ifn c_12 h
      refine lv_aload_n hx hb dX5_token_149 rfl (lv_at hl 0 rfl) ?_
      refine lv_sipush (v := 10000) hx hb dX5_token_150 (by decide) ?_
      refine lv_bipush (v := 10) hx hb dX5_token_153 (by decide) ?_
      refine lv_aload_n hx hb dX5_token_155 rfl (lv_at hl 0 rfl) ?_
      refine va_get (D := D) (ci := 4) (v := .int va) (C := RX5) (T := TX5) (N := 21) hx hb hts hinX5 hown hE.1 hP 0 rfl rfl 10 (by decide) (hts _ (List.mem_of_getElem? (i := 3) rfl)) (fun _ h9 => h9) rfl dX5_token_156 ?_
      refine lv_imul hx hb dX5_token_159 ?_
      refine lv_aload_n hx hb dX5_token_160 rfl (lv_at hl 0 rfl) ?_
      refine lv_aload_n hx hb dX5_token_161 rfl (lv_at hl 0 rfl) ?_
      refine va_get (D := D) (ci := 4) (v := .int en) (C := RX5) (T := TX5) (N := 21) hx hb hts hinX5 hown hE.1 hP 0 rfl rfl 8 (by decide) (hts _ (List.mem_of_getElem? (i := 1) rfl)) (fun _ h9 => h9) rfl dX5_token_162 ?_
      obtain ⟨z_13, e_14, h⟩ := bds h
      have hPc := hP.sub (ws' := (wX5 cI cS a0 a1 a2 a3 a4 a5 a6 a7 a8 a9 a10 a11 nw kp ad fd tp kn it wd sz nm mv ik td bg en so va iw im st ht)) [0, 1, 2, 3, 4, 5, 6, 7, 8, 9, 10, 11] rfl
      refine kRi (rV C0 (tX5_byteAt l D cI cS a0 a1 a2 a3 a4 a5 a6 a7 a8 a9 a10 a11 nw kp ad fd tp kn it wd sz nm mv ik td bg en so va iw im st ht en z_13 e_14) RX5 gX5_token_X5_byteAt rfl ⟨rfl, rfl⟩ pdX5_byteAt rfl ⟨Nat.le_of_ble_eq_true rfl, Nat.le_of_ble_eq_true rfl⟩ (fun _ _ _ _ q => q) (va_recv hE.1 hPc (ci := 4) (q0 := 0) rfl rfl) (fun U hU _ _ => by rw [hU]; exact hPc) hl.1 rfl (Nat.le_of_ble_eq_true rfl) dX5_token_165 ⟨Nat.zero_le _, Nat.zero_le _⟩) ?_
      refine lv_iadd hx hb dX5_token_168 ?_
      refine lv_bipush (v := 48) hx hb dX5_token_169 (by decide) ?_
      refine lv_isub hx hb dX5_token_171 ?_
      refine va_mmin hx hb (hml.trans hl.1.symm) hown (hts _ (List.mem_of_getElem? (i := 5) rfl)) (hts _ (List.mem_of_getElem? (i := 6) rfl)) (hts _ (List.mem_of_getElem? (i := 7) rfl)) (hts _ (List.mem_of_getElem? (i := 8) rfl)) (Nat.le_of_ble_eq_true rfl) (Nat.le_of_ble_eq_true rfl) (Nat.zero_le _) (Nat.zero_le _) dX5_token_172 ?_
      refine va_put (D := D) (ci := 4) (v := .int (if (((10 * va) + z_13) - 48) < 10000 then ((10 * va) + z_13) - 48 else 10000)) (ty := .int) (C := RX5) (T := TX5) (N := 21) hx hb hts hinX5 tyX5 tyX5_ok nmX5 hown hE.1 hP (hD _ rfl) hS 0 rfl rfl 10 (by decide) (hts _ (List.mem_of_getElem? (i := 3) rfl)) (fun _ h9 => h9) rfl (by decide +kernel) rfl rfl (Nat.le_of_ble_eq_true rfl) dX5_token_175 (fun H locs hP _ hS => ?_)
      have hP : va_P D vwCl (wX5 cI cS a0 a1 a2 a3 a4 a5 a6 a7 a8 a9 a10 a11 nw kp ad fd tp kn it wd sz nm mv ik td bg en so (if (((10 * va) + z_13) - 48) < 10000 then ((10 * va) + z_13) - 48 else 10000) iw im st ht) H := hP
      refine lv_aload_n hx hb dX5_token_178 rfl (lv_at hl 0 rfl) ?_
      refine lv_dup hx hb dX5_token_179 rfl ?_
      refine va_get (D := D) (ci := 4) (v := .int en) (C := RX5) (T := TX5) (N := 21) hx hb hts hinX5 hown hE.1 hP 0 rfl rfl 8 (by decide) (hts _ (List.mem_of_getElem? (i := 1) rfl)) (fun _ h9 => h9) rfl dX5_token_180 ?_
      refine lv_iconst (v := 1) hx hb dX5_token_183 (by decide) ?_
      refine lv_iadd hx hb dX5_token_184 ?_
      refine va_put (D := D) (ci := 4) (v := .int (en + 1)) (ty := .int) (C := RX5) (T := TX5) (N := 21) hx hb hts hinX5 tyX5 tyX5_ok nmX5 hown hE.1 hP (hD _ rfl) hS 0 rfl rfl 8 (by decide) (hts _ (List.mem_of_getElem? (i := 1) rfl)) (fun _ h9 => h9) rfl (by decide +kernel) rfl rfl (Nat.le_of_ble_eq_true rfl) dX5_token_185 (fun H locs hP _ hS => ?_)
      have hP : va_P D vwCl (wX5 cI cS a0 a1 a2 a3 a4 a5 a6 a7 a8 a9 a10 a11 nw kp ad fd tp kn it wd sz nm mv ik td bg (en + 1) so (if (((10 * va) + z_13) - 48) < 10000 then ((10 * va) + z_13) - 48 else 10000) iw im st ht) H := hP
      refine lv_goto (tgt := 131) hx hb dX5_token_188 (by decide) ?_
      exact ih (en + 1) (if (((10 * va) + z_13) - 48) < 10000 then ((10 * va) + z_13) - 48 else 10000) _ _ hP hS _ (lv_sub hl [0] rfl) h
set_option maxHeartbeats 4000000 in
set_option maxRecDepth 100000 in
theorem lX5_token_84 {p : Program} {l : Launch} {e : Env} {s : State} {m : MethodId} {av : Array Value} {below : List Frame} {meth : Method} {c : Code} {D : va_G} {cI cS : ClassId} {a0 a1 a2 a3 a4 a5 a6 a7 a8 a9 a10 a11 : Nat} {W0 : va_W} (C0 : CX p s m av meth c RX5 cX5_token 2 none wsX5_token D cI cS) (F : Nat) (nw : Nat → Int32) (kp : Nat → Int32) (ad : Nat → Int32) (fd : Nat → Int32) (tp : Nat → Int32) (kn : Nat → Option Nat) (it : Nat → Int32) (wd : Nat → Int32) (sz : Nat → Int32) (nm : Nat → Int32) (mv : Nat → Int32) (ik : Int32) (td : Int32) (bg : Int32) (so : Int32) (va : Int32) (iw : Int32) (im : Int32) (st : Int32) (ht : Int32) (z0 : Int32) (z1 : Int32) (z2 : Int32) (z3 : Int32) (hD : ∀ W : va_W, W.map Prod.fst = [a0, a1, a2, a3, a4, a5, a6, a7, a8, a9, a10, a11] → va_D (wA W0) W) : ∀ (n : Nat) (en : Int32) (H : Heap) (locs : List Loc), va_P D vwCl (wX5 cI cS a0 a1 a2 a3 a4 a5 a6 a7 a8 a9 a10 a11 nw kp ad fd tp kn it wd sz nm mv ik td bg en so va iw im st ht) H → va_S (wA W0) s.heap H locs → ∀ (ls : Array Slot), lv_has ls 2 [(0, .ref a0)] → fX5_token_84 tp td bg so va n en = some (z0, z1, z2, z3) → W p l e rmX5_token s m av below meth c H locs 0 0 (MQ below (qV D W0 (wX5 cI cS a0 a1 a2 a3 a4 a5 a6 a7 a8 a9 a10 a11 nw kp ad fd tp kn it wd sz nm mv ik td z0 z1 z2 z3 iw im st ht)) av s 0 0 (wA W0)) (F0 m 84 ls []) := by
  obtain ⟨hx, hb, hr, hml, hown, hts, hlk, hE⟩ := id C0
  have hinX5 : ∀ w ∈ u_ws RX5 TX5 21, w ∈ wsX5_token := by decide +kernel
  intro n
  induction n with
  | zero =>
    intro en H locs hP hS ls hl h
    cases (show none = some (z0, z1, z2, z3) from h)
  | succ n ih =>
    intro en H locs hP hS ls hl h
    rw [fX5_token_84] at h
    refine lv_aload_n hx hb dX5_token_84 rfl (lv_at hl 0 rfl) ?_
    refine lv_aload_n hx hb dX5_token_85 rfl (lv_at hl 0 rfl) ?_
    refine va_get (D := D) (ci := 4) (v := .int en) (C := RX5) (T := TX5) (N := 21) hx hb hts hinX5 hown hE.1 hP 0 rfl rfl 8 (by decide) (hts _ (List.mem_of_getElem? (i := 1) rfl)) (fun _ h9 => h9) rfl dX5_token_86 ?_
    obtain ⟨z_15, e_16, h⟩ := bds h
    have hPc := hP.sub (ws' := (wX5 cI cS a0 a1 a2 a3 a4 a5 a6 a7 a8 a9 a10 a11 nw kp ad fd tp kn it wd sz nm mv ik td bg en so va iw im st ht)) [0, 1, 2, 3, 4, 5, 6, 7, 8, 9, 10, 11] rfl
    refine kRi (rV C0 (tX5_byteAt l D cI cS a0 a1 a2 a3 a4 a5 a6 a7 a8 a9 a10 a11 nw kp ad fd tp kn it wd sz nm mv ik td bg en so va iw im st ht en z_15 e_16) RX5 gX5_token_X5_byteAt rfl ⟨rfl, rfl⟩ pdX5_byteAt rfl ⟨Nat.le_of_ble_eq_true rfl, Nat.le_of_ble_eq_true rfl⟩ (fun _ _ _ _ q => q) (va_recv hE.1 hPc (ci := 4) (q0 := 0) rfl rfl) (fun U hU _ _ => by rw [hU]; exact hPc) hl.1 rfl (Nat.le_of_ble_eq_true rfl) dX5_token_89 ⟨Nat.zero_le _, Nat.zero_le _⟩) ?_
    refine lv_bipush (v := 97) hx hb dX5_token_92 (by decide) ?_
    refine lv_bipush (v := 122) hx hb dX5_token_94 (by decide) ?_
    refine kRi (rS C0 (tX5_within l D cI cS z_15 97 122 (fX5_within z_15 97 122) rfl) gX5_token_X5_within rfl ⟨rfl, rfl⟩ pdX5_within rfl ⟨Nat.le_of_ble_eq_true rfl, Nat.le_of_ble_eq_true rfl⟩ (fun _ _ _ _ q => q) (fun _ _ _ _ => vp0) hl.1 rfl (Nat.le_of_ble_eq_true rfl) dX5_token_96 ⟨Nat.zero_le _, Nat.zero_le _⟩) ?_
    refine lv_if_eq (tgt := 206) hx hb dX5_token_99 (by decide) (fun c_17 => ?_) (fun c_17 => ?_)
    · have h := ifp c_17 h
      obtain ⟨q0, g0⟩ := Prod.mk.inj (Option.some.inj h)
      obtain ⟨q1, g1⟩ := Prod.mk.inj g0
      obtain ⟨q2, q3⟩ := Prod.mk.inj g1
      subst q0 q1 q2 q3
      exact eMv C0 hP hS rfl dX5_token_206
    · have h := ifn c_17 h
      refine lv_aload_n hx hb dX5_token_102 rfl (lv_at hl 0 rfl) ?_
      refine lv_dup hx hb dX5_token_103 rfl ?_
      refine va_get (D := D) (ci := 4) (v := .int en) (C := RX5) (T := TX5) (N := 21) hx hb hts hinX5 hown hE.1 hP 0 rfl rfl 8 (by decide) (hts _ (List.mem_of_getElem? (i := 1) rfl)) (fun _ h9 => h9) rfl dX5_token_104 ?_
      refine lv_iconst (v := 1) hx hb dX5_token_107 (by decide) ?_
      refine lv_iadd hx hb dX5_token_108 ?_
      refine va_put (D := D) (ci := 4) (v := .int (en + 1)) (ty := .int) (C := RX5) (T := TX5) (N := 21) hx hb hts hinX5 tyX5 tyX5_ok nmX5 hown hE.1 hP (hD _ rfl) hS 0 rfl rfl 8 (by decide) (hts _ (List.mem_of_getElem? (i := 1) rfl)) (fun _ h9 => h9) rfl (by decide +kernel) rfl rfl (Nat.le_of_ble_eq_true rfl) dX5_token_109 (fun H locs hP _ hS => ?_)
      have hP : va_P D vwCl (wX5 cI cS a0 a1 a2 a3 a4 a5 a6 a7 a8 a9 a10 a11 nw kp ad fd tp kn it wd sz nm mv ik td bg (en + 1) so va iw im st ht) H := hP
      refine lv_goto (tgt := 84) hx hb dX5_token_112 (by decide) ?_
      exact ih (en + 1) _ _ hP hS _ (lv_sub hl [0] rfl) h
set_option maxHeartbeats 4000000 in
set_option maxRecDepth 100000 in
theorem tX5_token (l : Launch) (D : va_G) (cI cS : ClassId) (F : Nat) (a0 a1 a2 a3 a4 a5 a6 a7 a8 a9 a10 a11 : Nat) (nw : Nat → Int32) (kp : Nat → Int32) (ad : Nat → Int32) (fd : Nat → Int32) (tp : Nat → Int32) (kn : Nat → Option Nat) (it : Nat → Int32) (wd : Nat → Int32) (sz : Nat → Int32) (nm : Nat → Int32) (mv : Nat → Int32) (ik : Int32) (td : Int32) (bg : Int32) (en : Int32) (so : Int32) (va : Int32) (iw : Int32) (im : Int32) (st : Int32) (ht : Int32) (z0 : Int32) (z1 : Int32) (z2 : Int32) (z3 : Int32) (h : fX5_token F tp td bg en so va = some (z0, z1, z2, z3)) (hD0 : va_D (fun _ => True) (wX5 cI cS a0 a1 a2 a3 a4 a5 a6 a7 a8 a9 a10 a11 nw kp ad fd tp kn it wd sz nm mv ik td bg en so va iw im st ht)) : Met l yX5_token wsX5_token rmX5_token (PZ D cI cS [.ref a0] (fun U => va_P D vwCl (wX5 cI cS a0 a1 a2 a3 a4 a5 a6 a7 a8 a9 a10 a11 nw kp ad fd tp kn it wd sz nm mv ik td bg en so va iw im st ht) U.heap)) (qV D (wX5 cI cS a0 a1 a2 a3 a4 a5 a6 a7 a8 a9 a10 a11 nw kp ad fd tp kn it wd sz nm mv ik td bg en so va iw im st ht) (wX5 cI cS a0 a1 a2 a3 a4 a5 a6 a7 a8 a9 a10 a11 nw kp ad fd tp kn it wd sz nm mv ik td z0 z1 z2 z3 iw im st ht)) 0 0 (wA (wX5 cI cS a0 a1 a2 a3 a4 a5 a6 a7 a8 a9 a10 a11 nw kp ad fd tp kn it wd sz nm mv ik td bg en so va iw im st ht)) := by
  refine Met.mk RX5 (by decide) rfl rfl (Nat.le_of_ble_eq_true rfl) ?_
  intro p e s m below meth c ls C0 hP hl
  have hl : lv_has ls 2 [(0, .ref a0)] := hl
  obtain ⟨hx, hb, hr, hml, hown, hts, hlk, hE⟩ := id C0
  have hinX5 : ∀ w ∈ u_ws RX5 TX5 21, w ∈ wsX5_token := by decide +kernel
  have hD : ∀ W : va_W, W.map Prod.fst = [a0, a1, a2, a3, a4, a5, a6, a7, a8, a9, a10, a11] → va_D (wA (wX5 cI cS a0 a1 a2 a3 a4 a5 a6 a7 a8 a9 a10 a11 nw kp ad fd tp kn it wd sz nm mv ik td bg en so va iw im st ht)) W := fun W hW => hD0.own.re hW
  have hS : va_S (wA (wX5 cI cS a0 a1 a2 a3 a4 a5 a6 a7 a8 a9 a10 a11 nw kp ad fd tp kn it wd sz nm mv ik td bg en so va iw im st ht)) s.heap s.heap [] := va_S.rf
  have hP : va_P D vwCl (wX5 cI cS a0 a1 a2 a3 a4 a5 a6 a7 a8 a9 a10 a11 nw kp ad fd tp kn it wd sz nm mv ik td bg en so va iw im st ht) s.heap := hP
  rw [fX5_token] at h
  refine lv_aload_n hx hb dX5_token_0 rfl (lv_at hl 0 rfl) ?_
  refine lv_aload_n hx hb dX5_token_1 rfl (lv_at hl 0 rfl) ?_
  refine va_get (D := D) (ci := 4) (v := .int en) (C := RX5) (T := TX5) (N := 21) hx hb hts hinX5 hown hE.1 hP 0 rfl rfl 8 (by decide) (hts _ (List.mem_of_getElem? (i := 1) rfl)) (fun _ h9 => h9) rfl dX5_token_2 ?_
  refine va_put (D := D) (ci := 4) (v := .int en) (ty := .int) (C := RX5) (T := TX5) (N := 21) hx hb hts hinX5 tyX5 tyX5_ok nmX5 hown hE.1 hP (hD _ rfl) hS 0 rfl rfl 7 (by decide) (hts _ (List.mem_of_getElem? (i := 2) rfl)) (fun _ h9 => h9) rfl (by decide +kernel) rfl rfl (Nat.le_of_ble_eq_true rfl) dX5_token_5 (fun H locs hP _ hS => ?_)
  have hP : va_P D vwCl (wX5 cI cS a0 a1 a2 a3 a4 a5 a6 a7 a8 a9 a10 a11 nw kp ad fd tp kn it wd sz nm mv ik td en en so va iw im st ht) H := hP
  refine lX5_token_8 (l := l) (e := e) (below := below) C0 F _ nw kp ad fd tp kn it wd sz nm mv ik td en so va iw im st ht z0 z1 z2 z3 hD (fun bg__4 H locs hP hS ls hl h => ?_) F en _ _ hP hS _ (lv_sub hl [0] rfl) h
  refine lv_aload_n hx hb dX5_token_34 rfl (lv_at hl 0 rfl) ?_
  refine lv_aload_n hx hb dX5_token_35 rfl (lv_at hl 0 rfl) ?_
  refine va_get (D := D) (ci := 4) (v := .int bg__4) (C := RX5) (T := TX5) (N := 21) hx hb hts hinX5 hown hE.1 hP 0 rfl rfl 7 (by decide) (hts _ (List.mem_of_getElem? (i := 2) rfl)) (fun _ h9 => h9) rfl dX5_token_36 ?_
  obtain ⟨z_5, e_6, h⟩ := bds h
  have hPc := hP.sub (ws' := (wX5 cI cS a0 a1 a2 a3 a4 a5 a6 a7 a8 a9 a10 a11 nw kp ad fd tp kn it wd sz nm mv ik td bg__4 en so va iw im st ht)) [0, 1, 2, 3, 4, 5, 6, 7, 8, 9, 10, 11] rfl
  refine kRi (rV C0 (tX5_byteAt l D cI cS a0 a1 a2 a3 a4 a5 a6 a7 a8 a9 a10 a11 nw kp ad fd tp kn it wd sz nm mv ik td bg__4 en so va iw im st ht bg__4 z_5 e_6) RX5 gX5_token_X5_byteAt rfl ⟨rfl, rfl⟩ pdX5_byteAt rfl ⟨Nat.le_of_ble_eq_true rfl, Nat.le_of_ble_eq_true rfl⟩ (fun _ _ _ _ q => q) (va_recv hE.1 hPc (ci := 4) (q0 := 0) rfl rfl) (fun U hU _ _ => by rw [hU]; exact hPc) hl.1 rfl (Nat.le_of_ble_eq_true rfl) dX5_token_39 ⟨Nat.zero_le _, Nat.zero_le _⟩) ?_
  refine lv_istore_n (lv' := [(1, .int z_5), (0, .ref a0)]) hx hb dX5_token_42 rfl hl (by decide) rfl (fun ls hl => ?_)
  refine lv_aload_n hx hb dX5_token_43 rfl (lv_at hl 1 rfl) ?_
  refine lv_aload_n hx hb dX5_token_44 rfl (lv_at hl 1 rfl) ?_
  refine va_get (D := D) (ci := 4) (v := .int bg__4) (C := RX5) (T := TX5) (N := 21) hx hb hts hinX5 hown hE.1 hP 0 rfl rfl 7 (by decide) (hts _ (List.mem_of_getElem? (i := 2) rfl)) (fun _ h9 => h9) rfl dX5_token_45 ?_
  refine va_put (D := D) (ci := 4) (v := .int bg__4) (ty := .int) (C := RX5) (T := TX5) (N := 21) hx hb hts hinX5 tyX5 tyX5_ok nmX5 hown hE.1 hP (hD _ rfl) hS 0 rfl rfl 8 (by decide) (hts _ (List.mem_of_getElem? (i := 1) rfl)) (fun _ h9 => h9) rfl (by decide +kernel) rfl rfl (Nat.le_of_ble_eq_true rfl) dX5_token_48 (fun H locs hP _ hS => ?_)
  have hP : va_P D vwCl (wX5 cI cS a0 a1 a2 a3 a4 a5 a6 a7 a8 a9 a10 a11 nw kp ad fd tp kn it wd sz nm mv ik td bg__4 bg__4 so va iw im st ht) H := hP
  refine lv_aload_n hx hb dX5_token_51 rfl (lv_at hl 1 rfl) ?_
  refine lv_iconst (v := 0) hx hb dX5_token_52 (by decide) ?_
  refine va_put (D := D) (ci := 4) (v := .int 0) (ty := .int) (C := RX5) (T := TX5) (N := 21) hx hb hts hinX5 tyX5 tyX5_ok nmX5 hown hE.1 hP (hD _ rfl) hS 0 rfl rfl 10 (by decide) (hts _ (List.mem_of_getElem? (i := 3) rfl)) (fun _ h9 => h9) rfl (by decide +kernel) rfl rfl (Nat.le_of_ble_eq_true rfl) dX5_token_53 (fun H locs hP _ hS => ?_)
  have hP : va_P D vwCl (wX5 cI cS a0 a1 a2 a3 a4 a5 a6 a7 a8 a9 a10 a11 nw kp ad fd tp kn it wd sz nm mv ik td bg__4 bg__4 so 0 iw im st ht) H := hP
  refine lv_iload_n hx hb dX5_token_56 rfl (lv_at hl 0 rfl) ?_
  refine lv_if_ge (tgt := 68) hx hb dX5_token_57 (by decide) (fun c_7 => ?_) (fun c_7 => ?_)
  · have h := ifp c_7 h
    refine lv_iload_n hx hb dX5_token_68 rfl (lv_at hl 0 rfl) ?_
    refine lv_bipush (v := 97) hx hb dX5_token_69 (by decide) ?_
    refine lv_bipush (v := 122) hx hb dX5_token_71 (by decide) ?_
    refine kRi (rS C0 (tX5_within l D cI cS z_5 97 122 (fX5_within z_5 97 122) rfl) gX5_token_X5_within rfl ⟨rfl, rfl⟩ pdX5_within rfl ⟨Nat.le_of_ble_eq_true rfl, Nat.le_of_ble_eq_true rfl⟩ (fun _ _ _ _ q => q) (fun _ _ _ _ => vp0) hl.1 rfl (Nat.le_of_ble_eq_true rfl) dX5_token_73 ⟨Nat.zero_le _, Nat.zero_le _⟩) ?_
    refine lv_if_eq (tgt := 115) hx hb dX5_token_76 (by decide) (fun c_8 => ?_) (fun c_8 => ?_)
    · have h := ifp c_8 h
      refine lv_iload_n hx hb dX5_token_115 rfl (lv_at hl 0 rfl) ?_
      refine lv_bipush (v := 48) hx hb dX5_token_116 (by decide) ?_
      refine lv_bipush (v := 57) hx hb dX5_token_118 (by decide) ?_
      refine kRi (rS C0 (tX5_within l D cI cS z_5 48 57 (fX5_within z_5 48 57) rfl) gX5_token_X5_within rfl ⟨rfl, rfl⟩ pdX5_within rfl ⟨Nat.le_of_ble_eq_true rfl, Nat.le_of_ble_eq_true rfl⟩ (fun _ _ _ _ q => q) (fun _ _ _ _ => vp0) hl.1 rfl (Nat.le_of_ble_eq_true rfl) dX5_token_120 ⟨Nat.zero_le _, Nat.zero_le _⟩) ?_
      refine lv_if_eq (tgt := 191) hx hb dX5_token_123 (by decide) (fun c_9 => ?_) (fun c_9 => ?_)
      · have h := ifp c_9 h
        refine lv_aload_n hx hb dX5_token_191 rfl (lv_at hl 1 rfl) ?_
        refine lv_iconst (v := 3) hx hb dX5_token_192 (by decide) ?_
        refine va_put (D := D) (ci := 4) (v := .int 3) (ty := .int) (C := RX5) (T := TX5) (N := 21) hx hb hts hinX5 tyX5 tyX5_ok nmX5 hown hE.1 hP (hD _ rfl) hS 0 rfl rfl 9 (by decide) (hts _ (List.mem_of_getElem? (i := 4) rfl)) (fun _ h9 => h9) rfl (by decide +kernel) rfl rfl (Nat.le_of_ble_eq_true rfl) dX5_token_193 (fun H locs hP _ hS => ?_)
        have hP : va_P D vwCl (wX5 cI cS a0 a1 a2 a3 a4 a5 a6 a7 a8 a9 a10 a11 nw kp ad fd tp kn it wd sz nm mv ik td bg__4 bg__4 3 0 iw im st ht) H := hP
        refine lv_aload_n hx hb dX5_token_196 rfl (lv_at hl 1 rfl) ?_
        refine lv_dup hx hb dX5_token_197 rfl ?_
        refine va_get (D := D) (ci := 4) (v := .int bg__4) (C := RX5) (T := TX5) (N := 21) hx hb hts hinX5 hown hE.1 hP 0 rfl rfl 8 (by decide) (hts _ (List.mem_of_getElem? (i := 1) rfl)) (fun _ h9 => h9) rfl dX5_token_198 ?_
        refine lv_iconst (v := 1) hx hb dX5_token_201 (by decide) ?_
        refine lv_iadd hx hb dX5_token_202 ?_
        refine va_put (D := D) (ci := 4) (v := .int (bg__4 + 1)) (ty := .int) (C := RX5) (T := TX5) (N := 21) hx hb hts hinX5 tyX5 tyX5_ok nmX5 hown hE.1 hP (hD _ rfl) hS 0 rfl rfl 8 (by decide) (hts _ (List.mem_of_getElem? (i := 1) rfl)) (fun _ h9 => h9) rfl (by decide +kernel) rfl rfl (Nat.le_of_ble_eq_true rfl) dX5_token_203 (fun H locs hP _ hS => ?_)
        have hP : va_P D vwCl (wX5 cI cS a0 a1 a2 a3 a4 a5 a6 a7 a8 a9 a10 a11 nw kp ad fd tp kn it wd sz nm mv ik td bg__4 (bg__4 + 1) 3 0 iw im st ht) H := hP
        obtain ⟨q0, g0⟩ := Prod.mk.inj (Option.some.inj h)
        obtain ⟨q1, g1⟩ := Prod.mk.inj g0
        obtain ⟨q2, q3⟩ := Prod.mk.inj g1
        subst q0 q1 q2 q3
        exact eMv C0 hP hS rfl dX5_token_206
      · have h := ifn c_9 h
        refine lv_aload_n hx hb dX5_token_126 rfl (lv_at hl 1 rfl) ?_
        refine lv_iconst (v := 2) hx hb dX5_token_127 (by decide) ?_
        refine va_put (D := D) (ci := 4) (v := .int 2) (ty := .int) (C := RX5) (T := TX5) (N := 21) hx hb hts hinX5 tyX5 tyX5_ok nmX5 hown hE.1 hP (hD _ rfl) hS 0 rfl rfl 9 (by decide) (hts _ (List.mem_of_getElem? (i := 4) rfl)) (fun _ h9 => h9) rfl (by decide +kernel) rfl rfl (Nat.le_of_ble_eq_true rfl) dX5_token_128 (fun H locs hP _ hS => ?_)
        have hP : va_P D vwCl (wX5 cI cS a0 a1 a2 a3 a4 a5 a6 a7 a8 a9 a10 a11 nw kp ad fd tp kn it wd sz nm mv ik td bg__4 bg__4 2 0 iw im st ht) H := hP
        exact lX5_token_131 (l := l) (e := e) (below := below) C0 F nw kp ad fd tp kn it wd sz nm mv ik td bg__4 2 iw im st ht z0 z1 z2 z3 hD F bg__4 0 _ _ hP hS _ (lv_sub hl [1] rfl) h
    · have h := ifn c_8 h
      refine lv_aload_n hx hb dX5_token_79 rfl (lv_at hl 1 rfl) ?_
      refine lv_iconst (v := 1) hx hb dX5_token_80 (by decide) ?_
      refine va_put (D := D) (ci := 4) (v := .int 1) (ty := .int) (C := RX5) (T := TX5) (N := 21) hx hb hts hinX5 tyX5 tyX5_ok nmX5 hown hE.1 hP (hD _ rfl) hS 0 rfl rfl 9 (by decide) (hts _ (List.mem_of_getElem? (i := 4) rfl)) (fun _ h9 => h9) rfl (by decide +kernel) rfl rfl (Nat.le_of_ble_eq_true rfl) dX5_token_81 (fun H locs hP _ hS => ?_)
      have hP : va_P D vwCl (wX5 cI cS a0 a1 a2 a3 a4 a5 a6 a7 a8 a9 a10 a11 nw kp ad fd tp kn it wd sz nm mv ik td bg__4 bg__4 1 0 iw im st ht) H := hP
      exact lX5_token_84 (l := l) (e := e) (below := below) C0 F nw kp ad fd tp kn it wd sz nm mv ik td bg__4 1 0 iw im st ht z0 z1 z2 z3 hD F bg__4 _ _ hP hS _ (lv_sub hl [1] rfl) h
  · have h := ifn c_7 h
    refine lv_aload_n hx hb dX5_token_60 rfl (lv_at hl 1 rfl) ?_
    refine lv_iconst (v := 0) hx hb dX5_token_61 (by decide) ?_
    refine va_put (D := D) (ci := 4) (v := .int 0) (ty := .int) (C := RX5) (T := TX5) (N := 21) hx hb hts hinX5 tyX5 tyX5_ok nmX5 hown hE.1 hP (hD _ rfl) hS 0 rfl rfl 9 (by decide) (hts _ (List.mem_of_getElem? (i := 4) rfl)) (fun _ h9 => h9) rfl (by decide +kernel) rfl rfl (Nat.le_of_ble_eq_true rfl) dX5_token_62 (fun H locs hP _ hS => ?_)
    have hP : va_P D vwCl (wX5 cI cS a0 a1 a2 a3 a4 a5 a6 a7 a8 a9 a10 a11 nw kp ad fd tp kn it wd sz nm mv ik td bg__4 bg__4 0 0 iw im st ht) H := hP
    refine lv_goto (tgt := 206) hx hb dX5_token_65 (by decide) ?_
    obtain ⟨q0, g0⟩ := Prod.mk.inj (Option.some.inj h)
    obtain ⟨q1, g1⟩ := Prod.mk.inj g0
    obtain ⟨q2, q3⟩ := Prod.mk.inj g1
    subst q0 q1 q2 q3
    exact eMv C0 hP hS rfl dX5_token_206
def fX5_isWord_32 (tp : Nat → Int32) (bg : Int32) (i1 : Nat) : Nat → Int32 → Int32 → Option (Int32)
  | 0, _, _ => none
  | n + 1, v2, v3 => (if (Int32.ofNat (LENS.getD i1 0)) ≤ v3 then if v2 = 0 ∨ v2 = 1 then some v2 else none else (if v2 = 0 then if v2 = 0 ∨ v2 = 1 then some v2 else none else if ¬ ((bg + v3) < 0 ∨ 120 ≤ (bg + v3).toNatClampNeg) then if ¬ (v3 < 0 ∨ LENS.getD i1 0 ≤ v3.toNatClampNeg) then (if (tp (bg + v3).toNatClampNeg) = (CHC i1 v3) then fX5_isWord_32 tp bg i1 n 1 (v3 + 1) else fX5_isWord_32 tp bg i1 n 0 (v3 + 1)) else none else none))
def fX5_isWord (F : Nat) (tp : Nat → Int32) (bg : Int32) (en : Int32) (so : Int32) (i1 : Nat) : Option (Int32) := (if so = 1 then (if (en - bg) = (Int32.ofNat (LENS.getD i1 0)) then fX5_isWord_32 tp bg i1 F 1 0 else fX5_isWord_32 tp bg i1 F 0 0) else fX5_isWord_32 tp bg i1 F 0 0)
abbrev rmX5_isWord : Room := { frames := 4, cells := 0, slots := 0, locals := 85 }
theorem pdX5_isWord : (yX5_isWord.cls = RX5 ∧ yX5_isWord.cls ≠ "java/lang/invoke/MethodHandle" ∧ yX5_isWord.cls ≠ "java/lang/invoke/VarHandle" ∧ (parseMethodDescriptor yX5_isWord.desc).map (fun d => d.parameters.length) = some 1) := by decide +kernel
set_option maxHeartbeats 4000000 in
set_option maxRecDepth 100000 in
theorem lX5_isWord_32 {p : Program} {l : Launch} {e : Env} {s : State} {m : MethodId} {av : Array Value} {below : List Frame} {meth : Method} {c : Code} {D : va_G} {cI cS : ClassId} {a0 a1 a2 a3 a4 a5 a6 a7 a8 a9 a10 a11 : Nat} (C0 : CX p s m av meth c RX5 cX5_isWord 4 (some .boolean) wsX5_isWord D cI cS) (F : Nat) (nw : Nat → Int32) (kp : Nat → Int32) (ad : Nat → Int32) (fd : Nat → Int32) (tp : Nat → Int32) (kn : Nat → Option Nat) (it : Nat → Int32) (wd : Nat → Int32) (sz : Nat → Int32) (nm : Nat → Int32) (mv : Nat → Int32) (ik : Int32) (td : Int32) (bg : Int32) (en : Int32) (so : Int32) (va : Int32) (iw : Int32) (im : Int32) (st : Int32) (ht : Int32) (z0 : Int32) (cs : CSt) {i1 : Nat} (hi1 : i1 < 14) (hCS : CST cs NoA s s.heap) (hP : va_P D vwCl (wX5 cI cS a0 a1 a2 a3 a4 a5 a6 a7 a8 a9 a10 a11 nw kp ad fd tp kn it wd sz nm mv ik td bg en so va iw im st ht) s.heap) : ∀ (n : Nat) (v2 : Int32) (v3 : Int32), ∀ (ls : Array Slot), lv_has ls 4 [(0, .ref a0), (1, .ref (cs.1 i1)), (2, .int v2), (3, .int v3)] → fX5_isWord_32 tp bg i1 n v2 v3 = some z0 → W p l e rmX5_isWord s m av below meth c s.heap [] 0 0 (MQ below (vp_Si (fun x => x = z0)) av s 0 0 (fun _ => False)) (F0 m 32 ls []) := by
  obtain ⟨hx, hb, hr, hml, hown, hts, hlk, hE⟩ := id C0
  have hS : va_S NoA s.heap s.heap [] := va_S.rf
  have hinX5 : ∀ w ∈ u_ws RX5 TX5 21, w ∈ wsX5_isWord := by decide +kernel
  intro n
  induction n with
  | zero =>
    intro v2 v3 ls hl h
    cases (show none = some z0 from h)
  | succ n ih =>
    intro v2 v3 ls hl h
    rw [fX5_isWord_32] at h
    refine lv_iload_n hx hb dX5_isWord_32 rfl (lv_at hl 3 rfl) ?_
    refine lv_aload_n hx hb dX5_isWord_33 rfl (lv_at hl 1 rfl) ?_
    refine kRi (rV C0 (tJ0_length_8abf5 l D cI cS cs i1 hi1) RJ0 gX5_isWord_J0_length_8abf5 rfl ⟨rfl, rfl⟩ pdJ0_length_8abf5 rfl ⟨Nat.le_of_ble_eq_true rfl, Nat.le_of_ble_eq_true rfl⟩ (fun _ _ _ _ q => q.call) (vk_recv (hCS.1 i1 hi1) (i := 0) (by decide) hS) (fun U hU hW _ => by rw [hU]; exact hCS.warm hW) hl.1 rfl (Nat.le_of_ble_eq_true rfl) dX5_isWord_34 ⟨Nat.zero_le _, Nat.zero_le _⟩) ?_
    refine lv_icmp_ge (tgt := 75) hx hb dX5_isWord_37 (by decide) (fun c_2 => ?_) (fun c_2 => ?_)
    · have h := ifp c_2 h
      refine lv_iload_n hx hb dX5_isWord_75 rfl (lv_at hl 2 rfl) ?_
      obtain ⟨hb_3, h⟩ := ifs h
      exact eRz C0 (nzb hb_3) (Option.some.inj h) dX5_isWord_76
    · have h := ifn c_2 h
      refine lv_iload_n hx hb dX5_isWord_40 rfl (lv_at hl 2 rfl) ?_
      refine lv_if_eq (tgt := 75) hx hb dX5_isWord_41 (by decide) (fun c_4 => ?_) (fun c_4 => ?_)
      · have h := ifp c_4 h
        refine lv_iload_n hx hb dX5_isWord_75 rfl (lv_at hl 2 rfl) ?_
        obtain ⟨hb_5, h⟩ := ifs h
        exact eRz C0 (nzb hb_5) (Option.some.inj h) dX5_isWord_76
      · have h := ifn c_4 h
        refine lv_aload_n hx hb dX5_isWord_44 rfl (lv_at hl 0 rfl) ?_
        refine va_get (D := D) (ci := 4) (v := .ref a5) (C := RX5) (T := TX5) (N := 21) hx hb hts hinX5 hown hE.1 hP 0 rfl rfl 5 (by decide) (hts _ (List.mem_of_getElem? (i := 4) rfl)) (fun _ h9 => h9) rfl dX5_isWord_45 ?_
        refine lv_aload_n hx hb dX5_isWord_48 rfl (lv_at hl 0 rfl) ?_
        refine va_get (D := D) (ci := 4) (v := .int bg) (C := RX5) (T := TX5) (N := 21) hx hb hts hinX5 hown hE.1 hP 0 rfl rfl 7 (by decide) (hts _ (List.mem_of_getElem? (i := 3) rfl)) (fun _ h9 => h9) rfl dX5_isWord_49 ?_
        refine lv_iload_n hx hb dX5_isWord_52 rfl (lv_at hl 3 rfl) ?_
        refine lv_iadd hx hb dX5_isWord_53 ?_
        obtain ⟨hi_6, h⟩ := ifs h
        refine va_iald hx hb hE.1 hP 5 0 rfl rfl hi_6 dX5_isWord_54 ?_
        refine lv_aload_n hx hb dX5_isWord_55 rfl (lv_at hl 1 rfl) ?_
        refine lv_iload_n hx hb dX5_isWord_56 rfl (lv_at hl 3 rfl) ?_
        obtain ⟨hj_7, h⟩ := ifs h
        refine kRi (rV C0 (tJ0_charAt_5068e l D cI cS cs i1 hi1 v3 hj_7 (in_lt hj_7 (LEN_ok i1 hi1).1)) RJ0 gX5_isWord_J0_charAt_5068e rfl ⟨rfl, rfl⟩ pdJ0_charAt_5068e rfl ⟨Nat.le_of_ble_eq_true rfl, Nat.le_of_ble_eq_true rfl⟩ (fun _ _ _ _ q => q.call) (vk_recv (hCS.1 i1 hi1) (i := 0) (by decide) hS) (fun U hU hW _ => by rw [hU]; exact hCS.warm hW) hl.1 rfl (Nat.le_of_ble_eq_true rfl) dX5_isWord_57 ⟨Nat.zero_le _, Nat.zero_le _⟩) ?_
        refine lv_icmp_ne (tgt := 67) hx hb dX5_isWord_60 (by decide) (fun c_8 => ?_) (fun c_8 => ?_)
        · have h := ifn c_8 h
          refine lv_iconst (v := 0) hx hb dX5_isWord_67 (by decide) ?_
          refine lv_istore_n (lv' := [(2, .int 0), (0, .ref a0), (1, .ref (cs.1 i1)), (3, .int v3)]) hx hb dX5_isWord_68 rfl hl (by decide) rfl (fun ls hl => ?_)
          refine lv_iinc (v := v3 + 1) (lv' := [(3, .int (v3 + 1)), (2, .int 0), (0, .ref a0), (1, .ref (cs.1 i1))]) hx hb dX5_isWord_69 hl (k := 3) rfl rfl (by decide) rfl (fun ls hl => ?_)
          refine lv_goto (tgt := 32) hx hb dX5_isWord_72 (by decide) ?_
          exact ih 0 (v3 + 1) _ (lv_sub hl [2, 3, 1, 0] rfl) h
        · have h := ifp c_8 h
          refine lv_iconst (v := 1) hx hb dX5_isWord_63 (by decide) ?_
          refine lv_goto (tgt := 68) hx hb dX5_isWord_64 (by decide) ?_
          refine lv_istore_n (lv' := [(2, .int 1), (0, .ref a0), (1, .ref (cs.1 i1)), (3, .int v3)]) hx hb dX5_isWord_68 rfl hl (by decide) rfl (fun ls hl => ?_)
          refine lv_iinc (v := v3 + 1) (lv' := [(3, .int (v3 + 1)), (2, .int 1), (0, .ref a0), (1, .ref (cs.1 i1))]) hx hb dX5_isWord_69 hl (k := 3) rfl rfl (by decide) rfl (fun ls hl => ?_)
          refine lv_goto (tgt := 32) hx hb dX5_isWord_72 (by decide) ?_
          exact ih 1 (v3 + 1) _ (lv_sub hl [2, 3, 1, 0] rfl) h
set_option maxHeartbeats 4000000 in
set_option maxRecDepth 100000 in
theorem tX5_isWord (l : Launch) (D : va_G) (cI cS : ClassId) (cs : CSt) (F : Nat) (a0 a1 a2 a3 a4 a5 a6 a7 a8 a9 a10 a11 : Nat) (nw : Nat → Int32) (kp : Nat → Int32) (ad : Nat → Int32) (fd : Nat → Int32) (tp : Nat → Int32) (kn : Nat → Option Nat) (it : Nat → Int32) (wd : Nat → Int32) (sz : Nat → Int32) (nm : Nat → Int32) (mv : Nat → Int32) (ik : Int32) (td : Int32) (bg : Int32) (en : Int32) (so : Int32) (va : Int32) (iw : Int32) (im : Int32) (st : Int32) (ht : Int32) (i1 : Nat) (z0 : Int32) (h : fX5_isWord F tp bg en so i1 = some z0) (hi1 : i1 < 14) : Met l yX5_isWord wsX5_isWord rmX5_isWord (PZ D cI cS [.ref a0, .ref (cs.1 i1)] (fun U => va_P D vwCl (wX5 cI cS a0 a1 a2 a3 a4 a5 a6 a7 a8 a9 a10 a11 nw kp ad fd tp kn it wd sz nm mv ik td bg en so va iw im st ht) U.heap ∧ CST cs NoA U U.heap)) (vp_Si (fun x => x = z0)) 0 0 (fun _ => False) := by
  refine Met.mk RX5 (by decide) rfl rfl (Nat.le_of_ble_eq_true rfl) ?_
  intro p e s m below meth c ls C0 hP hl
  obtain ⟨hP, hCS⟩ := hP
  have hl : lv_has ls 4 [(0, .ref a0), (1, .ref (cs.1 i1))] := hl
  obtain ⟨hx, hb, hr, hml, hown, hts, hlk, hE⟩ := id C0
  have hinX5 : ∀ w ∈ u_ws RX5 TX5 21, w ∈ wsX5_isWord := by decide +kernel
  have hS : va_S NoA s.heap s.heap [] := va_S.rf
  rw [fX5_isWord] at h
  refine lv_aload_n hx hb dX5_isWord_0 rfl (lv_at hl 0 rfl) ?_
  refine va_get (D := D) (ci := 4) (v := .int so) (C := RX5) (T := TX5) (N := 21) hx hb hts hinX5 hown hE.1 hP 0 rfl rfl 9 (by decide) (hts _ (List.mem_of_getElem? (i := 1) rfl)) (fun _ h9 => h9) rfl dX5_isWord_1 ?_
  refine lv_iconst (v := 1) hx hb dX5_isWord_4 (by decide) ?_
  refine lv_icmp_ne (tgt := 28) hx hb dX5_isWord_5 (by decide) (fun c_1 => ?_) (fun c_1 => ?_)
  · have h := ifn c_1 h
    refine lv_iconst (v := 0) hx hb dX5_isWord_28 (by decide) ?_
    refine lv_istore_n (lv' := [(2, .int 0), (0, .ref a0), (1, .ref (cs.1 i1))]) hx hb dX5_isWord_29 rfl hl (by decide) rfl (fun ls hl => ?_)
    refine lv_iconst (v := 0) hx hb dX5_isWord_30 (by decide) ?_
    refine lv_istore_n (lv' := [(3, .int 0), (2, .int 0), (0, .ref a0), (1, .ref (cs.1 i1))]) hx hb dX5_isWord_31 rfl hl (by decide) rfl (fun ls hl => ?_)
    exact lX5_isWord_32 (l := l) (e := e) (below := below) C0 F nw kp ad fd tp kn it wd sz nm mv ik td bg en so va iw im st ht z0 cs hi1 hCS hP F 0 0 _ (lv_sub hl [2, 3, 1, 0] rfl) h
  · have h := ifp c_1 h
    refine lv_aload_n hx hb dX5_isWord_8 rfl (lv_at hl 0 rfl) ?_
    refine va_get (D := D) (ci := 4) (v := .int en) (C := RX5) (T := TX5) (N := 21) hx hb hts hinX5 hown hE.1 hP 0 rfl rfl 8 (by decide) (hts _ (List.mem_of_getElem? (i := 2) rfl)) (fun _ h9 => h9) rfl dX5_isWord_9 ?_
    refine lv_aload_n hx hb dX5_isWord_12 rfl (lv_at hl 0 rfl) ?_
    refine va_get (D := D) (ci := 4) (v := .int bg) (C := RX5) (T := TX5) (N := 21) hx hb hts hinX5 hown hE.1 hP 0 rfl rfl 7 (by decide) (hts _ (List.mem_of_getElem? (i := 3) rfl)) (fun _ h9 => h9) rfl dX5_isWord_13 ?_
    refine lv_isub hx hb dX5_isWord_16 ?_
    refine lv_aload_n hx hb dX5_isWord_17 rfl (lv_at hl 1 rfl) ?_
    refine kRi (rV C0 (tJ0_length_8abf5 l D cI cS cs i1 hi1) RJ0 gX5_isWord_J0_length_8abf5 rfl ⟨rfl, rfl⟩ pdJ0_length_8abf5 rfl ⟨Nat.le_of_ble_eq_true rfl, Nat.le_of_ble_eq_true rfl⟩ (fun _ _ _ _ q => q.call) (vk_recv (hCS.1 i1 hi1) (i := 0) (by decide) hS) (fun U hU hW _ => by rw [hU]; exact hCS.warm hW) hl.1 rfl (Nat.le_of_ble_eq_true rfl) dX5_isWord_18 ⟨Nat.zero_le _, Nat.zero_le _⟩) ?_
    refine lv_icmp_ne (tgt := 28) hx hb dX5_isWord_21 (by decide) (fun c_9 => ?_) (fun c_9 => ?_)
    · have h := ifn c_9 h
      refine lv_iconst (v := 0) hx hb dX5_isWord_28 (by decide) ?_
      refine lv_istore_n (lv' := [(2, .int 0), (0, .ref a0), (1, .ref (cs.1 i1))]) hx hb dX5_isWord_29 rfl hl (by decide) rfl (fun ls hl => ?_)
      refine lv_iconst (v := 0) hx hb dX5_isWord_30 (by decide) ?_
      refine lv_istore_n (lv' := [(3, .int 0), (2, .int 0), (0, .ref a0), (1, .ref (cs.1 i1))]) hx hb dX5_isWord_31 rfl hl (by decide) rfl (fun ls hl => ?_)
      exact lX5_isWord_32 (l := l) (e := e) (below := below) C0 F nw kp ad fd tp kn it wd sz nm mv ik td bg en so va iw im st ht z0 cs hi1 hCS hP F 0 0 _ (lv_sub hl [2, 3, 1, 0] rfl) h
    · have h := ifp c_9 h
      refine lv_iconst (v := 1) hx hb dX5_isWord_24 (by decide) ?_
      refine lv_goto (tgt := 29) hx hb dX5_isWord_25 (by decide) ?_
      refine lv_istore_n (lv' := [(2, .int 1), (0, .ref a0), (1, .ref (cs.1 i1))]) hx hb dX5_isWord_29 rfl hl (by decide) rfl (fun ls hl => ?_)
      refine lv_iconst (v := 0) hx hb dX5_isWord_30 (by decide) ?_
      refine lv_istore_n (lv' := [(3, .int 0), (2, .int 1), (0, .ref a0), (1, .ref (cs.1 i1))]) hx hb dX5_isWord_31 rfl hl (by decide) rfl (fun ls hl => ?_)
      exact lX5_isWord_32 (l := l) (e := e) (below := below) C0 F nw kp ad fd tp kn it wd sz nm mv ik td bg en so va iw im st ht z0 cs hi1 hCS hP F 1 0 _ (lv_sub hl [2, 3, 1, 0] rfl) h
def fX5_must (F : Nat) (tp : Nat → Int32) (td : Int32) (bg : Int32) (en : Int32) (so : Int32) (va : Int32) (iw : Int32) (v1 : Int32) : Option (Int32 × Int32 × Int32 × Int32 × Int32) := (if iw = 0 then (if v1 = 0 then some (bg, en, so, va, 1) else Option.bind (fX5_token F tp td bg en so va) (fun z_5 => some (z_5.1, z_5.2.1, z_5.2.2.1, z_5.2.2.2, 0))) else some (bg, en, so, va, 1))
abbrev rmX5_must : Room := { frames := 2, cells := 0, slots := 0, locals := 43 }
theorem pdX5_must : (yX5_must.cls = RX5 ∧ yX5_must.cls ≠ "java/lang/invoke/MethodHandle" ∧ yX5_must.cls ≠ "java/lang/invoke/VarHandle" ∧ (parseMethodDescriptor yX5_must.desc).map (fun d => d.parameters.length) = some 1) := by decide +kernel
set_option maxHeartbeats 4000000 in
set_option maxRecDepth 100000 in
theorem tX5_must (l : Launch) (D : va_G) (cI cS : ClassId) (F : Nat) (a0 a1 a2 a3 a4 a5 a6 a7 a8 a9 a10 a11 : Nat) (nw : Nat → Int32) (kp : Nat → Int32) (ad : Nat → Int32) (fd : Nat → Int32) (tp : Nat → Int32) (kn : Nat → Option Nat) (it : Nat → Int32) (wd : Nat → Int32) (sz : Nat → Int32) (nm : Nat → Int32) (mv : Nat → Int32) (ik : Int32) (td : Int32) (bg : Int32) (en : Int32) (so : Int32) (va : Int32) (iw : Int32) (im : Int32) (st : Int32) (ht : Int32) (v1 : Int32) (z0 : Int32) (z1 : Int32) (z2 : Int32) (z3 : Int32) (z4 : Int32) (h : fX5_must F tp td bg en so va iw v1 = some (z0, z1, z2, z3, z4)) (hD0 : va_D (fun _ => True) (wX5 cI cS a0 a1 a2 a3 a4 a5 a6 a7 a8 a9 a10 a11 nw kp ad fd tp kn it wd sz nm mv ik td bg en so va iw im st ht)) : Met l yX5_must wsX5_must rmX5_must (PZ D cI cS [.ref a0, .int v1] (fun U => va_P D vwCl (wX5 cI cS a0 a1 a2 a3 a4 a5 a6 a7 a8 a9 a10 a11 nw kp ad fd tp kn it wd sz nm mv ik td bg en so va iw im st ht) U.heap)) (qV D (wX5 cI cS a0 a1 a2 a3 a4 a5 a6 a7 a8 a9 a10 a11 nw kp ad fd tp kn it wd sz nm mv ik td bg en so va iw im st ht) (wX5 cI cS a0 a1 a2 a3 a4 a5 a6 a7 a8 a9 a10 a11 nw kp ad fd tp kn it wd sz nm mv ik td z0 z1 z2 z3 z4 im st ht)) 0 0 (wA (wX5 cI cS a0 a1 a2 a3 a4 a5 a6 a7 a8 a9 a10 a11 nw kp ad fd tp kn it wd sz nm mv ik td bg en so va iw im st ht)) := by
  refine Met.mk RX5 (by decide) rfl rfl (Nat.le_of_ble_eq_true rfl) ?_
  intro p e s m below meth c ls C0 hP hl
  have hl : lv_has ls 2 [(0, .ref a0), (1, .int v1)] := hl
  obtain ⟨hx, hb, hr, hml, hown, hts, hlk, hE⟩ := id C0
  have hinX5 : ∀ w ∈ u_ws RX5 TX5 21, w ∈ wsX5_must := by decide +kernel
  have hD : ∀ W : va_W, W.map Prod.fst = [a0, a1, a2, a3, a4, a5, a6, a7, a8, a9, a10, a11] → va_D (wA (wX5 cI cS a0 a1 a2 a3 a4 a5 a6 a7 a8 a9 a10 a11 nw kp ad fd tp kn it wd sz nm mv ik td bg en so va iw im st ht)) W := fun W hW => hD0.own.re hW
  have hS : va_S (wA (wX5 cI cS a0 a1 a2 a3 a4 a5 a6 a7 a8 a9 a10 a11 nw kp ad fd tp kn it wd sz nm mv ik td bg en so va iw im st ht)) s.heap s.heap [] := va_S.rf
  have hP : va_P D vwCl (wX5 cI cS a0 a1 a2 a3 a4 a5 a6 a7 a8 a9 a10 a11 nw kp ad fd tp kn it wd sz nm mv ik td bg en so va iw im st ht) s.heap := hP
  rw [fX5_must] at h
  refine lv_aload_n hx hb dX5_must_0 rfl (lv_at hl 0 rfl) ?_
  refine lv_aload_n hx hb dX5_must_1 rfl (lv_at hl 0 rfl) ?_
  refine va_get (D := D) (ci := 4) (v := .int iw) (C := RX5) (T := TX5) (N := 21) hx hb hts hinX5 hown hE.1 hP 0 rfl rfl 11 (by decide) (hts _ (List.mem_of_getElem? (i := 1) rfl)) (fun _ h9 => h9) rfl dX5_must_2 ?_
  refine lv_if_ne (tgt := 12) hx hb dX5_must_5 (by decide) (fun c_1 => ?_) (fun c_1 => ?_)
  · have h := ifn c_1 h
    refine lv_iconst (v := 1) hx hb dX5_must_12 (by decide) ?_
    refine lv_goto (tgt := 17) hx hb dX5_must_13 (by decide) ?_
    refine va_put (D := D) (ci := 4) (v := .int 1) (ty := .boolean) (C := RX5) (T := TX5) (N := 21) hx hb hts hinX5 tyX5 tyX5_ok nmX5 hown hE.1 hP (hD _ rfl) hS 0 rfl rfl 11 (by decide) (hts _ (List.mem_of_getElem? (i := 1) rfl)) (fun _ h9 => h9) rfl (by decide +kernel) rfl rfl (Nat.le_of_ble_eq_true rfl) dX5_must_17 (fun H locs hP _ hS => ?_)
    have hP : va_P D vwCl (wX5 cI cS a0 a1 a2 a3 a4 a5 a6 a7 a8 a9 a10 a11 nw kp ad fd tp kn it wd sz nm mv ik td bg en so va 1 im st ht) H := hP
    refine lv_aload_n hx hb dX5_must_20 rfl (lv_at hl 0 rfl) ?_
    refine va_get (D := D) (ci := 4) (v := .int 1) (C := RX5) (T := TX5) (N := 21) hx hb hts hinX5 hown hE.1 hP 0 rfl rfl 11 (by decide) (hts _ (List.mem_of_getElem? (i := 1) rfl)) (fun _ h9 => h9) rfl dX5_must_21 ?_
    refine lv_if_ne (tgt := 31) hx hb dX5_must_24 (by decide) (fun c_2 => ?_) (fun c_2 => ?_)
    · obtain ⟨q0, g0⟩ := Prod.mk.inj (Option.some.inj h)
      obtain ⟨q1, g1⟩ := Prod.mk.inj g0
      obtain ⟨q2, g2⟩ := Prod.mk.inj g1
      obtain ⟨q3, q4⟩ := Prod.mk.inj g2
      subst q0 q1 q2 q3 q4
      exact eMv C0 hP hS rfl dX5_must_31
    · exact absurd c_2 (by decide)
  · have h := ifp c_1 h
    refine lv_iload_n hx hb dX5_must_8 rfl (lv_at hl 1 rfl) ?_
    refine lv_if_ne (tgt := 16) hx hb dX5_must_9 (by decide) (fun c_3 => ?_) (fun c_3 => ?_)
    · have h := ifn c_3 h
      refine lv_iconst (v := 0) hx hb dX5_must_16 (by decide) ?_
      refine va_put (D := D) (ci := 4) (v := .int 0) (ty := .boolean) (C := RX5) (T := TX5) (N := 21) hx hb hts hinX5 tyX5 tyX5_ok nmX5 hown hE.1 hP (hD _ rfl) hS 0 rfl rfl 11 (by decide) (hts _ (List.mem_of_getElem? (i := 1) rfl)) (fun _ h9 => h9) rfl (by decide +kernel) rfl rfl (Nat.le_of_ble_eq_true rfl) dX5_must_17 (fun H locs hP _ hS => ?_)
      have hP : va_P D vwCl (wX5 cI cS a0 a1 a2 a3 a4 a5 a6 a7 a8 a9 a10 a11 nw kp ad fd tp kn it wd sz nm mv ik td bg en so va 0 im st ht) H := hP
      refine lv_aload_n hx hb dX5_must_20 rfl (lv_at hl 0 rfl) ?_
      refine va_get (D := D) (ci := 4) (v := .int 0) (C := RX5) (T := TX5) (N := 21) hx hb hts hinX5 hown hE.1 hP 0 rfl rfl 11 (by decide) (hts _ (List.mem_of_getElem? (i := 1) rfl)) (fun _ h9 => h9) rfl dX5_must_21 ?_
      refine lv_if_ne (tgt := 31) hx hb dX5_must_24 (by decide) (fun c_4 => ?_) (fun c_4 => ?_)
      · exact absurd c_4 (by decide)
      · refine lv_aload_n hx hb dX5_must_27 rfl (lv_at hl 0 rfl) ?_
        obtain ⟨z_5, e_6, h⟩ := bds h
        have hPc := hP.sub (ws' := (wX5 cI cS a0 a1 a2 a3 a4 a5 a6 a7 a8 a9 a10 a11 nw kp ad fd tp kn it wd sz nm mv ik td bg en so va 0 im st ht)) [0, 1, 2, 3, 4, 5, 6, 7, 8, 9, 10, 11] rfl
        refine kMv (wf' := (wX5 cI cS a0 a1 a2 a3 a4 a5 a6 a7 a8 a9 a10 a11 nw kp ad fd tp kn it wd sz nm mv ik td z_5.1 z_5.2.1 z_5.2.2.1 z_5.2.2.2 0 im st ht)) [0, 1, 2, 3, 4, 5, 6, 7, 8, 9, 10, 11] [some 0, some 1, some 2, some 3, some 4, some 5, some 6, some 7, some 8, some 9, some 10, some 11] (rV C0 (tX5_token l D cI cS F a0 a1 a2 a3 a4 a5 a6 a7 a8 a9 a10 a11 nw kp ad fd tp kn it wd sz nm mv ik td bg en so va 0 im st ht  z_5.1 z_5.2.1 z_5.2.2.1 z_5.2.2.2 e_6 (((hD (wX5 cI cS a0 a1 a2 a3 a4 a5 a6 a7 a8 a9 a10 a11 nw kp ad fd tp kn it wd sz nm mv ik td bg en so va 0 im st ht) rfl).sub [0, 1, 2, 3, 4, 5, 6, 7, 8, 9, 10, 11] (by decide) rfl).weaken (fun _ _ _ _ => trivial))) RX5 gX5_must_X5_token rfl ⟨rfl, rfl⟩ pdX5_token rfl ⟨Nat.le_of_ble_eq_true rfl, Nat.le_of_ble_eq_true rfl⟩ (fun _ _ _ _ q => q) (va_recv hE.1 hPc (ci := 4) (q0 := 0) rfl rfl) (fun U hU _ _ => by rw [hU]; exact hPc) hl.1 rfl (Nat.le_of_ble_eq_true rfl) dX5_must_28 ⟨Nat.zero_le _, Nat.zero_le _⟩) hP (hD _ rfl) hS rfl rfl rfl (fun H locs hP hS => ?_)
        obtain ⟨q0, g0⟩ := Prod.mk.inj (Option.some.inj h)
        obtain ⟨q1, g1⟩ := Prod.mk.inj g0
        obtain ⟨q2, g2⟩ := Prod.mk.inj g1
        obtain ⟨q3, q4⟩ := Prod.mk.inj g2
        subst q0 q1 q2 q3 q4
        exact eMv C0 hP hS rfl dX5_must_31
    · have h := ifp c_3 h
      refine lv_iconst (v := 1) hx hb dX5_must_12 (by decide) ?_
      refine lv_goto (tgt := 17) hx hb dX5_must_13 (by decide) ?_
      refine va_put (D := D) (ci := 4) (v := .int 1) (ty := .boolean) (C := RX5) (T := TX5) (N := 21) hx hb hts hinX5 tyX5 tyX5_ok nmX5 hown hE.1 hP (hD _ rfl) hS 0 rfl rfl 11 (by decide) (hts _ (List.mem_of_getElem? (i := 1) rfl)) (fun _ h9 => h9) rfl (by decide +kernel) rfl rfl (Nat.le_of_ble_eq_true rfl) dX5_must_17 (fun H locs hP _ hS => ?_)
      have hP : va_P D vwCl (wX5 cI cS a0 a1 a2 a3 a4 a5 a6 a7 a8 a9 a10 a11 nw kp ad fd tp kn it wd sz nm mv ik td bg en so va 1 im st ht) H := hP
      refine lv_aload_n hx hb dX5_must_20 rfl (lv_at hl 0 rfl) ?_
      refine va_get (D := D) (ci := 4) (v := .int 1) (C := RX5) (T := TX5) (N := 21) hx hb hts hinX5 hown hE.1 hP 0 rfl rfl 11 (by decide) (hts _ (List.mem_of_getElem? (i := 1) rfl)) (fun _ h9 => h9) rfl dX5_must_21 ?_
      refine lv_if_ne (tgt := 31) hx hb dX5_must_24 (by decide) (fun c_7 => ?_) (fun c_7 => ?_)
      · obtain ⟨q0, g0⟩ := Prod.mk.inj (Option.some.inj h)
        obtain ⟨q1, g1⟩ := Prod.mk.inj g0
        obtain ⟨q2, g2⟩ := Prod.mk.inj g1
        obtain ⟨q3, q4⟩ := Prod.mk.inj g2
        subst q0 q1 q2 q3 q4
        exact eMv C0 hP hS rfl dX5_must_31
      · exact absurd c_7 (by decide)
def fX5_number (F : Nat) (tp : Nat → Int32) (td : Int32) (bg : Int32) (en : Int32) (so : Int32) (va : Int32) (iw : Int32) (v1 : Int32) (v2 : Int32) : Option (Int32 × Int32 × Int32 × Int32 × Int32 × Int32) := (if so = 2 then (if (fX5_within va v1 v2) = 0 then Option.bind (fX5_must F tp td bg en so va iw 0) (fun z_5 => some (va, z_5.1, z_5.2.1, z_5.2.2.1, z_5.2.2.2.1, z_5.2.2.2.2)) else Option.bind (fX5_must F tp td bg en so va iw 1) (fun z_7 => some (va, z_7.1, z_7.2.1, z_7.2.2.1, z_7.2.2.2.1, z_7.2.2.2.2))) else Option.bind (fX5_must F tp td bg en so va iw 0) (fun z_2 => some (va, z_2.1, z_2.2.1, z_2.2.2.1, z_2.2.2.2.1, z_2.2.2.2.2)))
abbrev rmX5_number : Room := { frames := 3, cells := 0, slots := 0, locals := 64 }
theorem pdX5_number : (yX5_number.cls = RX5 ∧ yX5_number.cls ≠ "java/lang/invoke/MethodHandle" ∧ yX5_number.cls ≠ "java/lang/invoke/VarHandle" ∧ (parseMethodDescriptor yX5_number.desc).map (fun d => d.parameters.length) = some 2) := by decide +kernel
set_option maxHeartbeats 4000000 in
set_option maxRecDepth 100000 in
theorem tX5_number (l : Launch) (D : va_G) (cI cS : ClassId) (F : Nat) (a0 a1 a2 a3 a4 a5 a6 a7 a8 a9 a10 a11 : Nat) (nw : Nat → Int32) (kp : Nat → Int32) (ad : Nat → Int32) (fd : Nat → Int32) (tp : Nat → Int32) (kn : Nat → Option Nat) (it : Nat → Int32) (wd : Nat → Int32) (sz : Nat → Int32) (nm : Nat → Int32) (mv : Nat → Int32) (ik : Int32) (td : Int32) (bg : Int32) (en : Int32) (so : Int32) (va : Int32) (iw : Int32) (im : Int32) (st : Int32) (ht : Int32) (v1 : Int32) (v2 : Int32) (z0 : Int32) (z1 : Int32) (z2 : Int32) (z3 : Int32) (z4 : Int32) (z5 : Int32) (h : fX5_number F tp td bg en so va iw v1 v2 = some (z0, z1, z2, z3, z4, z5)) (hD0 : va_D (fun _ => True) (wX5 cI cS a0 a1 a2 a3 a4 a5 a6 a7 a8 a9 a10 a11 nw kp ad fd tp kn it wd sz nm mv ik td bg en so va iw im st ht)) : Met l yX5_number wsX5_number rmX5_number (PZ D cI cS [.ref a0, .int v1, .int v2] (fun U => va_P D vwCl (wX5 cI cS a0 a1 a2 a3 a4 a5 a6 a7 a8 a9 a10 a11 nw kp ad fd tp kn it wd sz nm mv ik td bg en so va iw im st ht) U.heap)) (qI D (wX5 cI cS a0 a1 a2 a3 a4 a5 a6 a7 a8 a9 a10 a11 nw kp ad fd tp kn it wd sz nm mv ik td bg en so va iw im st ht) (wX5 cI cS a0 a1 a2 a3 a4 a5 a6 a7 a8 a9 a10 a11 nw kp ad fd tp kn it wd sz nm mv ik td z1 z2 z3 z4 z5 im st ht) z0) 0 0 (wA (wX5 cI cS a0 a1 a2 a3 a4 a5 a6 a7 a8 a9 a10 a11 nw kp ad fd tp kn it wd sz nm mv ik td bg en so va iw im st ht)) := by
  refine Met.mk RX5 (by decide) rfl rfl (Nat.le_of_ble_eq_true rfl) ?_
  intro p e s m below meth c ls C0 hP hl
  have hl : lv_has ls 4 [(0, .ref a0), (1, .int v1), (2, .int v2)] := hl
  obtain ⟨hx, hb, hr, hml, hown, hts, hlk, hE⟩ := id C0
  have hinX5 : ∀ w ∈ u_ws RX5 TX5 21, w ∈ wsX5_number := by decide +kernel
  have hD : ∀ W : va_W, W.map Prod.fst = [a0, a1, a2, a3, a4, a5, a6, a7, a8, a9, a10, a11] → va_D (wA (wX5 cI cS a0 a1 a2 a3 a4 a5 a6 a7 a8 a9 a10 a11 nw kp ad fd tp kn it wd sz nm mv ik td bg en so va iw im st ht)) W := fun W hW => hD0.own.re hW
  have hS : va_S (wA (wX5 cI cS a0 a1 a2 a3 a4 a5 a6 a7 a8 a9 a10 a11 nw kp ad fd tp kn it wd sz nm mv ik td bg en so va iw im st ht)) s.heap s.heap [] := va_S.rf
  have hP : va_P D vwCl (wX5 cI cS a0 a1 a2 a3 a4 a5 a6 a7 a8 a9 a10 a11 nw kp ad fd tp kn it wd sz nm mv ik td bg en so va iw im st ht) s.heap := hP
  rw [fX5_number] at h
  refine lv_aload_n hx hb dX5_number_0 rfl (lv_at hl 0 rfl) ?_
  refine va_get (D := D) (ci := 4) (v := .int va) (C := RX5) (T := TX5) (N := 21) hx hb hts hinX5 hown hE.1 hP 0 rfl rfl 10 (by decide) (hts _ (List.mem_of_getElem? (i := 1) rfl)) (fun _ h9 => h9) rfl dX5_number_1 ?_
  refine lv_istore_n (lv' := [(3, .int va), (0, .ref a0), (1, .int v1), (2, .int v2)]) hx hb dX5_number_4 rfl hl (by decide) rfl (fun ls hl => ?_)
  refine lv_aload_n hx hb dX5_number_5 rfl (lv_at hl 1 rfl) ?_
  refine lv_aload_n hx hb dX5_number_6 rfl (lv_at hl 1 rfl) ?_
  refine va_get (D := D) (ci := 4) (v := .int so) (C := RX5) (T := TX5) (N := 21) hx hb hts hinX5 hown hE.1 hP 0 rfl rfl 9 (by decide) (hts _ (List.mem_of_getElem? (i := 2) rfl)) (fun _ h9 => h9) rfl dX5_number_7 ?_
  refine lv_iconst (v := 2) hx hb dX5_number_10 (by decide) ?_
  refine lv_icmp_ne (tgt := 27) hx hb dX5_number_11 (by decide) (fun c_1 => ?_) (fun c_1 => ?_)
  · have h := ifn c_1 h
    refine lv_iconst (v := 0) hx hb dX5_number_27 (by decide) ?_
    obtain ⟨z_2, e_3, h⟩ := bds h
    have hPc := hP.sub (ws' := (wX5 cI cS a0 a1 a2 a3 a4 a5 a6 a7 a8 a9 a10 a11 nw kp ad fd tp kn it wd sz nm mv ik td bg en so va iw im st ht)) [0, 1, 2, 3, 4, 5, 6, 7, 8, 9, 10, 11] rfl
    refine kMv (wf' := (wX5 cI cS a0 a1 a2 a3 a4 a5 a6 a7 a8 a9 a10 a11 nw kp ad fd tp kn it wd sz nm mv ik td z_2.1 z_2.2.1 z_2.2.2.1 z_2.2.2.2.1 z_2.2.2.2.2 im st ht)) [0, 1, 2, 3, 4, 5, 6, 7, 8, 9, 10, 11] [some 0, some 1, some 2, some 3, some 4, some 5, some 6, some 7, some 8, some 9, some 10, some 11] (rV C0 (tX5_must l D cI cS F a0 a1 a2 a3 a4 a5 a6 a7 a8 a9 a10 a11 nw kp ad fd tp kn it wd sz nm mv ik td bg en so va iw im st ht 0 z_2.1 z_2.2.1 z_2.2.2.1 z_2.2.2.2.1 z_2.2.2.2.2 e_3 (((hD (wX5 cI cS a0 a1 a2 a3 a4 a5 a6 a7 a8 a9 a10 a11 nw kp ad fd tp kn it wd sz nm mv ik td bg en so va iw im st ht) rfl).sub [0, 1, 2, 3, 4, 5, 6, 7, 8, 9, 10, 11] (by decide) rfl).weaken (fun _ _ _ _ => trivial))) RX5 gX5_number_X5_must rfl ⟨rfl, rfl⟩ pdX5_must rfl ⟨Nat.le_of_ble_eq_true rfl, Nat.le_of_ble_eq_true rfl⟩ (fun _ _ _ _ q => q) (va_recv hE.1 hPc (ci := 4) (q0 := 0) rfl rfl) (fun U hU _ _ => by rw [hU]; exact hPc) hl.1 rfl (Nat.le_of_ble_eq_true rfl) dX5_number_28 ⟨Nat.zero_le _, Nat.zero_le _⟩) hP (hD _ rfl) hS rfl rfl rfl (fun H locs hP hS => ?_)
    refine lv_iload_n hx hb dX5_number_31 rfl (lv_at hl 0 rfl) ?_
    obtain ⟨q0, g0⟩ := Prod.mk.inj (Option.some.inj h)
    obtain ⟨q1, g1⟩ := Prod.mk.inj g0
    obtain ⟨q2, g2⟩ := Prod.mk.inj g1
    obtain ⟨q3, g3⟩ := Prod.mk.inj g2
    obtain ⟨q4, q5⟩ := Prod.mk.inj g3
    subst q0 q1 q2 q3 q4 q5
    exact eMi C0 hP hS rfl rfl dX5_number_32
  · have h := ifp c_1 h
    refine lv_iload_n hx hb dX5_number_14 rfl (lv_at hl 0 rfl) ?_
    refine lv_iload_n hx hb dX5_number_15 rfl (lv_at hl 2 rfl) ?_
    refine lv_iload_n hx hb dX5_number_16 rfl (lv_at hl 3 rfl) ?_
    refine kRi (rS C0 (tX5_within l D cI cS va v1 v2 (fX5_within va v1 v2) rfl) gX5_number_X5_within rfl ⟨rfl, rfl⟩ pdX5_within rfl ⟨Nat.le_of_ble_eq_true rfl, Nat.le_of_ble_eq_true rfl⟩ (fun _ _ _ _ q => q) (fun _ _ _ _ => vp0) hl.1 rfl (Nat.le_of_ble_eq_true rfl) dX5_number_17 ⟨Nat.zero_le _, Nat.zero_le _⟩) ?_
    refine lv_if_eq (tgt := 27) hx hb dX5_number_20 (by decide) (fun c_4 => ?_) (fun c_4 => ?_)
    · have h := ifp c_4 h
      refine lv_iconst (v := 0) hx hb dX5_number_27 (by decide) ?_
      obtain ⟨z_5, e_6, h⟩ := bds h
      have hPc := hP.sub (ws' := (wX5 cI cS a0 a1 a2 a3 a4 a5 a6 a7 a8 a9 a10 a11 nw kp ad fd tp kn it wd sz nm mv ik td bg en so va iw im st ht)) [0, 1, 2, 3, 4, 5, 6, 7, 8, 9, 10, 11] rfl
      refine kMv (wf' := (wX5 cI cS a0 a1 a2 a3 a4 a5 a6 a7 a8 a9 a10 a11 nw kp ad fd tp kn it wd sz nm mv ik td z_5.1 z_5.2.1 z_5.2.2.1 z_5.2.2.2.1 z_5.2.2.2.2 im st ht)) [0, 1, 2, 3, 4, 5, 6, 7, 8, 9, 10, 11] [some 0, some 1, some 2, some 3, some 4, some 5, some 6, some 7, some 8, some 9, some 10, some 11] (rV C0 (tX5_must l D cI cS F a0 a1 a2 a3 a4 a5 a6 a7 a8 a9 a10 a11 nw kp ad fd tp kn it wd sz nm mv ik td bg en so va iw im st ht 0 z_5.1 z_5.2.1 z_5.2.2.1 z_5.2.2.2.1 z_5.2.2.2.2 e_6 (((hD (wX5 cI cS a0 a1 a2 a3 a4 a5 a6 a7 a8 a9 a10 a11 nw kp ad fd tp kn it wd sz nm mv ik td bg en so va iw im st ht) rfl).sub [0, 1, 2, 3, 4, 5, 6, 7, 8, 9, 10, 11] (by decide) rfl).weaken (fun _ _ _ _ => trivial))) RX5 gX5_number_X5_must rfl ⟨rfl, rfl⟩ pdX5_must rfl ⟨Nat.le_of_ble_eq_true rfl, Nat.le_of_ble_eq_true rfl⟩ (fun _ _ _ _ q => q) (va_recv hE.1 hPc (ci := 4) (q0 := 0) rfl rfl) (fun U hU _ _ => by rw [hU]; exact hPc) hl.1 rfl (Nat.le_of_ble_eq_true rfl) dX5_number_28 ⟨Nat.zero_le _, Nat.zero_le _⟩) hP (hD _ rfl) hS rfl rfl rfl (fun H locs hP hS => ?_)
      refine lv_iload_n hx hb dX5_number_31 rfl (lv_at hl 0 rfl) ?_
      obtain ⟨q0, g0⟩ := Prod.mk.inj (Option.some.inj h)
      obtain ⟨q1, g1⟩ := Prod.mk.inj g0
      obtain ⟨q2, g2⟩ := Prod.mk.inj g1
      obtain ⟨q3, g3⟩ := Prod.mk.inj g2
      obtain ⟨q4, q5⟩ := Prod.mk.inj g3
      subst q0 q1 q2 q3 q4 q5
      exact eMi C0 hP hS rfl rfl dX5_number_32
    · have h := ifn c_4 h
      refine lv_iconst (v := 1) hx hb dX5_number_23 (by decide) ?_
      refine lv_goto (tgt := 28) hx hb dX5_number_24 (by decide) ?_
      obtain ⟨z_7, e_8, h⟩ := bds h
      have hPc := hP.sub (ws' := (wX5 cI cS a0 a1 a2 a3 a4 a5 a6 a7 a8 a9 a10 a11 nw kp ad fd tp kn it wd sz nm mv ik td bg en so va iw im st ht)) [0, 1, 2, 3, 4, 5, 6, 7, 8, 9, 10, 11] rfl
      refine kMv (wf' := (wX5 cI cS a0 a1 a2 a3 a4 a5 a6 a7 a8 a9 a10 a11 nw kp ad fd tp kn it wd sz nm mv ik td z_7.1 z_7.2.1 z_7.2.2.1 z_7.2.2.2.1 z_7.2.2.2.2 im st ht)) [0, 1, 2, 3, 4, 5, 6, 7, 8, 9, 10, 11] [some 0, some 1, some 2, some 3, some 4, some 5, some 6, some 7, some 8, some 9, some 10, some 11] (rV C0 (tX5_must l D cI cS F a0 a1 a2 a3 a4 a5 a6 a7 a8 a9 a10 a11 nw kp ad fd tp kn it wd sz nm mv ik td bg en so va iw im st ht 1 z_7.1 z_7.2.1 z_7.2.2.1 z_7.2.2.2.1 z_7.2.2.2.2 e_8 (((hD (wX5 cI cS a0 a1 a2 a3 a4 a5 a6 a7 a8 a9 a10 a11 nw kp ad fd tp kn it wd sz nm mv ik td bg en so va iw im st ht) rfl).sub [0, 1, 2, 3, 4, 5, 6, 7, 8, 9, 10, 11] (by decide) rfl).weaken (fun _ _ _ _ => trivial))) RX5 gX5_number_X5_must rfl ⟨rfl, rfl⟩ pdX5_must rfl ⟨Nat.le_of_ble_eq_true rfl, Nat.le_of_ble_eq_true rfl⟩ (fun _ _ _ _ q => q) (va_recv hE.1 hPc (ci := 4) (q0 := 0) rfl rfl) (fun U hU _ _ => by rw [hU]; exact hPc) hl.1 rfl (Nat.le_of_ble_eq_true rfl) dX5_number_28 ⟨Nat.zero_le _, Nat.zero_le _⟩) hP (hD _ rfl) hS rfl rfl rfl (fun H locs hP hS => ?_)
      refine lv_iload_n hx hb dX5_number_31 rfl (lv_at hl 0 rfl) ?_
      obtain ⟨q0, g0⟩ := Prod.mk.inj (Option.some.inj h)
      obtain ⟨q1, g1⟩ := Prod.mk.inj g0
      obtain ⟨q2, g2⟩ := Prod.mk.inj g1
      obtain ⟨q3, g3⟩ := Prod.mk.inj g2
      obtain ⟨q4, q5⟩ := Prod.mk.inj g3
      subst q0 q1 q2 q3 q4 q5
      exact eMi C0 hP hS rfl rfl dX5_number_32
def fX5_addItem (it : Nat → Int32) (im : Int32) (v1 : Int32) (v2 : Int32) (v3 : Int32) (v4 : Int32) (v5 : Int32) : Option ((Nat → Int32) × Int32) := if ¬ ((5 * im) < 0 ∨ 600 ≤ (5 * im).toNatClampNeg) then if ¬ (((5 * im) + 1) < 0 ∨ 600 ≤ ((5 * im) + 1).toNatClampNeg) then if ¬ (((5 * im) + 2) < 0 ∨ 600 ≤ ((5 * im) + 2).toNatClampNeg) then if ¬ (((5 * im) + 3) < 0 ∨ 600 ≤ ((5 * im) + 3).toNatClampNeg) then if ¬ (((5 * im) + 4) < 0 ∨ 600 ≤ ((5 * im) + 4).toNatClampNeg) then some (upd (upd (upd (upd (upd it (5 * im).toNatClampNeg v1) ((5 * im) + 1).toNatClampNeg v2) ((5 * im) + 2).toNatClampNeg v3) ((5 * im) + 3).toNatClampNeg v4) ((5 * im) + 4).toNatClampNeg v5, im + 1) else none else none else none else none else none
abbrev rmX5_addItem : Room := { frames := 0, cells := 0, slots := 0, locals := 0 }
theorem pdX5_addItem : (yX5_addItem.cls = RX5 ∧ yX5_addItem.cls ≠ "java/lang/invoke/MethodHandle" ∧ yX5_addItem.cls ≠ "java/lang/invoke/VarHandle" ∧ (parseMethodDescriptor yX5_addItem.desc).map (fun d => d.parameters.length) = some 5) := by decide +kernel
set_option maxHeartbeats 4000000 in
set_option maxRecDepth 100000 in
theorem tX5_addItem (l : Launch) (D : va_G) (cI cS : ClassId) (a0 a1 a2 a3 a4 a5 a6 a7 a8 a9 a10 a11 : Nat) (nw : Nat → Int32) (kp : Nat → Int32) (ad : Nat → Int32) (fd : Nat → Int32) (tp : Nat → Int32) (kn : Nat → Option Nat) (it : Nat → Int32) (wd : Nat → Int32) (sz : Nat → Int32) (nm : Nat → Int32) (mv : Nat → Int32) (ik : Int32) (td : Int32) (bg : Int32) (en : Int32) (so : Int32) (va : Int32) (iw : Int32) (im : Int32) (st : Int32) (ht : Int32) (v1 : Int32) (v2 : Int32) (v3 : Int32) (v4 : Int32) (v5 : Int32) (z0 : Nat → Int32) (z1 : Int32) (h : fX5_addItem it im v1 v2 v3 v4 v5 = some (z0, z1)) (hD0 : va_D (fun _ => True) (wX5 cI cS a0 a1 a2 a3 a4 a5 a6 a7 a8 a9 a10 a11 nw kp ad fd tp kn it wd sz nm mv ik td bg en so va iw im st ht)) : Met l yX5_addItem wsX5_addItem rmX5_addItem (PZ D cI cS [.ref a0, .int v1, .int v2, .int v3, .int v4, .int v5] (fun U => va_P D vwCl (wX5 cI cS a0 a1 a2 a3 a4 a5 a6 a7 a8 a9 a10 a11 nw kp ad fd tp kn it wd sz nm mv ik td bg en so va iw im st ht) U.heap)) (qV D (wX5 cI cS a0 a1 a2 a3 a4 a5 a6 a7 a8 a9 a10 a11 nw kp ad fd tp kn it wd sz nm mv ik td bg en so va iw im st ht) (wX5 cI cS a0 a1 a2 a3 a4 a5 a6 a7 a8 a9 a10 a11 nw kp ad fd tp kn z0 wd sz nm mv ik td bg en so va iw z1 st ht)) 0 0 (wA (wX5 cI cS a0 a1 a2 a3 a4 a5 a6 a7 a8 a9 a10 a11 nw kp ad fd tp kn it wd sz nm mv ik td bg en so va iw im st ht)) := by
  refine Met.mk RX5 (by decide) rfl rfl (Nat.le_of_ble_eq_true rfl) ?_
  intro p e s m below meth c ls C0 hP hl
  have hl : lv_has ls 7 [(0, .ref a0), (1, .int v1), (2, .int v2), (3, .int v3), (4, .int v4), (5, .int v5)] := hl
  obtain ⟨hx, hb, hr, hml, hown, hts, hlk, hE⟩ := id C0
  have hinX5 : ∀ w ∈ u_ws RX5 TX5 21, w ∈ wsX5_addItem := by decide +kernel
  have hD : ∀ W : va_W, W.map Prod.fst = [a0, a1, a2, a3, a4, a5, a6, a7, a8, a9, a10, a11] → va_D (wA (wX5 cI cS a0 a1 a2 a3 a4 a5 a6 a7 a8 a9 a10 a11 nw kp ad fd tp kn it wd sz nm mv ik td bg en so va iw im st ht)) W := fun W hW => hD0.own.re hW
  have hS : va_S (wA (wX5 cI cS a0 a1 a2 a3 a4 a5 a6 a7 a8 a9 a10 a11 nw kp ad fd tp kn it wd sz nm mv ik td bg en so va iw im st ht)) s.heap s.heap [] := va_S.rf
  have hP : va_P D vwCl (wX5 cI cS a0 a1 a2 a3 a4 a5 a6 a7 a8 a9 a10 a11 nw kp ad fd tp kn it wd sz nm mv ik td bg en so va iw im st ht) s.heap := hP
  rw [fX5_addItem] at h
  refine lv_iconst (v := 5) hx hb dX5_addItem_0 (by decide) ?_
  refine lv_aload_n hx hb dX5_addItem_1 rfl (lv_at hl 0 rfl) ?_
  refine va_get (D := D) (ci := 4) (v := .int im) (C := RX5) (T := TX5) (N := 21) hx hb hts hinX5 hown hE.1 hP 0 rfl rfl 14 (by decide) (hts _ (List.mem_of_getElem? (i := 1) rfl)) (fun _ h9 => h9) rfl dX5_addItem_2 ?_
  refine lv_imul hx hb dX5_addItem_5 ?_
  refine lv_istore (lv' := [(6, .int (5 * im)), (0, .ref a0), (1, .int v1), (2, .int v2), (3, .int v3), (4, .int v4), (5, .int v5)]) hx hb dX5_addItem_6 hl (by decide) rfl (fun ls hl => ?_)
  refine lv_aload_n hx hb dX5_addItem_8 rfl (lv_at hl 1 rfl) ?_
  refine va_get (D := D) (ci := 4) (v := .ref a7) (C := RX5) (T := TX5) (N := 21) hx hb hts hinX5 hown hE.1 hP 0 rfl rfl 13 (by decide) (hts _ (List.mem_of_getElem? (i := 2) rfl)) (fun _ h9 => h9) rfl dX5_addItem_9 ?_
  refine lv_iload hx hb dX5_addItem_12 (lv_at hl 0 rfl) ?_
  refine lv_iload_n hx hb dX5_addItem_14 rfl (lv_at hl 2 rfl) ?_
  obtain ⟨hi_1, h⟩ := ifs h
  refine va_iast hx hb hE.1 hP (hD _ rfl) hS 7 0 rfl rfl hi_1 dX5_addItem_15 (fun H locs hP _ hS => ?_)
  have hP : va_P D vwCl (wX5 cI cS a0 a1 a2 a3 a4 a5 a6 a7 a8 a9 a10 a11 nw kp ad fd tp kn (upd it (5 * im).toNatClampNeg v1) wd sz nm mv ik td bg en so va iw im st ht) H := hP
  refine lv_aload_n hx hb dX5_addItem_16 rfl (lv_at hl 1 rfl) ?_
  refine va_get (D := D) (ci := 4) (v := .ref a7) (C := RX5) (T := TX5) (N := 21) hx hb hts hinX5 hown hE.1 hP 0 rfl rfl 13 (by decide) (hts _ (List.mem_of_getElem? (i := 2) rfl)) (fun _ h9 => h9) rfl dX5_addItem_17 ?_
  refine lv_iload hx hb dX5_addItem_20 (lv_at hl 0 rfl) ?_
  refine lv_iconst (v := 1) hx hb dX5_addItem_22 (by decide) ?_
  refine lv_iadd hx hb dX5_addItem_23 ?_
  refine lv_iload_n hx hb dX5_addItem_24 rfl (lv_at hl 3 rfl) ?_
  obtain ⟨hi_2, h⟩ := ifs h
  refine va_iast hx hb hE.1 hP (hD _ rfl) hS 7 0 rfl rfl hi_2 dX5_addItem_25 (fun H locs hP _ hS => ?_)
  have hP : va_P D vwCl (wX5 cI cS a0 a1 a2 a3 a4 a5 a6 a7 a8 a9 a10 a11 nw kp ad fd tp kn (upd (upd it (5 * im).toNatClampNeg v1) ((5 * im) + 1).toNatClampNeg v2) wd sz nm mv ik td bg en so va iw im st ht) H := hP
  refine lv_aload_n hx hb dX5_addItem_26 rfl (lv_at hl 1 rfl) ?_
  refine va_get (D := D) (ci := 4) (v := .ref a7) (C := RX5) (T := TX5) (N := 21) hx hb hts hinX5 hown hE.1 hP 0 rfl rfl 13 (by decide) (hts _ (List.mem_of_getElem? (i := 2) rfl)) (fun _ h9 => h9) rfl dX5_addItem_27 ?_
  refine lv_iload hx hb dX5_addItem_30 (lv_at hl 0 rfl) ?_
  refine lv_iconst (v := 2) hx hb dX5_addItem_32 (by decide) ?_
  refine lv_iadd hx hb dX5_addItem_33 ?_
  refine lv_iload_n hx hb dX5_addItem_34 rfl (lv_at hl 4 rfl) ?_
  obtain ⟨hi_3, h⟩ := ifs h
  refine va_iast hx hb hE.1 hP (hD _ rfl) hS 7 0 rfl rfl hi_3 dX5_addItem_35 (fun H locs hP _ hS => ?_)
  have hP : va_P D vwCl (wX5 cI cS a0 a1 a2 a3 a4 a5 a6 a7 a8 a9 a10 a11 nw kp ad fd tp kn (upd (upd (upd it (5 * im).toNatClampNeg v1) ((5 * im) + 1).toNatClampNeg v2) ((5 * im) + 2).toNatClampNeg v3) wd sz nm mv ik td bg en so va iw im st ht) H := hP
  refine lv_aload_n hx hb dX5_addItem_36 rfl (lv_at hl 1 rfl) ?_
  refine va_get (D := D) (ci := 4) (v := .ref a7) (C := RX5) (T := TX5) (N := 21) hx hb hts hinX5 hown hE.1 hP 0 rfl rfl 13 (by decide) (hts _ (List.mem_of_getElem? (i := 2) rfl)) (fun _ h9 => h9) rfl dX5_addItem_37 ?_
  refine lv_iload hx hb dX5_addItem_40 (lv_at hl 0 rfl) ?_
  refine lv_iconst (v := 3) hx hb dX5_addItem_42 (by decide) ?_
  refine lv_iadd hx hb dX5_addItem_43 ?_
  refine lv_iload hx hb dX5_addItem_44 (lv_at hl 5 rfl) ?_
  obtain ⟨hi_4, h⟩ := ifs h
  refine va_iast hx hb hE.1 hP (hD _ rfl) hS 7 0 rfl rfl hi_4 dX5_addItem_46 (fun H locs hP _ hS => ?_)
  have hP : va_P D vwCl (wX5 cI cS a0 a1 a2 a3 a4 a5 a6 a7 a8 a9 a10 a11 nw kp ad fd tp kn (upd (upd (upd (upd it (5 * im).toNatClampNeg v1) ((5 * im) + 1).toNatClampNeg v2) ((5 * im) + 2).toNatClampNeg v3) ((5 * im) + 3).toNatClampNeg v4) wd sz nm mv ik td bg en so va iw im st ht) H := hP
  refine lv_aload_n hx hb dX5_addItem_47 rfl (lv_at hl 1 rfl) ?_
  refine va_get (D := D) (ci := 4) (v := .ref a7) (C := RX5) (T := TX5) (N := 21) hx hb hts hinX5 hown hE.1 hP 0 rfl rfl 13 (by decide) (hts _ (List.mem_of_getElem? (i := 2) rfl)) (fun _ h9 => h9) rfl dX5_addItem_48 ?_
  refine lv_iload hx hb dX5_addItem_51 (lv_at hl 0 rfl) ?_
  refine lv_iconst (v := 4) hx hb dX5_addItem_53 (by decide) ?_
  refine lv_iadd hx hb dX5_addItem_54 ?_
  refine lv_iload hx hb dX5_addItem_55 (lv_at hl 6 rfl) ?_
  obtain ⟨hi_5, h⟩ := ifs h
  refine va_iast hx hb hE.1 hP (hD _ rfl) hS 7 0 rfl rfl hi_5 dX5_addItem_57 (fun H locs hP _ hS => ?_)
  have hP : va_P D vwCl (wX5 cI cS a0 a1 a2 a3 a4 a5 a6 a7 a8 a9 a10 a11 nw kp ad fd tp kn (upd (upd (upd (upd (upd it (5 * im).toNatClampNeg v1) ((5 * im) + 1).toNatClampNeg v2) ((5 * im) + 2).toNatClampNeg v3) ((5 * im) + 3).toNatClampNeg v4) ((5 * im) + 4).toNatClampNeg v5) wd sz nm mv ik td bg en so va iw im st ht) H := hP
  refine lv_aload_n hx hb dX5_addItem_58 rfl (lv_at hl 1 rfl) ?_
  refine lv_dup hx hb dX5_addItem_59 rfl ?_
  refine va_get (D := D) (ci := 4) (v := .int im) (C := RX5) (T := TX5) (N := 21) hx hb hts hinX5 hown hE.1 hP 0 rfl rfl 14 (by decide) (hts _ (List.mem_of_getElem? (i := 1) rfl)) (fun _ h9 => h9) rfl dX5_addItem_60 ?_
  refine lv_iconst (v := 1) hx hb dX5_addItem_63 (by decide) ?_
  refine lv_iadd hx hb dX5_addItem_64 ?_
  refine va_put (D := D) (ci := 4) (v := .int (im + 1)) (ty := .int) (C := RX5) (T := TX5) (N := 21) hx hb hts hinX5 tyX5 tyX5_ok nmX5 hown hE.1 hP (hD _ rfl) hS 0 rfl rfl 14 (by decide) (hts _ (List.mem_of_getElem? (i := 1) rfl)) (fun _ h9 => h9) rfl (by decide +kernel) rfl rfl (Nat.le_of_ble_eq_true rfl) dX5_addItem_65 (fun H locs hP _ hS => ?_)
  have hP : va_P D vwCl (wX5 cI cS a0 a1 a2 a3 a4 a5 a6 a7 a8 a9 a10 a11 nw kp ad fd tp kn (upd (upd (upd (upd (upd it (5 * im).toNatClampNeg v1) ((5 * im) + 1).toNatClampNeg v2) ((5 * im) + 2).toNatClampNeg v3) ((5 * im) + 3).toNatClampNeg v4) ((5 * im) + 4).toNatClampNeg v5) wd sz nm mv ik td bg en so va iw (im + 1) st ht) H := hP
  obtain ⟨q0, q1⟩ := Prod.mk.inj (Option.some.inj h)
  subst q0 q1
  exact eMv C0 hP hS rfl dX5_addItem_68
def fX5_takesWord (F : Nat) (tp : Nat → Int32) (td : Int32) (bg : Int32) (en : Int32) (so : Int32) (va : Int32) (iw : Int32) (i1 : Nat) : Option (Int32 × Int32 × Int32 × Int32 × Int32 × Int32) := (if iw = 0 then Option.bind (fX5_isWord F tp bg en so i1) (fun z_3 => (if z_3 = 0 then some (0, bg, en, so, va, iw) else Option.bind (fX5_must F tp td bg en so va iw 1) (fun z_8 => some (1, z_8.1, z_8.2.1, z_8.2.2.1, z_8.2.2.2.1, z_8.2.2.2.2)))) else some (0, bg, en, so, va, iw))
abbrev rmX5_takesWord : Room := { frames := 5, cells := 0, slots := 0, locals := 108 }
theorem pdX5_takesWord : (yX5_takesWord.cls = RX5 ∧ yX5_takesWord.cls ≠ "java/lang/invoke/MethodHandle" ∧ yX5_takesWord.cls ≠ "java/lang/invoke/VarHandle" ∧ (parseMethodDescriptor yX5_takesWord.desc).map (fun d => d.parameters.length) = some 1) := by decide +kernel
set_option maxHeartbeats 4000000 in
set_option maxRecDepth 100000 in
theorem tX5_takesWord (l : Launch) (D : va_G) (cI cS : ClassId) (cs : CSt) (F : Nat) (a0 a1 a2 a3 a4 a5 a6 a7 a8 a9 a10 a11 : Nat) (nw : Nat → Int32) (kp : Nat → Int32) (ad : Nat → Int32) (fd : Nat → Int32) (tp : Nat → Int32) (kn : Nat → Option Nat) (it : Nat → Int32) (wd : Nat → Int32) (sz : Nat → Int32) (nm : Nat → Int32) (mv : Nat → Int32) (ik : Int32) (td : Int32) (bg : Int32) (en : Int32) (so : Int32) (va : Int32) (iw : Int32) (im : Int32) (st : Int32) (ht : Int32) (i1 : Nat) (z0 : Int32) (z1 : Int32) (z2 : Int32) (z3 : Int32) (z4 : Int32) (z5 : Int32) (h : fX5_takesWord F tp td bg en so va iw i1 = some (z0, z1, z2, z3, z4, z5)) (hi1 : i1 < 14) (hD0 : va_D (fun _ => True) (wX5 cI cS a0 a1 a2 a3 a4 a5 a6 a7 a8 a9 a10 a11 nw kp ad fd tp kn it wd sz nm mv ik td bg en so va iw im st ht)) : Met l yX5_takesWord wsX5_takesWord rmX5_takesWord (PZ D cI cS [.ref a0, .ref (cs.1 i1)] (fun U => va_P D vwCl (wX5 cI cS a0 a1 a2 a3 a4 a5 a6 a7 a8 a9 a10 a11 nw kp ad fd tp kn it wd sz nm mv ik td bg en so va iw im st ht) U.heap ∧ CST cs (wA (wX5 cI cS a0 a1 a2 a3 a4 a5 a6 a7 a8 a9 a10 a11 nw kp ad fd tp kn it wd sz nm mv ik td bg en so va iw im st ht)) U U.heap)) (qI D (wX5 cI cS a0 a1 a2 a3 a4 a5 a6 a7 a8 a9 a10 a11 nw kp ad fd tp kn it wd sz nm mv ik td bg en so va iw im st ht) (wX5 cI cS a0 a1 a2 a3 a4 a5 a6 a7 a8 a9 a10 a11 nw kp ad fd tp kn it wd sz nm mv ik td z1 z2 z3 z4 z5 im st ht) z0) 0 0 (wA (wX5 cI cS a0 a1 a2 a3 a4 a5 a6 a7 a8 a9 a10 a11 nw kp ad fd tp kn it wd sz nm mv ik td bg en so va iw im st ht)) := by
  refine Met.mk RX5 (by decide) rfl rfl (Nat.le_of_ble_eq_true rfl) ?_
  intro p e s m below meth c ls C0 hP hl
  obtain ⟨hP, hCS⟩ := hP
  have hl : lv_has ls 3 [(0, .ref a0), (1, .ref (cs.1 i1))] := hl
  obtain ⟨hx, hb, hr, hml, hown, hts, hlk, hE⟩ := id C0
  have hinX5 : ∀ w ∈ u_ws RX5 TX5 21, w ∈ wsX5_takesWord := by decide +kernel
  have hD : ∀ W : va_W, W.map Prod.fst = [a0, a1, a2, a3, a4, a5, a6, a7, a8, a9, a10, a11] → va_D (wA (wX5 cI cS a0 a1 a2 a3 a4 a5 a6 a7 a8 a9 a10 a11 nw kp ad fd tp kn it wd sz nm mv ik td bg en so va iw im st ht)) W := fun W hW => hD0.own.re hW
  have hS : va_S (wA (wX5 cI cS a0 a1 a2 a3 a4 a5 a6 a7 a8 a9 a10 a11 nw kp ad fd tp kn it wd sz nm mv ik td bg en so va iw im st ht)) s.heap s.heap [] := va_S.rf
  have hP : va_P D vwCl (wX5 cI cS a0 a1 a2 a3 a4 a5 a6 a7 a8 a9 a10 a11 nw kp ad fd tp kn it wd sz nm mv ik td bg en so va iw im st ht) s.heap := hP
  rw [fX5_takesWord] at h
  refine lv_aload_n hx hb dX5_takesWord_0 rfl (lv_at hl 0 rfl) ?_
  refine va_get (D := D) (ci := 4) (v := .int iw) (C := RX5) (T := TX5) (N := 21) hx hb hts hinX5 hown hE.1 hP 0 rfl rfl 11 (by decide) (hts _ (List.mem_of_getElem? (i := 1) rfl)) (fun _ h9 => h9) rfl dX5_takesWord_1 ?_
  refine lv_if_ne (tgt := 19) hx hb dX5_takesWord_4 (by decide) (fun c_1 => ?_) (fun c_1 => ?_)
  · have h := ifn c_1 h
    refine lv_iconst (v := 0) hx hb dX5_takesWord_19 (by decide) ?_
    refine lv_istore_n (lv' := [(2, .int 0), (0, .ref a0), (1, .ref (cs.1 i1))]) hx hb dX5_takesWord_20 rfl hl (by decide) rfl (fun ls hl => ?_)
    refine lv_iload_n hx hb dX5_takesWord_21 rfl (lv_at hl 0 rfl) ?_
    refine lv_if_eq (tgt := 30) hx hb dX5_takesWord_22 (by decide) (fun c_2 => ?_) (fun c_2 => ?_)
    · refine lv_iload_n hx hb dX5_takesWord_30 rfl (lv_at hl 0 rfl) ?_
      obtain ⟨q0, g0⟩ := Prod.mk.inj (Option.some.inj h)
      obtain ⟨q1, g1⟩ := Prod.mk.inj g0
      obtain ⟨q2, g2⟩ := Prod.mk.inj g1
      obtain ⟨q3, g3⟩ := Prod.mk.inj g2
      obtain ⟨q4, q5⟩ := Prod.mk.inj g3
      subst q0 q1 q2 q3 q4 q5
      exact eMz C0 hP hS rfl rfl rfl dX5_takesWord_31
    · exact absurd c_2 (by decide)
  · have h := ifp c_1 h
    refine lv_aload_n hx hb dX5_takesWord_7 rfl (lv_at hl 0 rfl) ?_
    refine lv_aload_n hx hb dX5_takesWord_8 rfl (lv_at hl 1 rfl) ?_
    obtain ⟨z_3, e_4, h⟩ := bds h
    have hPc := hP.sub (ws' := (wX5 cI cS a0 a1 a2 a3 a4 a5 a6 a7 a8 a9 a10 a11 nw kp ad fd tp kn it wd sz nm mv ik td bg en so va iw im st ht)) [0, 1, 2, 3, 4, 5, 6, 7, 8, 9, 10, 11] rfl
    refine kRi (rV C0 (tX5_isWord l D cI cS cs F a0 a1 a2 a3 a4 a5 a6 a7 a8 a9 a10 a11 nw kp ad fd tp kn it wd sz nm mv ik td bg en so va iw im st ht i1 z_3 e_4 hi1) RX5 gX5_takesWord_X5_isWord rfl ⟨rfl, rfl⟩ pdX5_isWord rfl ⟨Nat.le_of_ble_eq_true rfl, Nat.le_of_ble_eq_true rfl⟩ (fun _ _ _ _ q => ⟨q.1, q.2.call⟩) (va_recv hE.1 hPc (ci := 4) (q0 := 0) rfl rfl) (fun U hU hW _ => ⟨by rw [hU]; exact hPc, by rw [hU]; exact ((hCS.kept hS.2.1).narrow (fun _ q => q.elim)).warm hW⟩) hl.1 rfl (Nat.le_of_ble_eq_true rfl) dX5_takesWord_9 ⟨Nat.zero_le _, Nat.zero_le _⟩) ?_
    refine lv_if_eq (tgt := 19) hx hb dX5_takesWord_12 (by decide) (fun c_5 => ?_) (fun c_5 => ?_)
    · have h := ifp c_5 h
      refine lv_iconst (v := 0) hx hb dX5_takesWord_19 (by decide) ?_
      refine lv_istore_n (lv' := [(2, .int 0), (0, .ref a0), (1, .ref (cs.1 i1))]) hx hb dX5_takesWord_20 rfl hl (by decide) rfl (fun ls hl => ?_)
      refine lv_iload_n hx hb dX5_takesWord_21 rfl (lv_at hl 0 rfl) ?_
      refine lv_if_eq (tgt := 30) hx hb dX5_takesWord_22 (by decide) (fun c_6 => ?_) (fun c_6 => ?_)
      · refine lv_iload_n hx hb dX5_takesWord_30 rfl (lv_at hl 0 rfl) ?_
        obtain ⟨q0, g0⟩ := Prod.mk.inj (Option.some.inj h)
        obtain ⟨q1, g1⟩ := Prod.mk.inj g0
        obtain ⟨q2, g2⟩ := Prod.mk.inj g1
        obtain ⟨q3, g3⟩ := Prod.mk.inj g2
        obtain ⟨q4, q5⟩ := Prod.mk.inj g3
        subst q0 q1 q2 q3 q4 q5
        exact eMz C0 hP hS rfl rfl rfl dX5_takesWord_31
      · exact absurd c_6 (by decide)
    · have h := ifn c_5 h
      refine lv_iconst (v := 1) hx hb dX5_takesWord_15 (by decide) ?_
      refine lv_goto (tgt := 20) hx hb dX5_takesWord_16 (by decide) ?_
      refine lv_istore_n (lv' := [(2, .int 1), (0, .ref a0), (1, .ref (cs.1 i1))]) hx hb dX5_takesWord_20 rfl hl (by decide) rfl (fun ls hl => ?_)
      refine lv_iload_n hx hb dX5_takesWord_21 rfl (lv_at hl 0 rfl) ?_
      refine lv_if_eq (tgt := 30) hx hb dX5_takesWord_22 (by decide) (fun c_7 => ?_) (fun c_7 => ?_)
      · exact absurd c_7 (by decide)
      · refine lv_aload_n hx hb dX5_takesWord_25 rfl (lv_at hl 1 rfl) ?_
        refine lv_iconst (v := 1) hx hb dX5_takesWord_26 (by decide) ?_
        obtain ⟨z_8, e_9, h⟩ := bds h
        have hPc := hP.sub (ws' := (wX5 cI cS a0 a1 a2 a3 a4 a5 a6 a7 a8 a9 a10 a11 nw kp ad fd tp kn it wd sz nm mv ik td bg en so va iw im st ht)) [0, 1, 2, 3, 4, 5, 6, 7, 8, 9, 10, 11] rfl
        refine kMv (wf' := (wX5 cI cS a0 a1 a2 a3 a4 a5 a6 a7 a8 a9 a10 a11 nw kp ad fd tp kn it wd sz nm mv ik td z_8.1 z_8.2.1 z_8.2.2.1 z_8.2.2.2.1 z_8.2.2.2.2 im st ht)) [0, 1, 2, 3, 4, 5, 6, 7, 8, 9, 10, 11] [some 0, some 1, some 2, some 3, some 4, some 5, some 6, some 7, some 8, some 9, some 10, some 11] (rV C0 (tX5_must l D cI cS F a0 a1 a2 a3 a4 a5 a6 a7 a8 a9 a10 a11 nw kp ad fd tp kn it wd sz nm mv ik td bg en so va iw im st ht 1 z_8.1 z_8.2.1 z_8.2.2.1 z_8.2.2.2.1 z_8.2.2.2.2 e_9 (((hD (wX5 cI cS a0 a1 a2 a3 a4 a5 a6 a7 a8 a9 a10 a11 nw kp ad fd tp kn it wd sz nm mv ik td bg en so va iw im st ht) rfl).sub [0, 1, 2, 3, 4, 5, 6, 7, 8, 9, 10, 11] (by decide) rfl).weaken (fun _ _ _ _ => trivial))) RX5 gX5_takesWord_X5_must rfl ⟨rfl, rfl⟩ pdX5_must rfl ⟨Nat.le_of_ble_eq_true rfl, Nat.le_of_ble_eq_true rfl⟩ (fun _ _ _ _ q => q) (va_recv hE.1 hPc (ci := 4) (q0 := 0) rfl rfl) (fun U hU _ _ => by rw [hU]; exact hPc) hl.1 rfl (Nat.le_of_ble_eq_true rfl) dX5_takesWord_27 ⟨Nat.zero_le _, Nat.zero_le _⟩) hP (hD _ rfl) hS rfl rfl rfl (fun H locs hP hS => ?_)
        refine lv_iload_n hx hb dX5_takesWord_30 rfl (lv_at hl 0 rfl) ?_
        obtain ⟨q0, g0⟩ := Prod.mk.inj (Option.some.inj h)
        obtain ⟨q1, g1⟩ := Prod.mk.inj g0
        obtain ⟨q2, g2⟩ := Prod.mk.inj g1
        obtain ⟨q3, g3⟩ := Prod.mk.inj g2
        obtain ⟨q4, q5⟩ := Prod.mk.inj g3
        subst q0 q1 q2 q3 q4 q5
        exact eMz C0 hP hS rfl rfl rfl dX5_takesWord_31
def fX5_readSaying (F : Nat) (tp : Nat → Int32) (it : Nat → Int32) (td : Int32) (bg : Int32) (en : Int32) (so : Int32) (va : Int32) (iw : Int32) (im : Int32) (st : Int32) (v1 : Int32) : Option ((Nat → Int32) × Int32 × Int32 × Int32 × Int32 × Int32 × Int32 × Int32) := (if 8 ≤ st then Option.bind (fX5_must F tp td bg en so va iw 0) (fun z_2 => Option.bind (fX5_number F tp td z_2.1 z_2.2.1 z_2.2.2.1 z_2.2.2.2.1 z_2.2.2.2.2 0 99) (fun z_4 => Option.bind (fX5_takesWord F tp td z_4.2.1 z_4.2.2.1 z_4.2.2.2.1 z_4.2.2.2.2.1 z_4.2.2.2.2.2 9) (fun z_6 => (if z_6.1 = 0 then Option.bind (fX5_takesWord F tp td z_6.2.1 z_6.2.2.1 z_6.2.2.2.1 z_6.2.2.2.2.1 z_6.2.2.2.2.2 10) (fun z_9 => (if z_9.1 = 0 then Option.bind (fX5_takesWord F tp td z_9.2.1 z_9.2.2.1 z_9.2.2.2.1 z_9.2.2.2.2.1 z_9.2.2.2.2.2 11) (fun z_12 => (if z_12.1 = 0 then Option.bind (fX5_addItem it im v1 z_4.1 0 0 0) (fun z_15 => some (z_15.1, z_12.2.1, z_12.2.2.1, z_12.2.2.2.1, z_12.2.2.2.2.1, z_12.2.2.2.2.2, z_15.2, st + 1)) else Option.bind (fX5_addItem it im v1 z_4.1 0 0 1) (fun z_17 => some (z_17.1, z_12.2.1, z_12.2.2.1, z_12.2.2.2.1, z_12.2.2.2.2.1, z_12.2.2.2.2.2, z_17.2, st + 1)))) else Option.bind (fX5_number F tp td z_9.2.1 z_9.2.2.1 z_9.2.2.2.1 z_9.2.2.2.2.1 z_9.2.2.2.2.2 0 9999) (fun z_19 => Option.bind (fX5_takesWord F tp td z_19.2.1 z_19.2.2.1 z_19.2.2.2.1 z_19.2.2.2.2.1 z_19.2.2.2.2.2 11) (fun z_21 => (if z_21.1 = 0 then Option.bind (fX5_addItem it im v1 z_4.1 0 z_19.1 0) (fun z_24 => some (z_24.1, z_21.2.1, z_21.2.2.1, z_21.2.2.2.1, z_21.2.2.2.2.1, z_21.2.2.2.2.2, z_24.2, st + 1)) else Option.bind (fX5_addItem it im v1 z_4.1 0 z_19.1 1) (fun z_26 => some (z_26.1, z_21.2.1, z_21.2.2.1, z_21.2.2.2.1, z_21.2.2.2.2.1, z_21.2.2.2.2.2, z_26.2, st + 1))))))) else Option.bind (fX5_number F tp td z_6.2.1 z_6.2.2.1 z_6.2.2.2.1 z_6.2.2.2.2.1 z_6.2.2.2.2.2 0 15) (fun z_28 => Option.bind (fX5_takesWord F tp td z_28.2.1 z_28.2.2.1 z_28.2.2.2.1 z_28.2.2.2.2.1 z_28.2.2.2.2.2 10) (fun z_30 => (if z_30.1 = 0 then Option.bind (fX5_takesWord F tp td z_30.2.1 z_30.2.2.1 z_30.2.2.2.1 z_30.2.2.2.2.1 z_30.2.2.2.2.2 11) (fun z_33 => (if z_33.1 = 0 then Option.bind (fX5_addItem it im v1 z_4.1 z_28.1 0 0) (fun z_36 => some (z_36.1, z_33.2.1, z_33.2.2.1, z_33.2.2.2.1, z_33.2.2.2.2.1, z_33.2.2.2.2.2, z_36.2, st + 1)) else Option.bind (fX5_addItem it im v1 z_4.1 z_28.1 0 1) (fun z_38 => some (z_38.1, z_33.2.1, z_33.2.2.1, z_33.2.2.2.1, z_33.2.2.2.2.1, z_33.2.2.2.2.2, z_38.2, st + 1)))) else Option.bind (fX5_number F tp td z_30.2.1 z_30.2.2.1 z_30.2.2.2.1 z_30.2.2.2.2.1 z_30.2.2.2.2.2 0 9999) (fun z_40 => Option.bind (fX5_takesWord F tp td z_40.2.1 z_40.2.2.1 z_40.2.2.2.1 z_40.2.2.2.2.1 z_40.2.2.2.2.2 11) (fun z_42 => (if z_42.1 = 0 then Option.bind (fX5_addItem it im v1 z_4.1 z_28.1 z_40.1 0) (fun z_45 => some (z_45.1, z_42.2.1, z_42.2.2.1, z_42.2.2.2.1, z_42.2.2.2.2.1, z_42.2.2.2.2.2, z_45.2, st + 1)) else Option.bind (fX5_addItem it im v1 z_4.1 z_28.1 z_40.1 1) (fun z_47 => some (z_47.1, z_42.2.1, z_42.2.2.1, z_42.2.2.2.1, z_42.2.2.2.2.1, z_42.2.2.2.2.2, z_47.2, st + 1)))))))))))) else Option.bind (fX5_must F tp td bg en so va iw 1) (fun z_49 => Option.bind (fX5_number F tp td z_49.1 z_49.2.1 z_49.2.2.1 z_49.2.2.2.1 z_49.2.2.2.2 0 99) (fun z_51 => Option.bind (fX5_takesWord F tp td z_51.2.1 z_51.2.2.1 z_51.2.2.2.1 z_51.2.2.2.2.1 z_51.2.2.2.2.2 9) (fun z_53 => (if z_53.1 = 0 then Option.bind (fX5_takesWord F tp td z_53.2.1 z_53.2.2.1 z_53.2.2.2.1 z_53.2.2.2.2.1 z_53.2.2.2.2.2 10) (fun z_56 => (if z_56.1 = 0 then Option.bind (fX5_takesWord F tp td z_56.2.1 z_56.2.2.1 z_56.2.2.2.1 z_56.2.2.2.2.1 z_56.2.2.2.2.2 11) (fun z_59 => (if z_59.1 = 0 then Option.bind (fX5_addItem it im v1 z_51.1 0 0 0) (fun z_62 => some (z_62.1, z_59.2.1, z_59.2.2.1, z_59.2.2.2.1, z_59.2.2.2.2.1, z_59.2.2.2.2.2, z_62.2, st + 1)) else Option.bind (fX5_addItem it im v1 z_51.1 0 0 1) (fun z_64 => some (z_64.1, z_59.2.1, z_59.2.2.1, z_59.2.2.2.1, z_59.2.2.2.2.1, z_59.2.2.2.2.2, z_64.2, st + 1)))) else Option.bind (fX5_number F tp td z_56.2.1 z_56.2.2.1 z_56.2.2.2.1 z_56.2.2.2.2.1 z_56.2.2.2.2.2 0 9999) (fun z_66 => Option.bind (fX5_takesWord F tp td z_66.2.1 z_66.2.2.1 z_66.2.2.2.1 z_66.2.2.2.2.1 z_66.2.2.2.2.2 11) (fun z_68 => (if z_68.1 = 0 then Option.bind (fX5_addItem it im v1 z_51.1 0 z_66.1 0) (fun z_71 => some (z_71.1, z_68.2.1, z_68.2.2.1, z_68.2.2.2.1, z_68.2.2.2.2.1, z_68.2.2.2.2.2, z_71.2, st + 1)) else Option.bind (fX5_addItem it im v1 z_51.1 0 z_66.1 1) (fun z_73 => some (z_73.1, z_68.2.1, z_68.2.2.1, z_68.2.2.2.1, z_68.2.2.2.2.1, z_68.2.2.2.2.2, z_73.2, st + 1))))))) else Option.bind (fX5_number F tp td z_53.2.1 z_53.2.2.1 z_53.2.2.2.1 z_53.2.2.2.2.1 z_53.2.2.2.2.2 0 15) (fun z_75 => Option.bind (fX5_takesWord F tp td z_75.2.1 z_75.2.2.1 z_75.2.2.2.1 z_75.2.2.2.2.1 z_75.2.2.2.2.2 10) (fun z_77 => (if z_77.1 = 0 then Option.bind (fX5_takesWord F tp td z_77.2.1 z_77.2.2.1 z_77.2.2.2.1 z_77.2.2.2.2.1 z_77.2.2.2.2.2 11) (fun z_80 => (if z_80.1 = 0 then Option.bind (fX5_addItem it im v1 z_51.1 z_75.1 0 0) (fun z_83 => some (z_83.1, z_80.2.1, z_80.2.2.1, z_80.2.2.2.1, z_80.2.2.2.2.1, z_80.2.2.2.2.2, z_83.2, st + 1)) else Option.bind (fX5_addItem it im v1 z_51.1 z_75.1 0 1) (fun z_85 => some (z_85.1, z_80.2.1, z_80.2.2.1, z_80.2.2.2.1, z_80.2.2.2.2.1, z_80.2.2.2.2.2, z_85.2, st + 1)))) else Option.bind (fX5_number F tp td z_77.2.1 z_77.2.2.1 z_77.2.2.2.1 z_77.2.2.2.2.1 z_77.2.2.2.2.2 0 9999) (fun z_87 => Option.bind (fX5_takesWord F tp td z_87.2.1 z_87.2.2.1 z_87.2.2.2.1 z_87.2.2.2.2.1 z_87.2.2.2.2.2 11) (fun z_89 => (if z_89.1 = 0 then Option.bind (fX5_addItem it im v1 z_51.1 z_75.1 z_87.1 0) (fun z_92 => some (z_92.1, z_89.2.1, z_89.2.2.1, z_89.2.2.2.1, z_89.2.2.2.2.1, z_89.2.2.2.2.2, z_92.2, st + 1)) else Option.bind (fX5_addItem it im v1 z_51.1 z_75.1 z_87.1 1) (fun z_94 => some (z_94.1, z_89.2.1, z_89.2.2.1, z_89.2.2.2.1, z_89.2.2.2.2.1, z_89.2.2.2.2.2, z_94.2, st + 1)))))))))))))
abbrev rmX5_readSaying : Room := { frames := 6, cells := 0, slots := 0, locals := 130 }
theorem pdX5_readSaying : (yX5_readSaying.cls = RX5 ∧ yX5_readSaying.cls ≠ "java/lang/invoke/MethodHandle" ∧ yX5_readSaying.cls ≠ "java/lang/invoke/VarHandle" ∧ (parseMethodDescriptor yX5_readSaying.desc).map (fun d => d.parameters.length) = some 1) := by decide +kernel
set_option maxHeartbeats 4000000 in
set_option maxRecDepth 100000 in
theorem tX5_readSaying (l : Launch) (D : va_G) (cI cS : ClassId) (cs : CSt) (F : Nat) (a0 a1 a2 a3 a4 a5 a6 a7 a8 a9 a10 a11 : Nat) (nw : Nat → Int32) (kp : Nat → Int32) (ad : Nat → Int32) (fd : Nat → Int32) (tp : Nat → Int32) (kn : Nat → Option Nat) (it : Nat → Int32) (wd : Nat → Int32) (sz : Nat → Int32) (nm : Nat → Int32) (mv : Nat → Int32) (ik : Int32) (td : Int32) (bg : Int32) (en : Int32) (so : Int32) (va : Int32) (iw : Int32) (im : Int32) (st : Int32) (ht : Int32) (v1 : Int32) (z0 : Nat → Int32) (z1 : Int32) (z2 : Int32) (z3 : Int32) (z4 : Int32) (z5 : Int32) (z6 : Int32) (z7 : Int32) (h : fX5_readSaying F tp it td bg en so va iw im st v1 = some (z0, z1, z2, z3, z4, z5, z6, z7)) (hD0 : va_D (fun _ => True) (wX5 cI cS a0 a1 a2 a3 a4 a5 a6 a7 a8 a9 a10 a11 nw kp ad fd tp kn it wd sz nm mv ik td bg en so va iw im st ht)) : Met l yX5_readSaying wsX5_readSaying rmX5_readSaying (PZ D cI cS [.ref a0, .int v1] (fun U => va_P D vwCl (wX5 cI cS a0 a1 a2 a3 a4 a5 a6 a7 a8 a9 a10 a11 nw kp ad fd tp kn it wd sz nm mv ik td bg en so va iw im st ht) U.heap ∧ CST cs (wA (wX5 cI cS a0 a1 a2 a3 a4 a5 a6 a7 a8 a9 a10 a11 nw kp ad fd tp kn it wd sz nm mv ik td bg en so va iw im st ht)) U U.heap)) (qV D (wX5 cI cS a0 a1 a2 a3 a4 a5 a6 a7 a8 a9 a10 a11 nw kp ad fd tp kn it wd sz nm mv ik td bg en so va iw im st ht) (wX5 cI cS a0 a1 a2 a3 a4 a5 a6 a7 a8 a9 a10 a11 nw kp ad fd tp kn z0 wd sz nm mv ik td z1 z2 z3 z4 z5 z6 z7 ht)) 0 0 (wA (wX5 cI cS a0 a1 a2 a3 a4 a5 a6 a7 a8 a9 a10 a11 nw kp ad fd tp kn it wd sz nm mv ik td bg en so va iw im st ht)) := by
  refine Met.mk RX5 (by decide) rfl rfl (Nat.le_of_ble_eq_true rfl) ?_
  intro p e s m below meth c ls C0 hP hl
  obtain ⟨hP, hCS⟩ := hP
  have hl : lv_has ls 5 [(0, .ref a0), (1, .int v1)] := hl
  obtain ⟨hx, hb, hr, hml, hown, hts, hlk, hE⟩ := id C0
  have hinX5 : ∀ w ∈ u_ws RX5 TX5 21, w ∈ wsX5_readSaying := by decide +kernel
  have hD : ∀ W : va_W, W.map Prod.fst = [a0, a1, a2, a3, a4, a5, a6, a7, a8, a9, a10, a11] → va_D (wA (wX5 cI cS a0 a1 a2 a3 a4 a5 a6 a7 a8 a9 a10 a11 nw kp ad fd tp kn it wd sz nm mv ik td bg en so va iw im st ht)) W := fun W hW => hD0.own.re hW
  have hS : va_S (wA (wX5 cI cS a0 a1 a2 a3 a4 a5 a6 a7 a8 a9 a10 a11 nw kp ad fd tp kn it wd sz nm mv ik td bg en so va iw im st ht)) s.heap s.heap [] := va_S.rf
  have hP : va_P D vwCl (wX5 cI cS a0 a1 a2 a3 a4 a5 a6 a7 a8 a9 a10 a11 nw kp ad fd tp kn it wd sz nm mv ik td bg en so va iw im st ht) s.heap := hP
  rw [fX5_readSaying] at h
  refine lv_aload_n hx hb dX5_readSaying_0 rfl (lv_at hl 0 rfl) ?_
  refine lv_aload_n hx hb dX5_readSaying_1 rfl (lv_at hl 0 rfl) ?_
  refine va_get (D := D) (ci := 4) (v := .int st) (C := RX5) (T := TX5) (N := 21) hx hb hts hinX5 hown hE.1 hP 0 rfl rfl 15 (by decide) (hts _ (List.mem_of_getElem? (i := 1) rfl)) (fun _ h9 => h9) rfl dX5_readSaying_2 ?_
  refine lv_bipush (v := 8) hx hb dX5_readSaying_5 (by decide) ?_
  refine lv_icmp_ge (tgt := 14) hx hb dX5_readSaying_7 (by decide) (fun c_1 => ?_) (fun c_1 => ?_)
  · have h := ifp c_1 h
    refine lv_iconst (v := 0) hx hb dX5_readSaying_14 (by decide) ?_
    obtain ⟨z_2, e_3, h⟩ := bds h
    have hPc := hP.sub (ws' := (wX5 cI cS a0 a1 a2 a3 a4 a5 a6 a7 a8 a9 a10 a11 nw kp ad fd tp kn it wd sz nm mv ik td bg en so va iw im st ht)) [0, 1, 2, 3, 4, 5, 6, 7, 8, 9, 10, 11] rfl
    refine kMv (wf' := (wX5 cI cS a0 a1 a2 a3 a4 a5 a6 a7 a8 a9 a10 a11 nw kp ad fd tp kn it wd sz nm mv ik td z_2.1 z_2.2.1 z_2.2.2.1 z_2.2.2.2.1 z_2.2.2.2.2 im st ht)) [0, 1, 2, 3, 4, 5, 6, 7, 8, 9, 10, 11] [some 0, some 1, some 2, some 3, some 4, some 5, some 6, some 7, some 8, some 9, some 10, some 11] (rV C0 (tX5_must l D cI cS F a0 a1 a2 a3 a4 a5 a6 a7 a8 a9 a10 a11 nw kp ad fd tp kn it wd sz nm mv ik td bg en so va iw im st ht 0 z_2.1 z_2.2.1 z_2.2.2.1 z_2.2.2.2.1 z_2.2.2.2.2 e_3 (((hD (wX5 cI cS a0 a1 a2 a3 a4 a5 a6 a7 a8 a9 a10 a11 nw kp ad fd tp kn it wd sz nm mv ik td bg en so va iw im st ht) rfl).sub [0, 1, 2, 3, 4, 5, 6, 7, 8, 9, 10, 11] (by decide) rfl).weaken (fun _ _ _ _ => trivial))) RX5 gX5_readSaying_X5_must rfl ⟨rfl, rfl⟩ pdX5_must rfl ⟨Nat.le_of_ble_eq_true rfl, Nat.le_of_ble_eq_true rfl⟩ (fun _ _ _ _ q => q) (va_recv hE.1 hPc (ci := 4) (q0 := 0) rfl rfl) (fun U hU _ _ => by rw [hU]; exact hPc) hl.1 rfl (Nat.le_of_ble_eq_true rfl) dX5_readSaying_15 ⟨Nat.zero_le _, Nat.zero_le _⟩) hP (hD _ rfl) hS rfl rfl rfl (fun H locs hP hS => ?_)
    refine lv_aload_n hx hb dX5_readSaying_18 rfl (lv_at hl 0 rfl) ?_
    refine lv_iconst (v := 0) hx hb dX5_readSaying_19 (by decide) ?_
    refine lv_bipush (v := 99) hx hb dX5_readSaying_20 (by decide) ?_
    obtain ⟨z_4, e_5, h⟩ := bds h
    have hPc := hP.sub (ws' := (wX5 cI cS a0 a1 a2 a3 a4 a5 a6 a7 a8 a9 a10 a11 nw kp ad fd tp kn it wd sz nm mv ik td z_2.1 z_2.2.1 z_2.2.2.1 z_2.2.2.2.1 z_2.2.2.2.2 im st ht)) [0, 1, 2, 3, 4, 5, 6, 7, 8, 9, 10, 11] rfl
    refine kMi (wf' := (wX5 cI cS a0 a1 a2 a3 a4 a5 a6 a7 a8 a9 a10 a11 nw kp ad fd tp kn it wd sz nm mv ik td z_4.2.1 z_4.2.2.1 z_4.2.2.2.1 z_4.2.2.2.2.1 z_4.2.2.2.2.2 im st ht)) [0, 1, 2, 3, 4, 5, 6, 7, 8, 9, 10, 11] [some 0, some 1, some 2, some 3, some 4, some 5, some 6, some 7, some 8, some 9, some 10, some 11] (rV C0 (tX5_number l D cI cS F a0 a1 a2 a3 a4 a5 a6 a7 a8 a9 a10 a11 nw kp ad fd tp kn it wd sz nm mv ik td z_2.1 z_2.2.1 z_2.2.2.1 z_2.2.2.2.1 z_2.2.2.2.2 im st ht 0 99 z_4.1 z_4.2.1 z_4.2.2.1 z_4.2.2.2.1 z_4.2.2.2.2.1 z_4.2.2.2.2.2 e_5 (((hD (wX5 cI cS a0 a1 a2 a3 a4 a5 a6 a7 a8 a9 a10 a11 nw kp ad fd tp kn it wd sz nm mv ik td z_2.1 z_2.2.1 z_2.2.2.1 z_2.2.2.2.1 z_2.2.2.2.2 im st ht) rfl).sub [0, 1, 2, 3, 4, 5, 6, 7, 8, 9, 10, 11] (by decide) rfl).weaken (fun _ _ _ _ => trivial))) RX5 gX5_readSaying_X5_number rfl ⟨rfl, rfl⟩ pdX5_number rfl ⟨Nat.le_of_ble_eq_true rfl, Nat.le_of_ble_eq_true rfl⟩ (fun _ _ _ _ q => q) (va_recv hE.1 hPc (ci := 4) (q0 := 0) rfl rfl) (fun U hU _ _ => by rw [hU]; exact hPc) hl.1 rfl (Nat.le_of_ble_eq_true rfl) dX5_readSaying_22 ⟨Nat.zero_le _, Nat.zero_le _⟩) hP (hD _ rfl) hS rfl rfl rfl (fun H locs hP hS => ?_)
    refine lv_istore_n (lv' := [(2, .int z_4.1), (0, .ref a0), (1, .int v1)]) hx hb dX5_readSaying_25 rfl hl (by decide) rfl (fun ls hl => ?_)
    refine lv_aload_n hx hb dX5_readSaying_26 rfl (lv_at hl 1 rfl) ?_
    refine ldwS hx hb hown (show vk_R RX5 303 "at" (cs.1 9) s from hCS.2.2.2.1 ("VaguePortModel", 303, "at", 9) (List.mem_of_getElem? (i := 16) rfl)) dX5_readSaying_27 ?_
    obtain ⟨z_6, e_7, h⟩ := bds h
    have hPc := hP.sub (ws' := (wX5 cI cS a0 a1 a2 a3 a4 a5 a6 a7 a8 a9 a10 a11 nw kp ad fd tp kn it wd sz nm mv ik td z_4.2.1 z_4.2.2.1 z_4.2.2.2.1 z_4.2.2.2.2.1 z_4.2.2.2.2.2 im st ht)) [0, 1, 2, 3, 4, 5, 6, 7, 8, 9, 10, 11] rfl
    refine kMi (wf' := (wX5 cI cS a0 a1 a2 a3 a4 a5 a6 a7 a8 a9 a10 a11 nw kp ad fd tp kn it wd sz nm mv ik td z_6.2.1 z_6.2.2.1 z_6.2.2.2.1 z_6.2.2.2.2.1 z_6.2.2.2.2.2 im st ht)) [0, 1, 2, 3, 4, 5, 6, 7, 8, 9, 10, 11] [some 0, some 1, some 2, some 3, some 4, some 5, some 6, some 7, some 8, some 9, some 10, some 11] (rV C0 (tX5_takesWord l D cI cS cs F a0 a1 a2 a3 a4 a5 a6 a7 a8 a9 a10 a11 nw kp ad fd tp kn it wd sz nm mv ik td z_4.2.1 z_4.2.2.1 z_4.2.2.2.1 z_4.2.2.2.2.1 z_4.2.2.2.2.2 im st ht 9 z_6.1 z_6.2.1 z_6.2.2.1 z_6.2.2.2.1 z_6.2.2.2.2.1 z_6.2.2.2.2.2 e_7 (by decide) (((hD (wX5 cI cS a0 a1 a2 a3 a4 a5 a6 a7 a8 a9 a10 a11 nw kp ad fd tp kn it wd sz nm mv ik td z_4.2.1 z_4.2.2.1 z_4.2.2.2.1 z_4.2.2.2.2.1 z_4.2.2.2.2.2 im st ht) rfl).sub [0, 1, 2, 3, 4, 5, 6, 7, 8, 9, 10, 11] (by decide) rfl).weaken (fun _ _ _ _ => trivial))) RX5 gX5_readSaying_X5_takesWord rfl ⟨rfl, rfl⟩ pdX5_takesWord rfl ⟨Nat.le_of_ble_eq_true rfl, Nat.le_of_ble_eq_true rfl⟩ (fun _ _ _ _ q => ⟨q.1, q.2.call⟩) (va_recv hE.1 hPc (ci := 4) (q0 := 0) rfl rfl) (fun U hU hW _ => ⟨by rw [hU]; exact hPc, by rw [hU]; exact ((hCS.kept hS.2.1).narrow (fun q h => va_D.inA (hD (wX5 cI cS a0 a1 a2 a3 a4 a5 a6 a7 a8 a9 a10 a11 nw kp ad fd tp kn it wd sz nm mv ik td z_4.2.1 z_4.2.2.1 z_4.2.2.2.1 z_4.2.2.2.2.1 z_4.2.2.2.2.2 im st ht) rfl) [0, 1, 2, 3, 4, 5, 6, 7, 8, 9, 10, 11] rfl h)).warm hW⟩) hl.1 rfl (Nat.le_of_ble_eq_true rfl) dX5_readSaying_30 ⟨Nat.zero_le _, Nat.zero_le _⟩) hP (hD _ rfl) hS rfl rfl rfl (fun H locs hP hS => ?_)
    refine lv_if_eq (tgt := 46) hx hb dX5_readSaying_33 (by decide) (fun c_8 => ?_) (fun c_8 => ?_)
    · have h := ifp c_8 h
      refine lv_iconst (v := 0) hx hb dX5_readSaying_46 (by decide) ?_
      refine lv_istore_n (lv' := [(3, .int 0), (2, .int z_4.1), (0, .ref a0), (1, .int v1)]) hx hb dX5_readSaying_47 rfl hl (by decide) rfl (fun ls hl => ?_)
      refine lv_aload_n hx hb dX5_readSaying_48 rfl (lv_at hl 2 rfl) ?_
      refine ldwS hx hb hown (show vk_R RX5 308 "said" (cs.1 10) s from hCS.2.2.2.1 ("VaguePortModel", 308, "said", 10) (List.mem_of_getElem? (i := 17) rfl)) dX5_readSaying_49 ?_
      obtain ⟨z_9, e_10, h⟩ := bds h
      have hPc := hP.sub (ws' := (wX5 cI cS a0 a1 a2 a3 a4 a5 a6 a7 a8 a9 a10 a11 nw kp ad fd tp kn it wd sz nm mv ik td z_6.2.1 z_6.2.2.1 z_6.2.2.2.1 z_6.2.2.2.2.1 z_6.2.2.2.2.2 im st ht)) [0, 1, 2, 3, 4, 5, 6, 7, 8, 9, 10, 11] rfl
      refine kMi (wf' := (wX5 cI cS a0 a1 a2 a3 a4 a5 a6 a7 a8 a9 a10 a11 nw kp ad fd tp kn it wd sz nm mv ik td z_9.2.1 z_9.2.2.1 z_9.2.2.2.1 z_9.2.2.2.2.1 z_9.2.2.2.2.2 im st ht)) [0, 1, 2, 3, 4, 5, 6, 7, 8, 9, 10, 11] [some 0, some 1, some 2, some 3, some 4, some 5, some 6, some 7, some 8, some 9, some 10, some 11] (rV C0 (tX5_takesWord l D cI cS cs F a0 a1 a2 a3 a4 a5 a6 a7 a8 a9 a10 a11 nw kp ad fd tp kn it wd sz nm mv ik td z_6.2.1 z_6.2.2.1 z_6.2.2.2.1 z_6.2.2.2.2.1 z_6.2.2.2.2.2 im st ht 10 z_9.1 z_9.2.1 z_9.2.2.1 z_9.2.2.2.1 z_9.2.2.2.2.1 z_9.2.2.2.2.2 e_10 (by decide) (((hD (wX5 cI cS a0 a1 a2 a3 a4 a5 a6 a7 a8 a9 a10 a11 nw kp ad fd tp kn it wd sz nm mv ik td z_6.2.1 z_6.2.2.1 z_6.2.2.2.1 z_6.2.2.2.2.1 z_6.2.2.2.2.2 im st ht) rfl).sub [0, 1, 2, 3, 4, 5, 6, 7, 8, 9, 10, 11] (by decide) rfl).weaken (fun _ _ _ _ => trivial))) RX5 gX5_readSaying_X5_takesWord rfl ⟨rfl, rfl⟩ pdX5_takesWord rfl ⟨Nat.le_of_ble_eq_true rfl, Nat.le_of_ble_eq_true rfl⟩ (fun _ _ _ _ q => ⟨q.1, q.2.call⟩) (va_recv hE.1 hPc (ci := 4) (q0 := 0) rfl rfl) (fun U hU hW _ => ⟨by rw [hU]; exact hPc, by rw [hU]; exact ((hCS.kept hS.2.1).narrow (fun q h => va_D.inA (hD (wX5 cI cS a0 a1 a2 a3 a4 a5 a6 a7 a8 a9 a10 a11 nw kp ad fd tp kn it wd sz nm mv ik td z_6.2.1 z_6.2.2.1 z_6.2.2.2.1 z_6.2.2.2.2.1 z_6.2.2.2.2.2 im st ht) rfl) [0, 1, 2, 3, 4, 5, 6, 7, 8, 9, 10, 11] rfl h)).warm hW⟩) hl.1 rfl (Nat.le_of_ble_eq_true rfl) dX5_readSaying_52 ⟨Nat.zero_le _, Nat.zero_le _⟩) hP (hD _ rfl) hS rfl rfl rfl (fun H locs hP hS => ?_)
      refine lv_if_eq (tgt := 69) hx hb dX5_readSaying_55 (by decide) (fun c_11 => ?_) (fun c_11 => ?_)
      · have h := ifp c_11 h
        refine lv_iconst (v := 0) hx hb dX5_readSaying_69 (by decide) ?_
        refine lv_istore (lv' := [(4, .int 0), (3, .int 0), (2, .int z_4.1), (0, .ref a0), (1, .int v1)]) hx hb dX5_readSaying_70 hl (by decide) rfl (fun ls hl => ?_)
        refine lv_aload_n hx hb dX5_readSaying_72 rfl (lv_at hl 3 rfl) ?_
        refine lv_iload_n hx hb dX5_readSaying_73 rfl (lv_at hl 4 rfl) ?_
        refine lv_iload_n hx hb dX5_readSaying_74 rfl (lv_at hl 2 rfl) ?_
        refine lv_iload_n hx hb dX5_readSaying_75 rfl (lv_at hl 1 rfl) ?_
        refine lv_iload hx hb dX5_readSaying_76 (lv_at hl 0 rfl) ?_
        refine lv_aload_n hx hb dX5_readSaying_78 rfl (lv_at hl 3 rfl) ?_
        refine ldwS hx hb hown (show vk_R RX5 310 "finished" (cs.1 11) s from hCS.2.2.2.1 ("VaguePortModel", 310, "finished", 11) (List.mem_of_getElem? (i := 19) rfl)) dX5_readSaying_79 ?_
        obtain ⟨z_12, e_13, h⟩ := bds h
        have hPc := hP.sub (ws' := (wX5 cI cS a0 a1 a2 a3 a4 a5 a6 a7 a8 a9 a10 a11 nw kp ad fd tp kn it wd sz nm mv ik td z_9.2.1 z_9.2.2.1 z_9.2.2.2.1 z_9.2.2.2.2.1 z_9.2.2.2.2.2 im st ht)) [0, 1, 2, 3, 4, 5, 6, 7, 8, 9, 10, 11] rfl
        refine kMi (wf' := (wX5 cI cS a0 a1 a2 a3 a4 a5 a6 a7 a8 a9 a10 a11 nw kp ad fd tp kn it wd sz nm mv ik td z_12.2.1 z_12.2.2.1 z_12.2.2.2.1 z_12.2.2.2.2.1 z_12.2.2.2.2.2 im st ht)) [0, 1, 2, 3, 4, 5, 6, 7, 8, 9, 10, 11] [some 0, some 1, some 2, some 3, some 4, some 5, some 6, some 7, some 8, some 9, some 10, some 11] (rV C0 (tX5_takesWord l D cI cS cs F a0 a1 a2 a3 a4 a5 a6 a7 a8 a9 a10 a11 nw kp ad fd tp kn it wd sz nm mv ik td z_9.2.1 z_9.2.2.1 z_9.2.2.2.1 z_9.2.2.2.2.1 z_9.2.2.2.2.2 im st ht 11 z_12.1 z_12.2.1 z_12.2.2.1 z_12.2.2.2.1 z_12.2.2.2.2.1 z_12.2.2.2.2.2 e_13 (by decide) (((hD (wX5 cI cS a0 a1 a2 a3 a4 a5 a6 a7 a8 a9 a10 a11 nw kp ad fd tp kn it wd sz nm mv ik td z_9.2.1 z_9.2.2.1 z_9.2.2.2.1 z_9.2.2.2.2.1 z_9.2.2.2.2.2 im st ht) rfl).sub [0, 1, 2, 3, 4, 5, 6, 7, 8, 9, 10, 11] (by decide) rfl).weaken (fun _ _ _ _ => trivial))) RX5 gX5_readSaying_X5_takesWord rfl ⟨rfl, rfl⟩ pdX5_takesWord rfl ⟨Nat.le_of_ble_eq_true rfl, Nat.le_of_ble_eq_true rfl⟩ (fun _ _ _ _ q => ⟨q.1, q.2.call⟩) (va_recv hE.1 hPc (ci := 4) (q0 := 0) rfl rfl) (fun U hU hW _ => ⟨by rw [hU]; exact hPc, by rw [hU]; exact ((hCS.kept hS.2.1).narrow (fun q h => va_D.inA (hD (wX5 cI cS a0 a1 a2 a3 a4 a5 a6 a7 a8 a9 a10 a11 nw kp ad fd tp kn it wd sz nm mv ik td z_9.2.1 z_9.2.2.1 z_9.2.2.2.1 z_9.2.2.2.2.1 z_9.2.2.2.2.2 im st ht) rfl) [0, 1, 2, 3, 4, 5, 6, 7, 8, 9, 10, 11] rfl h)).warm hW⟩) hl.1 rfl (Nat.le_of_ble_eq_true rfl) dX5_readSaying_82 ⟨Nat.zero_le _, Nat.zero_le _⟩) hP (hD _ rfl) hS rfl rfl rfl (fun H locs hP hS => ?_)
        refine lv_if_eq (tgt := 92) hx hb dX5_readSaying_85 (by decide) (fun c_14 => ?_) (fun c_14 => ?_)
        · have h := ifp c_14 h
          refine lv_iconst (v := 0) hx hb dX5_readSaying_92 (by decide) ?_
          obtain ⟨z_15, e_16, h⟩ := bds h
          have hPc := hP.sub (ws' := (wX5 cI cS a0 a1 a2 a3 a4 a5 a6 a7 a8 a9 a10 a11 nw kp ad fd tp kn it wd sz nm mv ik td z_12.2.1 z_12.2.2.1 z_12.2.2.2.1 z_12.2.2.2.2.1 z_12.2.2.2.2.2 im st ht)) [0, 1, 2, 3, 4, 5, 6, 7, 8, 9, 10, 11] rfl
          refine kMv (wf' := (wX5 cI cS a0 a1 a2 a3 a4 a5 a6 a7 a8 a9 a10 a11 nw kp ad fd tp kn z_15.1 wd sz nm mv ik td z_12.2.1 z_12.2.2.1 z_12.2.2.2.1 z_12.2.2.2.2.1 z_12.2.2.2.2.2 z_15.2 st ht)) [0, 1, 2, 3, 4, 5, 6, 7, 8, 9, 10, 11] [some 0, some 1, some 2, some 3, some 4, some 5, some 6, some 7, some 8, some 9, some 10, some 11] (rV C0 (tX5_addItem l D cI cS a0 a1 a2 a3 a4 a5 a6 a7 a8 a9 a10 a11 nw kp ad fd tp kn it wd sz nm mv ik td z_12.2.1 z_12.2.2.1 z_12.2.2.2.1 z_12.2.2.2.2.1 z_12.2.2.2.2.2 im st ht v1 z_4.1 0 0 0 z_15.1 z_15.2 e_16 (((hD (wX5 cI cS a0 a1 a2 a3 a4 a5 a6 a7 a8 a9 a10 a11 nw kp ad fd tp kn it wd sz nm mv ik td z_12.2.1 z_12.2.2.1 z_12.2.2.2.1 z_12.2.2.2.2.1 z_12.2.2.2.2.2 im st ht) rfl).sub [0, 1, 2, 3, 4, 5, 6, 7, 8, 9, 10, 11] (by decide) rfl).weaken (fun _ _ _ _ => trivial))) RX5 gX5_readSaying_X5_addItem rfl ⟨rfl, rfl⟩ pdX5_addItem rfl ⟨Nat.le_of_ble_eq_true rfl, Nat.le_of_ble_eq_true rfl⟩ (fun _ _ _ _ q => q) (va_recv hE.1 hPc (ci := 4) (q0 := 0) rfl rfl) (fun U hU _ _ => by rw [hU]; exact hPc) hl.1 rfl (Nat.le_of_ble_eq_true rfl) dX5_readSaying_93 ⟨Nat.zero_le _, Nat.zero_le _⟩) hP (hD _ rfl) hS rfl rfl rfl (fun H locs hP hS => ?_)
          refine lv_aload_n hx hb dX5_readSaying_96 rfl (lv_at hl 3 rfl) ?_
          refine lv_dup hx hb dX5_readSaying_97 rfl ?_
          refine va_get (D := D) (ci := 4) (v := .int st) (C := RX5) (T := TX5) (N := 21) hx hb hts hinX5 hown hE.1 hP 0 rfl rfl 15 (by decide) (hts _ (List.mem_of_getElem? (i := 1) rfl)) (fun _ h9 => h9) rfl dX5_readSaying_98 ?_
          refine lv_iconst (v := 1) hx hb dX5_readSaying_101 (by decide) ?_
          refine lv_iadd hx hb dX5_readSaying_102 ?_
          refine va_put (D := D) (ci := 4) (v := .int (st + 1)) (ty := .int) (C := RX5) (T := TX5) (N := 21) hx hb hts hinX5 tyX5 tyX5_ok nmX5 hown hE.1 hP (hD _ rfl) hS 0 rfl rfl 15 (by decide) (hts _ (List.mem_of_getElem? (i := 1) rfl)) (fun _ h9 => h9) rfl (by decide +kernel) rfl rfl (Nat.le_of_ble_eq_true rfl) dX5_readSaying_103 (fun H locs hP _ hS => ?_)
          have hP : va_P D vwCl (wX5 cI cS a0 a1 a2 a3 a4 a5 a6 a7 a8 a9 a10 a11 nw kp ad fd tp kn z_15.1 wd sz nm mv ik td z_12.2.1 z_12.2.2.1 z_12.2.2.2.1 z_12.2.2.2.2.1 z_12.2.2.2.2.2 z_15.2 (st + 1) ht) H := hP
          obtain ⟨q0, g0⟩ := Prod.mk.inj (Option.some.inj h)
          obtain ⟨q1, g1⟩ := Prod.mk.inj g0
          obtain ⟨q2, g2⟩ := Prod.mk.inj g1
          obtain ⟨q3, g3⟩ := Prod.mk.inj g2
          obtain ⟨q4, g4⟩ := Prod.mk.inj g3
          obtain ⟨q5, g5⟩ := Prod.mk.inj g4
          obtain ⟨q6, q7⟩ := Prod.mk.inj g5
          subst q0 q1 q2 q3 q4 q5 q6 q7
          exact eMv C0 hP hS rfl dX5_readSaying_106
        · have h := ifn c_14 h
          refine lv_iconst (v := 1) hx hb dX5_readSaying_88 (by decide) ?_
          refine lv_goto (tgt := 93) hx hb dX5_readSaying_89 (by decide) ?_
          obtain ⟨z_17, e_18, h⟩ := bds h
          have hPc := hP.sub (ws' := (wX5 cI cS a0 a1 a2 a3 a4 a5 a6 a7 a8 a9 a10 a11 nw kp ad fd tp kn it wd sz nm mv ik td z_12.2.1 z_12.2.2.1 z_12.2.2.2.1 z_12.2.2.2.2.1 z_12.2.2.2.2.2 im st ht)) [0, 1, 2, 3, 4, 5, 6, 7, 8, 9, 10, 11] rfl
          refine kMv (wf' := (wX5 cI cS a0 a1 a2 a3 a4 a5 a6 a7 a8 a9 a10 a11 nw kp ad fd tp kn z_17.1 wd sz nm mv ik td z_12.2.1 z_12.2.2.1 z_12.2.2.2.1 z_12.2.2.2.2.1 z_12.2.2.2.2.2 z_17.2 st ht)) [0, 1, 2, 3, 4, 5, 6, 7, 8, 9, 10, 11] [some 0, some 1, some 2, some 3, some 4, some 5, some 6, some 7, some 8, some 9, some 10, some 11] (rV C0 (tX5_addItem l D cI cS a0 a1 a2 a3 a4 a5 a6 a7 a8 a9 a10 a11 nw kp ad fd tp kn it wd sz nm mv ik td z_12.2.1 z_12.2.2.1 z_12.2.2.2.1 z_12.2.2.2.2.1 z_12.2.2.2.2.2 im st ht v1 z_4.1 0 0 1 z_17.1 z_17.2 e_18 (((hD (wX5 cI cS a0 a1 a2 a3 a4 a5 a6 a7 a8 a9 a10 a11 nw kp ad fd tp kn it wd sz nm mv ik td z_12.2.1 z_12.2.2.1 z_12.2.2.2.1 z_12.2.2.2.2.1 z_12.2.2.2.2.2 im st ht) rfl).sub [0, 1, 2, 3, 4, 5, 6, 7, 8, 9, 10, 11] (by decide) rfl).weaken (fun _ _ _ _ => trivial))) RX5 gX5_readSaying_X5_addItem rfl ⟨rfl, rfl⟩ pdX5_addItem rfl ⟨Nat.le_of_ble_eq_true rfl, Nat.le_of_ble_eq_true rfl⟩ (fun _ _ _ _ q => q) (va_recv hE.1 hPc (ci := 4) (q0 := 0) rfl rfl) (fun U hU _ _ => by rw [hU]; exact hPc) hl.1 rfl (Nat.le_of_ble_eq_true rfl) dX5_readSaying_93 ⟨Nat.zero_le _, Nat.zero_le _⟩) hP (hD _ rfl) hS rfl rfl rfl (fun H locs hP hS => ?_)
          refine lv_aload_n hx hb dX5_readSaying_96 rfl (lv_at hl 3 rfl) ?_
          refine lv_dup hx hb dX5_readSaying_97 rfl ?_
          refine va_get (D := D) (ci := 4) (v := .int st) (C := RX5) (T := TX5) (N := 21) hx hb hts hinX5 hown hE.1 hP 0 rfl rfl 15 (by decide) (hts _ (List.mem_of_getElem? (i := 1) rfl)) (fun _ h9 => h9) rfl dX5_readSaying_98 ?_
          refine lv_iconst (v := 1) hx hb dX5_readSaying_101 (by decide) ?_
          refine lv_iadd hx hb dX5_readSaying_102 ?_
          refine va_put (D := D) (ci := 4) (v := .int (st + 1)) (ty := .int) (C := RX5) (T := TX5) (N := 21) hx hb hts hinX5 tyX5 tyX5_ok nmX5 hown hE.1 hP (hD _ rfl) hS 0 rfl rfl 15 (by decide) (hts _ (List.mem_of_getElem? (i := 1) rfl)) (fun _ h9 => h9) rfl (by decide +kernel) rfl rfl (Nat.le_of_ble_eq_true rfl) dX5_readSaying_103 (fun H locs hP _ hS => ?_)
          have hP : va_P D vwCl (wX5 cI cS a0 a1 a2 a3 a4 a5 a6 a7 a8 a9 a10 a11 nw kp ad fd tp kn z_17.1 wd sz nm mv ik td z_12.2.1 z_12.2.2.1 z_12.2.2.2.1 z_12.2.2.2.2.1 z_12.2.2.2.2.2 z_17.2 (st + 1) ht) H := hP
          obtain ⟨q0, g0⟩ := Prod.mk.inj (Option.some.inj h)
          obtain ⟨q1, g1⟩ := Prod.mk.inj g0
          obtain ⟨q2, g2⟩ := Prod.mk.inj g1
          obtain ⟨q3, g3⟩ := Prod.mk.inj g2
          obtain ⟨q4, g4⟩ := Prod.mk.inj g3
          obtain ⟨q5, g5⟩ := Prod.mk.inj g4
          obtain ⟨q6, q7⟩ := Prod.mk.inj g5
          subst q0 q1 q2 q3 q4 q5 q6 q7
          exact eMv C0 hP hS rfl dX5_readSaying_106
      · have h := ifn c_11 h
        refine lv_aload_n hx hb dX5_readSaying_58 rfl (lv_at hl 2 rfl) ?_
        refine lv_iconst (v := 0) hx hb dX5_readSaying_59 (by decide) ?_
        refine lv_sipush (v := 9999) hx hb dX5_readSaying_60 (by decide) ?_
        obtain ⟨z_19, e_20, h⟩ := bds h
        have hPc := hP.sub (ws' := (wX5 cI cS a0 a1 a2 a3 a4 a5 a6 a7 a8 a9 a10 a11 nw kp ad fd tp kn it wd sz nm mv ik td z_9.2.1 z_9.2.2.1 z_9.2.2.2.1 z_9.2.2.2.2.1 z_9.2.2.2.2.2 im st ht)) [0, 1, 2, 3, 4, 5, 6, 7, 8, 9, 10, 11] rfl
        refine kMi (wf' := (wX5 cI cS a0 a1 a2 a3 a4 a5 a6 a7 a8 a9 a10 a11 nw kp ad fd tp kn it wd sz nm mv ik td z_19.2.1 z_19.2.2.1 z_19.2.2.2.1 z_19.2.2.2.2.1 z_19.2.2.2.2.2 im st ht)) [0, 1, 2, 3, 4, 5, 6, 7, 8, 9, 10, 11] [some 0, some 1, some 2, some 3, some 4, some 5, some 6, some 7, some 8, some 9, some 10, some 11] (rV C0 (tX5_number l D cI cS F a0 a1 a2 a3 a4 a5 a6 a7 a8 a9 a10 a11 nw kp ad fd tp kn it wd sz nm mv ik td z_9.2.1 z_9.2.2.1 z_9.2.2.2.1 z_9.2.2.2.2.1 z_9.2.2.2.2.2 im st ht 0 9999 z_19.1 z_19.2.1 z_19.2.2.1 z_19.2.2.2.1 z_19.2.2.2.2.1 z_19.2.2.2.2.2 e_20 (((hD (wX5 cI cS a0 a1 a2 a3 a4 a5 a6 a7 a8 a9 a10 a11 nw kp ad fd tp kn it wd sz nm mv ik td z_9.2.1 z_9.2.2.1 z_9.2.2.2.1 z_9.2.2.2.2.1 z_9.2.2.2.2.2 im st ht) rfl).sub [0, 1, 2, 3, 4, 5, 6, 7, 8, 9, 10, 11] (by decide) rfl).weaken (fun _ _ _ _ => trivial))) RX5 gX5_readSaying_X5_number rfl ⟨rfl, rfl⟩ pdX5_number rfl ⟨Nat.le_of_ble_eq_true rfl, Nat.le_of_ble_eq_true rfl⟩ (fun _ _ _ _ q => q) (va_recv hE.1 hPc (ci := 4) (q0 := 0) rfl rfl) (fun U hU _ _ => by rw [hU]; exact hPc) hl.1 rfl (Nat.le_of_ble_eq_true rfl) dX5_readSaying_63 ⟨Nat.zero_le _, Nat.zero_le _⟩) hP (hD _ rfl) hS rfl rfl rfl (fun H locs hP hS => ?_)
        refine lv_goto (tgt := 70) hx hb dX5_readSaying_66 (by decide) ?_
        refine lv_istore (lv' := [(4, .int z_19.1), (3, .int 0), (2, .int z_4.1), (0, .ref a0), (1, .int v1)]) hx hb dX5_readSaying_70 hl (by decide) rfl (fun ls hl => ?_)
        refine lv_aload_n hx hb dX5_readSaying_72 rfl (lv_at hl 3 rfl) ?_
        refine lv_iload_n hx hb dX5_readSaying_73 rfl (lv_at hl 4 rfl) ?_
        refine lv_iload_n hx hb dX5_readSaying_74 rfl (lv_at hl 2 rfl) ?_
        refine lv_iload_n hx hb dX5_readSaying_75 rfl (lv_at hl 1 rfl) ?_
        refine lv_iload hx hb dX5_readSaying_76 (lv_at hl 0 rfl) ?_
        refine lv_aload_n hx hb dX5_readSaying_78 rfl (lv_at hl 3 rfl) ?_
        refine ldwS hx hb hown (show vk_R RX5 310 "finished" (cs.1 11) s from hCS.2.2.2.1 ("VaguePortModel", 310, "finished", 11) (List.mem_of_getElem? (i := 19) rfl)) dX5_readSaying_79 ?_
        obtain ⟨z_21, e_22, h⟩ := bds h
        have hPc := hP.sub (ws' := (wX5 cI cS a0 a1 a2 a3 a4 a5 a6 a7 a8 a9 a10 a11 nw kp ad fd tp kn it wd sz nm mv ik td z_19.2.1 z_19.2.2.1 z_19.2.2.2.1 z_19.2.2.2.2.1 z_19.2.2.2.2.2 im st ht)) [0, 1, 2, 3, 4, 5, 6, 7, 8, 9, 10, 11] rfl
        refine kMi (wf' := (wX5 cI cS a0 a1 a2 a3 a4 a5 a6 a7 a8 a9 a10 a11 nw kp ad fd tp kn it wd sz nm mv ik td z_21.2.1 z_21.2.2.1 z_21.2.2.2.1 z_21.2.2.2.2.1 z_21.2.2.2.2.2 im st ht)) [0, 1, 2, 3, 4, 5, 6, 7, 8, 9, 10, 11] [some 0, some 1, some 2, some 3, some 4, some 5, some 6, some 7, some 8, some 9, some 10, some 11] (rV C0 (tX5_takesWord l D cI cS cs F a0 a1 a2 a3 a4 a5 a6 a7 a8 a9 a10 a11 nw kp ad fd tp kn it wd sz nm mv ik td z_19.2.1 z_19.2.2.1 z_19.2.2.2.1 z_19.2.2.2.2.1 z_19.2.2.2.2.2 im st ht 11 z_21.1 z_21.2.1 z_21.2.2.1 z_21.2.2.2.1 z_21.2.2.2.2.1 z_21.2.2.2.2.2 e_22 (by decide) (((hD (wX5 cI cS a0 a1 a2 a3 a4 a5 a6 a7 a8 a9 a10 a11 nw kp ad fd tp kn it wd sz nm mv ik td z_19.2.1 z_19.2.2.1 z_19.2.2.2.1 z_19.2.2.2.2.1 z_19.2.2.2.2.2 im st ht) rfl).sub [0, 1, 2, 3, 4, 5, 6, 7, 8, 9, 10, 11] (by decide) rfl).weaken (fun _ _ _ _ => trivial))) RX5 gX5_readSaying_X5_takesWord rfl ⟨rfl, rfl⟩ pdX5_takesWord rfl ⟨Nat.le_of_ble_eq_true rfl, Nat.le_of_ble_eq_true rfl⟩ (fun _ _ _ _ q => ⟨q.1, q.2.call⟩) (va_recv hE.1 hPc (ci := 4) (q0 := 0) rfl rfl) (fun U hU hW _ => ⟨by rw [hU]; exact hPc, by rw [hU]; exact ((hCS.kept hS.2.1).narrow (fun q h => va_D.inA (hD (wX5 cI cS a0 a1 a2 a3 a4 a5 a6 a7 a8 a9 a10 a11 nw kp ad fd tp kn it wd sz nm mv ik td z_19.2.1 z_19.2.2.1 z_19.2.2.2.1 z_19.2.2.2.2.1 z_19.2.2.2.2.2 im st ht) rfl) [0, 1, 2, 3, 4, 5, 6, 7, 8, 9, 10, 11] rfl h)).warm hW⟩) hl.1 rfl (Nat.le_of_ble_eq_true rfl) dX5_readSaying_82 ⟨Nat.zero_le _, Nat.zero_le _⟩) hP (hD _ rfl) hS rfl rfl rfl (fun H locs hP hS => ?_)
        refine lv_if_eq (tgt := 92) hx hb dX5_readSaying_85 (by decide) (fun c_23 => ?_) (fun c_23 => ?_)
        · have h := ifp c_23 h
          refine lv_iconst (v := 0) hx hb dX5_readSaying_92 (by decide) ?_
          obtain ⟨z_24, e_25, h⟩ := bds h
          have hPc := hP.sub (ws' := (wX5 cI cS a0 a1 a2 a3 a4 a5 a6 a7 a8 a9 a10 a11 nw kp ad fd tp kn it wd sz nm mv ik td z_21.2.1 z_21.2.2.1 z_21.2.2.2.1 z_21.2.2.2.2.1 z_21.2.2.2.2.2 im st ht)) [0, 1, 2, 3, 4, 5, 6, 7, 8, 9, 10, 11] rfl
          refine kMv (wf' := (wX5 cI cS a0 a1 a2 a3 a4 a5 a6 a7 a8 a9 a10 a11 nw kp ad fd tp kn z_24.1 wd sz nm mv ik td z_21.2.1 z_21.2.2.1 z_21.2.2.2.1 z_21.2.2.2.2.1 z_21.2.2.2.2.2 z_24.2 st ht)) [0, 1, 2, 3, 4, 5, 6, 7, 8, 9, 10, 11] [some 0, some 1, some 2, some 3, some 4, some 5, some 6, some 7, some 8, some 9, some 10, some 11] (rV C0 (tX5_addItem l D cI cS a0 a1 a2 a3 a4 a5 a6 a7 a8 a9 a10 a11 nw kp ad fd tp kn it wd sz nm mv ik td z_21.2.1 z_21.2.2.1 z_21.2.2.2.1 z_21.2.2.2.2.1 z_21.2.2.2.2.2 im st ht v1 z_4.1 0 z_19.1 0 z_24.1 z_24.2 e_25 (((hD (wX5 cI cS a0 a1 a2 a3 a4 a5 a6 a7 a8 a9 a10 a11 nw kp ad fd tp kn it wd sz nm mv ik td z_21.2.1 z_21.2.2.1 z_21.2.2.2.1 z_21.2.2.2.2.1 z_21.2.2.2.2.2 im st ht) rfl).sub [0, 1, 2, 3, 4, 5, 6, 7, 8, 9, 10, 11] (by decide) rfl).weaken (fun _ _ _ _ => trivial))) RX5 gX5_readSaying_X5_addItem rfl ⟨rfl, rfl⟩ pdX5_addItem rfl ⟨Nat.le_of_ble_eq_true rfl, Nat.le_of_ble_eq_true rfl⟩ (fun _ _ _ _ q => q) (va_recv hE.1 hPc (ci := 4) (q0 := 0) rfl rfl) (fun U hU _ _ => by rw [hU]; exact hPc) hl.1 rfl (Nat.le_of_ble_eq_true rfl) dX5_readSaying_93 ⟨Nat.zero_le _, Nat.zero_le _⟩) hP (hD _ rfl) hS rfl rfl rfl (fun H locs hP hS => ?_)
          refine lv_aload_n hx hb dX5_readSaying_96 rfl (lv_at hl 3 rfl) ?_
          refine lv_dup hx hb dX5_readSaying_97 rfl ?_
          refine va_get (D := D) (ci := 4) (v := .int st) (C := RX5) (T := TX5) (N := 21) hx hb hts hinX5 hown hE.1 hP 0 rfl rfl 15 (by decide) (hts _ (List.mem_of_getElem? (i := 1) rfl)) (fun _ h9 => h9) rfl dX5_readSaying_98 ?_
          refine lv_iconst (v := 1) hx hb dX5_readSaying_101 (by decide) ?_
          refine lv_iadd hx hb dX5_readSaying_102 ?_
          refine va_put (D := D) (ci := 4) (v := .int (st + 1)) (ty := .int) (C := RX5) (T := TX5) (N := 21) hx hb hts hinX5 tyX5 tyX5_ok nmX5 hown hE.1 hP (hD _ rfl) hS 0 rfl rfl 15 (by decide) (hts _ (List.mem_of_getElem? (i := 1) rfl)) (fun _ h9 => h9) rfl (by decide +kernel) rfl rfl (Nat.le_of_ble_eq_true rfl) dX5_readSaying_103 (fun H locs hP _ hS => ?_)
          have hP : va_P D vwCl (wX5 cI cS a0 a1 a2 a3 a4 a5 a6 a7 a8 a9 a10 a11 nw kp ad fd tp kn z_24.1 wd sz nm mv ik td z_21.2.1 z_21.2.2.1 z_21.2.2.2.1 z_21.2.2.2.2.1 z_21.2.2.2.2.2 z_24.2 (st + 1) ht) H := hP
          obtain ⟨q0, g0⟩ := Prod.mk.inj (Option.some.inj h)
          obtain ⟨q1, g1⟩ := Prod.mk.inj g0
          obtain ⟨q2, g2⟩ := Prod.mk.inj g1
          obtain ⟨q3, g3⟩ := Prod.mk.inj g2
          obtain ⟨q4, g4⟩ := Prod.mk.inj g3
          obtain ⟨q5, g5⟩ := Prod.mk.inj g4
          obtain ⟨q6, q7⟩ := Prod.mk.inj g5
          subst q0 q1 q2 q3 q4 q5 q6 q7
          exact eMv C0 hP hS rfl dX5_readSaying_106
        · have h := ifn c_23 h
          refine lv_iconst (v := 1) hx hb dX5_readSaying_88 (by decide) ?_
          refine lv_goto (tgt := 93) hx hb dX5_readSaying_89 (by decide) ?_
          obtain ⟨z_26, e_27, h⟩ := bds h
          have hPc := hP.sub (ws' := (wX5 cI cS a0 a1 a2 a3 a4 a5 a6 a7 a8 a9 a10 a11 nw kp ad fd tp kn it wd sz nm mv ik td z_21.2.1 z_21.2.2.1 z_21.2.2.2.1 z_21.2.2.2.2.1 z_21.2.2.2.2.2 im st ht)) [0, 1, 2, 3, 4, 5, 6, 7, 8, 9, 10, 11] rfl
          refine kMv (wf' := (wX5 cI cS a0 a1 a2 a3 a4 a5 a6 a7 a8 a9 a10 a11 nw kp ad fd tp kn z_26.1 wd sz nm mv ik td z_21.2.1 z_21.2.2.1 z_21.2.2.2.1 z_21.2.2.2.2.1 z_21.2.2.2.2.2 z_26.2 st ht)) [0, 1, 2, 3, 4, 5, 6, 7, 8, 9, 10, 11] [some 0, some 1, some 2, some 3, some 4, some 5, some 6, some 7, some 8, some 9, some 10, some 11] (rV C0 (tX5_addItem l D cI cS a0 a1 a2 a3 a4 a5 a6 a7 a8 a9 a10 a11 nw kp ad fd tp kn it wd sz nm mv ik td z_21.2.1 z_21.2.2.1 z_21.2.2.2.1 z_21.2.2.2.2.1 z_21.2.2.2.2.2 im st ht v1 z_4.1 0 z_19.1 1 z_26.1 z_26.2 e_27 (((hD (wX5 cI cS a0 a1 a2 a3 a4 a5 a6 a7 a8 a9 a10 a11 nw kp ad fd tp kn it wd sz nm mv ik td z_21.2.1 z_21.2.2.1 z_21.2.2.2.1 z_21.2.2.2.2.1 z_21.2.2.2.2.2 im st ht) rfl).sub [0, 1, 2, 3, 4, 5, 6, 7, 8, 9, 10, 11] (by decide) rfl).weaken (fun _ _ _ _ => trivial))) RX5 gX5_readSaying_X5_addItem rfl ⟨rfl, rfl⟩ pdX5_addItem rfl ⟨Nat.le_of_ble_eq_true rfl, Nat.le_of_ble_eq_true rfl⟩ (fun _ _ _ _ q => q) (va_recv hE.1 hPc (ci := 4) (q0 := 0) rfl rfl) (fun U hU _ _ => by rw [hU]; exact hPc) hl.1 rfl (Nat.le_of_ble_eq_true rfl) dX5_readSaying_93 ⟨Nat.zero_le _, Nat.zero_le _⟩) hP (hD _ rfl) hS rfl rfl rfl (fun H locs hP hS => ?_)
          refine lv_aload_n hx hb dX5_readSaying_96 rfl (lv_at hl 3 rfl) ?_
          refine lv_dup hx hb dX5_readSaying_97 rfl ?_
          refine va_get (D := D) (ci := 4) (v := .int st) (C := RX5) (T := TX5) (N := 21) hx hb hts hinX5 hown hE.1 hP 0 rfl rfl 15 (by decide) (hts _ (List.mem_of_getElem? (i := 1) rfl)) (fun _ h9 => h9) rfl dX5_readSaying_98 ?_
          refine lv_iconst (v := 1) hx hb dX5_readSaying_101 (by decide) ?_
          refine lv_iadd hx hb dX5_readSaying_102 ?_
          refine va_put (D := D) (ci := 4) (v := .int (st + 1)) (ty := .int) (C := RX5) (T := TX5) (N := 21) hx hb hts hinX5 tyX5 tyX5_ok nmX5 hown hE.1 hP (hD _ rfl) hS 0 rfl rfl 15 (by decide) (hts _ (List.mem_of_getElem? (i := 1) rfl)) (fun _ h9 => h9) rfl (by decide +kernel) rfl rfl (Nat.le_of_ble_eq_true rfl) dX5_readSaying_103 (fun H locs hP _ hS => ?_)
          have hP : va_P D vwCl (wX5 cI cS a0 a1 a2 a3 a4 a5 a6 a7 a8 a9 a10 a11 nw kp ad fd tp kn z_26.1 wd sz nm mv ik td z_21.2.1 z_21.2.2.1 z_21.2.2.2.1 z_21.2.2.2.2.1 z_21.2.2.2.2.2 z_26.2 (st + 1) ht) H := hP
          obtain ⟨q0, g0⟩ := Prod.mk.inj (Option.some.inj h)
          obtain ⟨q1, g1⟩ := Prod.mk.inj g0
          obtain ⟨q2, g2⟩ := Prod.mk.inj g1
          obtain ⟨q3, g3⟩ := Prod.mk.inj g2
          obtain ⟨q4, g4⟩ := Prod.mk.inj g3
          obtain ⟨q5, g5⟩ := Prod.mk.inj g4
          obtain ⟨q6, q7⟩ := Prod.mk.inj g5
          subst q0 q1 q2 q3 q4 q5 q6 q7
          exact eMv C0 hP hS rfl dX5_readSaying_106
    · have h := ifn c_8 h
      refine lv_aload_n hx hb dX5_readSaying_36 rfl (lv_at hl 1 rfl) ?_
      refine lv_iconst (v := 0) hx hb dX5_readSaying_37 (by decide) ?_
      refine lv_bipush (v := 15) hx hb dX5_readSaying_38 (by decide) ?_
      obtain ⟨z_28, e_29, h⟩ := bds h
      have hPc := hP.sub (ws' := (wX5 cI cS a0 a1 a2 a3 a4 a5 a6 a7 a8 a9 a10 a11 nw kp ad fd tp kn it wd sz nm mv ik td z_6.2.1 z_6.2.2.1 z_6.2.2.2.1 z_6.2.2.2.2.1 z_6.2.2.2.2.2 im st ht)) [0, 1, 2, 3, 4, 5, 6, 7, 8, 9, 10, 11] rfl
      refine kMi (wf' := (wX5 cI cS a0 a1 a2 a3 a4 a5 a6 a7 a8 a9 a10 a11 nw kp ad fd tp kn it wd sz nm mv ik td z_28.2.1 z_28.2.2.1 z_28.2.2.2.1 z_28.2.2.2.2.1 z_28.2.2.2.2.2 im st ht)) [0, 1, 2, 3, 4, 5, 6, 7, 8, 9, 10, 11] [some 0, some 1, some 2, some 3, some 4, some 5, some 6, some 7, some 8, some 9, some 10, some 11] (rV C0 (tX5_number l D cI cS F a0 a1 a2 a3 a4 a5 a6 a7 a8 a9 a10 a11 nw kp ad fd tp kn it wd sz nm mv ik td z_6.2.1 z_6.2.2.1 z_6.2.2.2.1 z_6.2.2.2.2.1 z_6.2.2.2.2.2 im st ht 0 15 z_28.1 z_28.2.1 z_28.2.2.1 z_28.2.2.2.1 z_28.2.2.2.2.1 z_28.2.2.2.2.2 e_29 (((hD (wX5 cI cS a0 a1 a2 a3 a4 a5 a6 a7 a8 a9 a10 a11 nw kp ad fd tp kn it wd sz nm mv ik td z_6.2.1 z_6.2.2.1 z_6.2.2.2.1 z_6.2.2.2.2.1 z_6.2.2.2.2.2 im st ht) rfl).sub [0, 1, 2, 3, 4, 5, 6, 7, 8, 9, 10, 11] (by decide) rfl).weaken (fun _ _ _ _ => trivial))) RX5 gX5_readSaying_X5_number rfl ⟨rfl, rfl⟩ pdX5_number rfl ⟨Nat.le_of_ble_eq_true rfl, Nat.le_of_ble_eq_true rfl⟩ (fun _ _ _ _ q => q) (va_recv hE.1 hPc (ci := 4) (q0 := 0) rfl rfl) (fun U hU _ _ => by rw [hU]; exact hPc) hl.1 rfl (Nat.le_of_ble_eq_true rfl) dX5_readSaying_40 ⟨Nat.zero_le _, Nat.zero_le _⟩) hP (hD _ rfl) hS rfl rfl rfl (fun H locs hP hS => ?_)
      refine lv_goto (tgt := 47) hx hb dX5_readSaying_43 (by decide) ?_
      refine lv_istore_n (lv' := [(3, .int z_28.1), (2, .int z_4.1), (0, .ref a0), (1, .int v1)]) hx hb dX5_readSaying_47 rfl hl (by decide) rfl (fun ls hl => ?_)
      refine lv_aload_n hx hb dX5_readSaying_48 rfl (lv_at hl 2 rfl) ?_
      refine ldwS hx hb hown (show vk_R RX5 308 "said" (cs.1 10) s from hCS.2.2.2.1 ("VaguePortModel", 308, "said", 10) (List.mem_of_getElem? (i := 17) rfl)) dX5_readSaying_49 ?_
      obtain ⟨z_30, e_31, h⟩ := bds h
      have hPc := hP.sub (ws' := (wX5 cI cS a0 a1 a2 a3 a4 a5 a6 a7 a8 a9 a10 a11 nw kp ad fd tp kn it wd sz nm mv ik td z_28.2.1 z_28.2.2.1 z_28.2.2.2.1 z_28.2.2.2.2.1 z_28.2.2.2.2.2 im st ht)) [0, 1, 2, 3, 4, 5, 6, 7, 8, 9, 10, 11] rfl
      refine kMi (wf' := (wX5 cI cS a0 a1 a2 a3 a4 a5 a6 a7 a8 a9 a10 a11 nw kp ad fd tp kn it wd sz nm mv ik td z_30.2.1 z_30.2.2.1 z_30.2.2.2.1 z_30.2.2.2.2.1 z_30.2.2.2.2.2 im st ht)) [0, 1, 2, 3, 4, 5, 6, 7, 8, 9, 10, 11] [some 0, some 1, some 2, some 3, some 4, some 5, some 6, some 7, some 8, some 9, some 10, some 11] (rV C0 (tX5_takesWord l D cI cS cs F a0 a1 a2 a3 a4 a5 a6 a7 a8 a9 a10 a11 nw kp ad fd tp kn it wd sz nm mv ik td z_28.2.1 z_28.2.2.1 z_28.2.2.2.1 z_28.2.2.2.2.1 z_28.2.2.2.2.2 im st ht 10 z_30.1 z_30.2.1 z_30.2.2.1 z_30.2.2.2.1 z_30.2.2.2.2.1 z_30.2.2.2.2.2 e_31 (by decide) (((hD (wX5 cI cS a0 a1 a2 a3 a4 a5 a6 a7 a8 a9 a10 a11 nw kp ad fd tp kn it wd sz nm mv ik td z_28.2.1 z_28.2.2.1 z_28.2.2.2.1 z_28.2.2.2.2.1 z_28.2.2.2.2.2 im st ht) rfl).sub [0, 1, 2, 3, 4, 5, 6, 7, 8, 9, 10, 11] (by decide) rfl).weaken (fun _ _ _ _ => trivial))) RX5 gX5_readSaying_X5_takesWord rfl ⟨rfl, rfl⟩ pdX5_takesWord rfl ⟨Nat.le_of_ble_eq_true rfl, Nat.le_of_ble_eq_true rfl⟩ (fun _ _ _ _ q => ⟨q.1, q.2.call⟩) (va_recv hE.1 hPc (ci := 4) (q0 := 0) rfl rfl) (fun U hU hW _ => ⟨by rw [hU]; exact hPc, by rw [hU]; exact ((hCS.kept hS.2.1).narrow (fun q h => va_D.inA (hD (wX5 cI cS a0 a1 a2 a3 a4 a5 a6 a7 a8 a9 a10 a11 nw kp ad fd tp kn it wd sz nm mv ik td z_28.2.1 z_28.2.2.1 z_28.2.2.2.1 z_28.2.2.2.2.1 z_28.2.2.2.2.2 im st ht) rfl) [0, 1, 2, 3, 4, 5, 6, 7, 8, 9, 10, 11] rfl h)).warm hW⟩) hl.1 rfl (Nat.le_of_ble_eq_true rfl) dX5_readSaying_52 ⟨Nat.zero_le _, Nat.zero_le _⟩) hP (hD _ rfl) hS rfl rfl rfl (fun H locs hP hS => ?_)
      refine lv_if_eq (tgt := 69) hx hb dX5_readSaying_55 (by decide) (fun c_32 => ?_) (fun c_32 => ?_)
      · have h := ifp c_32 h
        refine lv_iconst (v := 0) hx hb dX5_readSaying_69 (by decide) ?_
        refine lv_istore (lv' := [(4, .int 0), (3, .int z_28.1), (2, .int z_4.1), (0, .ref a0), (1, .int v1)]) hx hb dX5_readSaying_70 hl (by decide) rfl (fun ls hl => ?_)
        refine lv_aload_n hx hb dX5_readSaying_72 rfl (lv_at hl 3 rfl) ?_
        refine lv_iload_n hx hb dX5_readSaying_73 rfl (lv_at hl 4 rfl) ?_
        refine lv_iload_n hx hb dX5_readSaying_74 rfl (lv_at hl 2 rfl) ?_
        refine lv_iload_n hx hb dX5_readSaying_75 rfl (lv_at hl 1 rfl) ?_
        refine lv_iload hx hb dX5_readSaying_76 (lv_at hl 0 rfl) ?_
        refine lv_aload_n hx hb dX5_readSaying_78 rfl (lv_at hl 3 rfl) ?_
        refine ldwS hx hb hown (show vk_R RX5 310 "finished" (cs.1 11) s from hCS.2.2.2.1 ("VaguePortModel", 310, "finished", 11) (List.mem_of_getElem? (i := 19) rfl)) dX5_readSaying_79 ?_
        obtain ⟨z_33, e_34, h⟩ := bds h
        have hPc := hP.sub (ws' := (wX5 cI cS a0 a1 a2 a3 a4 a5 a6 a7 a8 a9 a10 a11 nw kp ad fd tp kn it wd sz nm mv ik td z_30.2.1 z_30.2.2.1 z_30.2.2.2.1 z_30.2.2.2.2.1 z_30.2.2.2.2.2 im st ht)) [0, 1, 2, 3, 4, 5, 6, 7, 8, 9, 10, 11] rfl
        refine kMi (wf' := (wX5 cI cS a0 a1 a2 a3 a4 a5 a6 a7 a8 a9 a10 a11 nw kp ad fd tp kn it wd sz nm mv ik td z_33.2.1 z_33.2.2.1 z_33.2.2.2.1 z_33.2.2.2.2.1 z_33.2.2.2.2.2 im st ht)) [0, 1, 2, 3, 4, 5, 6, 7, 8, 9, 10, 11] [some 0, some 1, some 2, some 3, some 4, some 5, some 6, some 7, some 8, some 9, some 10, some 11] (rV C0 (tX5_takesWord l D cI cS cs F a0 a1 a2 a3 a4 a5 a6 a7 a8 a9 a10 a11 nw kp ad fd tp kn it wd sz nm mv ik td z_30.2.1 z_30.2.2.1 z_30.2.2.2.1 z_30.2.2.2.2.1 z_30.2.2.2.2.2 im st ht 11 z_33.1 z_33.2.1 z_33.2.2.1 z_33.2.2.2.1 z_33.2.2.2.2.1 z_33.2.2.2.2.2 e_34 (by decide) (((hD (wX5 cI cS a0 a1 a2 a3 a4 a5 a6 a7 a8 a9 a10 a11 nw kp ad fd tp kn it wd sz nm mv ik td z_30.2.1 z_30.2.2.1 z_30.2.2.2.1 z_30.2.2.2.2.1 z_30.2.2.2.2.2 im st ht) rfl).sub [0, 1, 2, 3, 4, 5, 6, 7, 8, 9, 10, 11] (by decide) rfl).weaken (fun _ _ _ _ => trivial))) RX5 gX5_readSaying_X5_takesWord rfl ⟨rfl, rfl⟩ pdX5_takesWord rfl ⟨Nat.le_of_ble_eq_true rfl, Nat.le_of_ble_eq_true rfl⟩ (fun _ _ _ _ q => ⟨q.1, q.2.call⟩) (va_recv hE.1 hPc (ci := 4) (q0 := 0) rfl rfl) (fun U hU hW _ => ⟨by rw [hU]; exact hPc, by rw [hU]; exact ((hCS.kept hS.2.1).narrow (fun q h => va_D.inA (hD (wX5 cI cS a0 a1 a2 a3 a4 a5 a6 a7 a8 a9 a10 a11 nw kp ad fd tp kn it wd sz nm mv ik td z_30.2.1 z_30.2.2.1 z_30.2.2.2.1 z_30.2.2.2.2.1 z_30.2.2.2.2.2 im st ht) rfl) [0, 1, 2, 3, 4, 5, 6, 7, 8, 9, 10, 11] rfl h)).warm hW⟩) hl.1 rfl (Nat.le_of_ble_eq_true rfl) dX5_readSaying_82 ⟨Nat.zero_le _, Nat.zero_le _⟩) hP (hD _ rfl) hS rfl rfl rfl (fun H locs hP hS => ?_)
        refine lv_if_eq (tgt := 92) hx hb dX5_readSaying_85 (by decide) (fun c_35 => ?_) (fun c_35 => ?_)
        · have h := ifp c_35 h
          refine lv_iconst (v := 0) hx hb dX5_readSaying_92 (by decide) ?_
          obtain ⟨z_36, e_37, h⟩ := bds h
          have hPc := hP.sub (ws' := (wX5 cI cS a0 a1 a2 a3 a4 a5 a6 a7 a8 a9 a10 a11 nw kp ad fd tp kn it wd sz nm mv ik td z_33.2.1 z_33.2.2.1 z_33.2.2.2.1 z_33.2.2.2.2.1 z_33.2.2.2.2.2 im st ht)) [0, 1, 2, 3, 4, 5, 6, 7, 8, 9, 10, 11] rfl
          refine kMv (wf' := (wX5 cI cS a0 a1 a2 a3 a4 a5 a6 a7 a8 a9 a10 a11 nw kp ad fd tp kn z_36.1 wd sz nm mv ik td z_33.2.1 z_33.2.2.1 z_33.2.2.2.1 z_33.2.2.2.2.1 z_33.2.2.2.2.2 z_36.2 st ht)) [0, 1, 2, 3, 4, 5, 6, 7, 8, 9, 10, 11] [some 0, some 1, some 2, some 3, some 4, some 5, some 6, some 7, some 8, some 9, some 10, some 11] (rV C0 (tX5_addItem l D cI cS a0 a1 a2 a3 a4 a5 a6 a7 a8 a9 a10 a11 nw kp ad fd tp kn it wd sz nm mv ik td z_33.2.1 z_33.2.2.1 z_33.2.2.2.1 z_33.2.2.2.2.1 z_33.2.2.2.2.2 im st ht v1 z_4.1 z_28.1 0 0 z_36.1 z_36.2 e_37 (((hD (wX5 cI cS a0 a1 a2 a3 a4 a5 a6 a7 a8 a9 a10 a11 nw kp ad fd tp kn it wd sz nm mv ik td z_33.2.1 z_33.2.2.1 z_33.2.2.2.1 z_33.2.2.2.2.1 z_33.2.2.2.2.2 im st ht) rfl).sub [0, 1, 2, 3, 4, 5, 6, 7, 8, 9, 10, 11] (by decide) rfl).weaken (fun _ _ _ _ => trivial))) RX5 gX5_readSaying_X5_addItem rfl ⟨rfl, rfl⟩ pdX5_addItem rfl ⟨Nat.le_of_ble_eq_true rfl, Nat.le_of_ble_eq_true rfl⟩ (fun _ _ _ _ q => q) (va_recv hE.1 hPc (ci := 4) (q0 := 0) rfl rfl) (fun U hU _ _ => by rw [hU]; exact hPc) hl.1 rfl (Nat.le_of_ble_eq_true rfl) dX5_readSaying_93 ⟨Nat.zero_le _, Nat.zero_le _⟩) hP (hD _ rfl) hS rfl rfl rfl (fun H locs hP hS => ?_)
          refine lv_aload_n hx hb dX5_readSaying_96 rfl (lv_at hl 3 rfl) ?_
          refine lv_dup hx hb dX5_readSaying_97 rfl ?_
          refine va_get (D := D) (ci := 4) (v := .int st) (C := RX5) (T := TX5) (N := 21) hx hb hts hinX5 hown hE.1 hP 0 rfl rfl 15 (by decide) (hts _ (List.mem_of_getElem? (i := 1) rfl)) (fun _ h9 => h9) rfl dX5_readSaying_98 ?_
          refine lv_iconst (v := 1) hx hb dX5_readSaying_101 (by decide) ?_
          refine lv_iadd hx hb dX5_readSaying_102 ?_
          refine va_put (D := D) (ci := 4) (v := .int (st + 1)) (ty := .int) (C := RX5) (T := TX5) (N := 21) hx hb hts hinX5 tyX5 tyX5_ok nmX5 hown hE.1 hP (hD _ rfl) hS 0 rfl rfl 15 (by decide) (hts _ (List.mem_of_getElem? (i := 1) rfl)) (fun _ h9 => h9) rfl (by decide +kernel) rfl rfl (Nat.le_of_ble_eq_true rfl) dX5_readSaying_103 (fun H locs hP _ hS => ?_)
          have hP : va_P D vwCl (wX5 cI cS a0 a1 a2 a3 a4 a5 a6 a7 a8 a9 a10 a11 nw kp ad fd tp kn z_36.1 wd sz nm mv ik td z_33.2.1 z_33.2.2.1 z_33.2.2.2.1 z_33.2.2.2.2.1 z_33.2.2.2.2.2 z_36.2 (st + 1) ht) H := hP
          obtain ⟨q0, g0⟩ := Prod.mk.inj (Option.some.inj h)
          obtain ⟨q1, g1⟩ := Prod.mk.inj g0
          obtain ⟨q2, g2⟩ := Prod.mk.inj g1
          obtain ⟨q3, g3⟩ := Prod.mk.inj g2
          obtain ⟨q4, g4⟩ := Prod.mk.inj g3
          obtain ⟨q5, g5⟩ := Prod.mk.inj g4
          obtain ⟨q6, q7⟩ := Prod.mk.inj g5
          subst q0 q1 q2 q3 q4 q5 q6 q7
          exact eMv C0 hP hS rfl dX5_readSaying_106
        · have h := ifn c_35 h
          refine lv_iconst (v := 1) hx hb dX5_readSaying_88 (by decide) ?_
          refine lv_goto (tgt := 93) hx hb dX5_readSaying_89 (by decide) ?_
          obtain ⟨z_38, e_39, h⟩ := bds h
          have hPc := hP.sub (ws' := (wX5 cI cS a0 a1 a2 a3 a4 a5 a6 a7 a8 a9 a10 a11 nw kp ad fd tp kn it wd sz nm mv ik td z_33.2.1 z_33.2.2.1 z_33.2.2.2.1 z_33.2.2.2.2.1 z_33.2.2.2.2.2 im st ht)) [0, 1, 2, 3, 4, 5, 6, 7, 8, 9, 10, 11] rfl
          refine kMv (wf' := (wX5 cI cS a0 a1 a2 a3 a4 a5 a6 a7 a8 a9 a10 a11 nw kp ad fd tp kn z_38.1 wd sz nm mv ik td z_33.2.1 z_33.2.2.1 z_33.2.2.2.1 z_33.2.2.2.2.1 z_33.2.2.2.2.2 z_38.2 st ht)) [0, 1, 2, 3, 4, 5, 6, 7, 8, 9, 10, 11] [some 0, some 1, some 2, some 3, some 4, some 5, some 6, some 7, some 8, some 9, some 10, some 11] (rV C0 (tX5_addItem l D cI cS a0 a1 a2 a3 a4 a5 a6 a7 a8 a9 a10 a11 nw kp ad fd tp kn it wd sz nm mv ik td z_33.2.1 z_33.2.2.1 z_33.2.2.2.1 z_33.2.2.2.2.1 z_33.2.2.2.2.2 im st ht v1 z_4.1 z_28.1 0 1 z_38.1 z_38.2 e_39 (((hD (wX5 cI cS a0 a1 a2 a3 a4 a5 a6 a7 a8 a9 a10 a11 nw kp ad fd tp kn it wd sz nm mv ik td z_33.2.1 z_33.2.2.1 z_33.2.2.2.1 z_33.2.2.2.2.1 z_33.2.2.2.2.2 im st ht) rfl).sub [0, 1, 2, 3, 4, 5, 6, 7, 8, 9, 10, 11] (by decide) rfl).weaken (fun _ _ _ _ => trivial))) RX5 gX5_readSaying_X5_addItem rfl ⟨rfl, rfl⟩ pdX5_addItem rfl ⟨Nat.le_of_ble_eq_true rfl, Nat.le_of_ble_eq_true rfl⟩ (fun _ _ _ _ q => q) (va_recv hE.1 hPc (ci := 4) (q0 := 0) rfl rfl) (fun U hU _ _ => by rw [hU]; exact hPc) hl.1 rfl (Nat.le_of_ble_eq_true rfl) dX5_readSaying_93 ⟨Nat.zero_le _, Nat.zero_le _⟩) hP (hD _ rfl) hS rfl rfl rfl (fun H locs hP hS => ?_)
          refine lv_aload_n hx hb dX5_readSaying_96 rfl (lv_at hl 3 rfl) ?_
          refine lv_dup hx hb dX5_readSaying_97 rfl ?_
          refine va_get (D := D) (ci := 4) (v := .int st) (C := RX5) (T := TX5) (N := 21) hx hb hts hinX5 hown hE.1 hP 0 rfl rfl 15 (by decide) (hts _ (List.mem_of_getElem? (i := 1) rfl)) (fun _ h9 => h9) rfl dX5_readSaying_98 ?_
          refine lv_iconst (v := 1) hx hb dX5_readSaying_101 (by decide) ?_
          refine lv_iadd hx hb dX5_readSaying_102 ?_
          refine va_put (D := D) (ci := 4) (v := .int (st + 1)) (ty := .int) (C := RX5) (T := TX5) (N := 21) hx hb hts hinX5 tyX5 tyX5_ok nmX5 hown hE.1 hP (hD _ rfl) hS 0 rfl rfl 15 (by decide) (hts _ (List.mem_of_getElem? (i := 1) rfl)) (fun _ h9 => h9) rfl (by decide +kernel) rfl rfl (Nat.le_of_ble_eq_true rfl) dX5_readSaying_103 (fun H locs hP _ hS => ?_)
          have hP : va_P D vwCl (wX5 cI cS a0 a1 a2 a3 a4 a5 a6 a7 a8 a9 a10 a11 nw kp ad fd tp kn z_38.1 wd sz nm mv ik td z_33.2.1 z_33.2.2.1 z_33.2.2.2.1 z_33.2.2.2.2.1 z_33.2.2.2.2.2 z_38.2 (st + 1) ht) H := hP
          obtain ⟨q0, g0⟩ := Prod.mk.inj (Option.some.inj h)
          obtain ⟨q1, g1⟩ := Prod.mk.inj g0
          obtain ⟨q2, g2⟩ := Prod.mk.inj g1
          obtain ⟨q3, g3⟩ := Prod.mk.inj g2
          obtain ⟨q4, g4⟩ := Prod.mk.inj g3
          obtain ⟨q5, g5⟩ := Prod.mk.inj g4
          obtain ⟨q6, q7⟩ := Prod.mk.inj g5
          subst q0 q1 q2 q3 q4 q5 q6 q7
          exact eMv C0 hP hS rfl dX5_readSaying_106
      · have h := ifn c_32 h
        refine lv_aload_n hx hb dX5_readSaying_58 rfl (lv_at hl 2 rfl) ?_
        refine lv_iconst (v := 0) hx hb dX5_readSaying_59 (by decide) ?_
        refine lv_sipush (v := 9999) hx hb dX5_readSaying_60 (by decide) ?_
        obtain ⟨z_40, e_41, h⟩ := bds h
        have hPc := hP.sub (ws' := (wX5 cI cS a0 a1 a2 a3 a4 a5 a6 a7 a8 a9 a10 a11 nw kp ad fd tp kn it wd sz nm mv ik td z_30.2.1 z_30.2.2.1 z_30.2.2.2.1 z_30.2.2.2.2.1 z_30.2.2.2.2.2 im st ht)) [0, 1, 2, 3, 4, 5, 6, 7, 8, 9, 10, 11] rfl
        refine kMi (wf' := (wX5 cI cS a0 a1 a2 a3 a4 a5 a6 a7 a8 a9 a10 a11 nw kp ad fd tp kn it wd sz nm mv ik td z_40.2.1 z_40.2.2.1 z_40.2.2.2.1 z_40.2.2.2.2.1 z_40.2.2.2.2.2 im st ht)) [0, 1, 2, 3, 4, 5, 6, 7, 8, 9, 10, 11] [some 0, some 1, some 2, some 3, some 4, some 5, some 6, some 7, some 8, some 9, some 10, some 11] (rV C0 (tX5_number l D cI cS F a0 a1 a2 a3 a4 a5 a6 a7 a8 a9 a10 a11 nw kp ad fd tp kn it wd sz nm mv ik td z_30.2.1 z_30.2.2.1 z_30.2.2.2.1 z_30.2.2.2.2.1 z_30.2.2.2.2.2 im st ht 0 9999 z_40.1 z_40.2.1 z_40.2.2.1 z_40.2.2.2.1 z_40.2.2.2.2.1 z_40.2.2.2.2.2 e_41 (((hD (wX5 cI cS a0 a1 a2 a3 a4 a5 a6 a7 a8 a9 a10 a11 nw kp ad fd tp kn it wd sz nm mv ik td z_30.2.1 z_30.2.2.1 z_30.2.2.2.1 z_30.2.2.2.2.1 z_30.2.2.2.2.2 im st ht) rfl).sub [0, 1, 2, 3, 4, 5, 6, 7, 8, 9, 10, 11] (by decide) rfl).weaken (fun _ _ _ _ => trivial))) RX5 gX5_readSaying_X5_number rfl ⟨rfl, rfl⟩ pdX5_number rfl ⟨Nat.le_of_ble_eq_true rfl, Nat.le_of_ble_eq_true rfl⟩ (fun _ _ _ _ q => q) (va_recv hE.1 hPc (ci := 4) (q0 := 0) rfl rfl) (fun U hU _ _ => by rw [hU]; exact hPc) hl.1 rfl (Nat.le_of_ble_eq_true rfl) dX5_readSaying_63 ⟨Nat.zero_le _, Nat.zero_le _⟩) hP (hD _ rfl) hS rfl rfl rfl (fun H locs hP hS => ?_)
        refine lv_goto (tgt := 70) hx hb dX5_readSaying_66 (by decide) ?_
        refine lv_istore (lv' := [(4, .int z_40.1), (3, .int z_28.1), (2, .int z_4.1), (0, .ref a0), (1, .int v1)]) hx hb dX5_readSaying_70 hl (by decide) rfl (fun ls hl => ?_)
        refine lv_aload_n hx hb dX5_readSaying_72 rfl (lv_at hl 3 rfl) ?_
        refine lv_iload_n hx hb dX5_readSaying_73 rfl (lv_at hl 4 rfl) ?_
        refine lv_iload_n hx hb dX5_readSaying_74 rfl (lv_at hl 2 rfl) ?_
        refine lv_iload_n hx hb dX5_readSaying_75 rfl (lv_at hl 1 rfl) ?_
        refine lv_iload hx hb dX5_readSaying_76 (lv_at hl 0 rfl) ?_
        refine lv_aload_n hx hb dX5_readSaying_78 rfl (lv_at hl 3 rfl) ?_
        refine ldwS hx hb hown (show vk_R RX5 310 "finished" (cs.1 11) s from hCS.2.2.2.1 ("VaguePortModel", 310, "finished", 11) (List.mem_of_getElem? (i := 19) rfl)) dX5_readSaying_79 ?_
        obtain ⟨z_42, e_43, h⟩ := bds h
        have hPc := hP.sub (ws' := (wX5 cI cS a0 a1 a2 a3 a4 a5 a6 a7 a8 a9 a10 a11 nw kp ad fd tp kn it wd sz nm mv ik td z_40.2.1 z_40.2.2.1 z_40.2.2.2.1 z_40.2.2.2.2.1 z_40.2.2.2.2.2 im st ht)) [0, 1, 2, 3, 4, 5, 6, 7, 8, 9, 10, 11] rfl
        refine kMi (wf' := (wX5 cI cS a0 a1 a2 a3 a4 a5 a6 a7 a8 a9 a10 a11 nw kp ad fd tp kn it wd sz nm mv ik td z_42.2.1 z_42.2.2.1 z_42.2.2.2.1 z_42.2.2.2.2.1 z_42.2.2.2.2.2 im st ht)) [0, 1, 2, 3, 4, 5, 6, 7, 8, 9, 10, 11] [some 0, some 1, some 2, some 3, some 4, some 5, some 6, some 7, some 8, some 9, some 10, some 11] (rV C0 (tX5_takesWord l D cI cS cs F a0 a1 a2 a3 a4 a5 a6 a7 a8 a9 a10 a11 nw kp ad fd tp kn it wd sz nm mv ik td z_40.2.1 z_40.2.2.1 z_40.2.2.2.1 z_40.2.2.2.2.1 z_40.2.2.2.2.2 im st ht 11 z_42.1 z_42.2.1 z_42.2.2.1 z_42.2.2.2.1 z_42.2.2.2.2.1 z_42.2.2.2.2.2 e_43 (by decide) (((hD (wX5 cI cS a0 a1 a2 a3 a4 a5 a6 a7 a8 a9 a10 a11 nw kp ad fd tp kn it wd sz nm mv ik td z_40.2.1 z_40.2.2.1 z_40.2.2.2.1 z_40.2.2.2.2.1 z_40.2.2.2.2.2 im st ht) rfl).sub [0, 1, 2, 3, 4, 5, 6, 7, 8, 9, 10, 11] (by decide) rfl).weaken (fun _ _ _ _ => trivial))) RX5 gX5_readSaying_X5_takesWord rfl ⟨rfl, rfl⟩ pdX5_takesWord rfl ⟨Nat.le_of_ble_eq_true rfl, Nat.le_of_ble_eq_true rfl⟩ (fun _ _ _ _ q => ⟨q.1, q.2.call⟩) (va_recv hE.1 hPc (ci := 4) (q0 := 0) rfl rfl) (fun U hU hW _ => ⟨by rw [hU]; exact hPc, by rw [hU]; exact ((hCS.kept hS.2.1).narrow (fun q h => va_D.inA (hD (wX5 cI cS a0 a1 a2 a3 a4 a5 a6 a7 a8 a9 a10 a11 nw kp ad fd tp kn it wd sz nm mv ik td z_40.2.1 z_40.2.2.1 z_40.2.2.2.1 z_40.2.2.2.2.1 z_40.2.2.2.2.2 im st ht) rfl) [0, 1, 2, 3, 4, 5, 6, 7, 8, 9, 10, 11] rfl h)).warm hW⟩) hl.1 rfl (Nat.le_of_ble_eq_true rfl) dX5_readSaying_82 ⟨Nat.zero_le _, Nat.zero_le _⟩) hP (hD _ rfl) hS rfl rfl rfl (fun H locs hP hS => ?_)
        refine lv_if_eq (tgt := 92) hx hb dX5_readSaying_85 (by decide) (fun c_44 => ?_) (fun c_44 => ?_)
        · have h := ifp c_44 h
          refine lv_iconst (v := 0) hx hb dX5_readSaying_92 (by decide) ?_
          obtain ⟨z_45, e_46, h⟩ := bds h
          have hPc := hP.sub (ws' := (wX5 cI cS a0 a1 a2 a3 a4 a5 a6 a7 a8 a9 a10 a11 nw kp ad fd tp kn it wd sz nm mv ik td z_42.2.1 z_42.2.2.1 z_42.2.2.2.1 z_42.2.2.2.2.1 z_42.2.2.2.2.2 im st ht)) [0, 1, 2, 3, 4, 5, 6, 7, 8, 9, 10, 11] rfl
          refine kMv (wf' := (wX5 cI cS a0 a1 a2 a3 a4 a5 a6 a7 a8 a9 a10 a11 nw kp ad fd tp kn z_45.1 wd sz nm mv ik td z_42.2.1 z_42.2.2.1 z_42.2.2.2.1 z_42.2.2.2.2.1 z_42.2.2.2.2.2 z_45.2 st ht)) [0, 1, 2, 3, 4, 5, 6, 7, 8, 9, 10, 11] [some 0, some 1, some 2, some 3, some 4, some 5, some 6, some 7, some 8, some 9, some 10, some 11] (rV C0 (tX5_addItem l D cI cS a0 a1 a2 a3 a4 a5 a6 a7 a8 a9 a10 a11 nw kp ad fd tp kn it wd sz nm mv ik td z_42.2.1 z_42.2.2.1 z_42.2.2.2.1 z_42.2.2.2.2.1 z_42.2.2.2.2.2 im st ht v1 z_4.1 z_28.1 z_40.1 0 z_45.1 z_45.2 e_46 (((hD (wX5 cI cS a0 a1 a2 a3 a4 a5 a6 a7 a8 a9 a10 a11 nw kp ad fd tp kn it wd sz nm mv ik td z_42.2.1 z_42.2.2.1 z_42.2.2.2.1 z_42.2.2.2.2.1 z_42.2.2.2.2.2 im st ht) rfl).sub [0, 1, 2, 3, 4, 5, 6, 7, 8, 9, 10, 11] (by decide) rfl).weaken (fun _ _ _ _ => trivial))) RX5 gX5_readSaying_X5_addItem rfl ⟨rfl, rfl⟩ pdX5_addItem rfl ⟨Nat.le_of_ble_eq_true rfl, Nat.le_of_ble_eq_true rfl⟩ (fun _ _ _ _ q => q) (va_recv hE.1 hPc (ci := 4) (q0 := 0) rfl rfl) (fun U hU _ _ => by rw [hU]; exact hPc) hl.1 rfl (Nat.le_of_ble_eq_true rfl) dX5_readSaying_93 ⟨Nat.zero_le _, Nat.zero_le _⟩) hP (hD _ rfl) hS rfl rfl rfl (fun H locs hP hS => ?_)
          refine lv_aload_n hx hb dX5_readSaying_96 rfl (lv_at hl 3 rfl) ?_
          refine lv_dup hx hb dX5_readSaying_97 rfl ?_
          refine va_get (D := D) (ci := 4) (v := .int st) (C := RX5) (T := TX5) (N := 21) hx hb hts hinX5 hown hE.1 hP 0 rfl rfl 15 (by decide) (hts _ (List.mem_of_getElem? (i := 1) rfl)) (fun _ h9 => h9) rfl dX5_readSaying_98 ?_
          refine lv_iconst (v := 1) hx hb dX5_readSaying_101 (by decide) ?_
          refine lv_iadd hx hb dX5_readSaying_102 ?_
          refine va_put (D := D) (ci := 4) (v := .int (st + 1)) (ty := .int) (C := RX5) (T := TX5) (N := 21) hx hb hts hinX5 tyX5 tyX5_ok nmX5 hown hE.1 hP (hD _ rfl) hS 0 rfl rfl 15 (by decide) (hts _ (List.mem_of_getElem? (i := 1) rfl)) (fun _ h9 => h9) rfl (by decide +kernel) rfl rfl (Nat.le_of_ble_eq_true rfl) dX5_readSaying_103 (fun H locs hP _ hS => ?_)
          have hP : va_P D vwCl (wX5 cI cS a0 a1 a2 a3 a4 a5 a6 a7 a8 a9 a10 a11 nw kp ad fd tp kn z_45.1 wd sz nm mv ik td z_42.2.1 z_42.2.2.1 z_42.2.2.2.1 z_42.2.2.2.2.1 z_42.2.2.2.2.2 z_45.2 (st + 1) ht) H := hP
          obtain ⟨q0, g0⟩ := Prod.mk.inj (Option.some.inj h)
          obtain ⟨q1, g1⟩ := Prod.mk.inj g0
          obtain ⟨q2, g2⟩ := Prod.mk.inj g1
          obtain ⟨q3, g3⟩ := Prod.mk.inj g2
          obtain ⟨q4, g4⟩ := Prod.mk.inj g3
          obtain ⟨q5, g5⟩ := Prod.mk.inj g4
          obtain ⟨q6, q7⟩ := Prod.mk.inj g5
          subst q0 q1 q2 q3 q4 q5 q6 q7
          exact eMv C0 hP hS rfl dX5_readSaying_106
        · have h := ifn c_44 h
          refine lv_iconst (v := 1) hx hb dX5_readSaying_88 (by decide) ?_
          refine lv_goto (tgt := 93) hx hb dX5_readSaying_89 (by decide) ?_
          obtain ⟨z_47, e_48, h⟩ := bds h
          have hPc := hP.sub (ws' := (wX5 cI cS a0 a1 a2 a3 a4 a5 a6 a7 a8 a9 a10 a11 nw kp ad fd tp kn it wd sz nm mv ik td z_42.2.1 z_42.2.2.1 z_42.2.2.2.1 z_42.2.2.2.2.1 z_42.2.2.2.2.2 im st ht)) [0, 1, 2, 3, 4, 5, 6, 7, 8, 9, 10, 11] rfl
          refine kMv (wf' := (wX5 cI cS a0 a1 a2 a3 a4 a5 a6 a7 a8 a9 a10 a11 nw kp ad fd tp kn z_47.1 wd sz nm mv ik td z_42.2.1 z_42.2.2.1 z_42.2.2.2.1 z_42.2.2.2.2.1 z_42.2.2.2.2.2 z_47.2 st ht)) [0, 1, 2, 3, 4, 5, 6, 7, 8, 9, 10, 11] [some 0, some 1, some 2, some 3, some 4, some 5, some 6, some 7, some 8, some 9, some 10, some 11] (rV C0 (tX5_addItem l D cI cS a0 a1 a2 a3 a4 a5 a6 a7 a8 a9 a10 a11 nw kp ad fd tp kn it wd sz nm mv ik td z_42.2.1 z_42.2.2.1 z_42.2.2.2.1 z_42.2.2.2.2.1 z_42.2.2.2.2.2 im st ht v1 z_4.1 z_28.1 z_40.1 1 z_47.1 z_47.2 e_48 (((hD (wX5 cI cS a0 a1 a2 a3 a4 a5 a6 a7 a8 a9 a10 a11 nw kp ad fd tp kn it wd sz nm mv ik td z_42.2.1 z_42.2.2.1 z_42.2.2.2.1 z_42.2.2.2.2.1 z_42.2.2.2.2.2 im st ht) rfl).sub [0, 1, 2, 3, 4, 5, 6, 7, 8, 9, 10, 11] (by decide) rfl).weaken (fun _ _ _ _ => trivial))) RX5 gX5_readSaying_X5_addItem rfl ⟨rfl, rfl⟩ pdX5_addItem rfl ⟨Nat.le_of_ble_eq_true rfl, Nat.le_of_ble_eq_true rfl⟩ (fun _ _ _ _ q => q) (va_recv hE.1 hPc (ci := 4) (q0 := 0) rfl rfl) (fun U hU _ _ => by rw [hU]; exact hPc) hl.1 rfl (Nat.le_of_ble_eq_true rfl) dX5_readSaying_93 ⟨Nat.zero_le _, Nat.zero_le _⟩) hP (hD _ rfl) hS rfl rfl rfl (fun H locs hP hS => ?_)
          refine lv_aload_n hx hb dX5_readSaying_96 rfl (lv_at hl 3 rfl) ?_
          refine lv_dup hx hb dX5_readSaying_97 rfl ?_
          refine va_get (D := D) (ci := 4) (v := .int st) (C := RX5) (T := TX5) (N := 21) hx hb hts hinX5 hown hE.1 hP 0 rfl rfl 15 (by decide) (hts _ (List.mem_of_getElem? (i := 1) rfl)) (fun _ h9 => h9) rfl dX5_readSaying_98 ?_
          refine lv_iconst (v := 1) hx hb dX5_readSaying_101 (by decide) ?_
          refine lv_iadd hx hb dX5_readSaying_102 ?_
          refine va_put (D := D) (ci := 4) (v := .int (st + 1)) (ty := .int) (C := RX5) (T := TX5) (N := 21) hx hb hts hinX5 tyX5 tyX5_ok nmX5 hown hE.1 hP (hD _ rfl) hS 0 rfl rfl 15 (by decide) (hts _ (List.mem_of_getElem? (i := 1) rfl)) (fun _ h9 => h9) rfl (by decide +kernel) rfl rfl (Nat.le_of_ble_eq_true rfl) dX5_readSaying_103 (fun H locs hP _ hS => ?_)
          have hP : va_P D vwCl (wX5 cI cS a0 a1 a2 a3 a4 a5 a6 a7 a8 a9 a10 a11 nw kp ad fd tp kn z_47.1 wd sz nm mv ik td z_42.2.1 z_42.2.2.1 z_42.2.2.2.1 z_42.2.2.2.2.1 z_42.2.2.2.2.2 z_47.2 (st + 1) ht) H := hP
          obtain ⟨q0, g0⟩ := Prod.mk.inj (Option.some.inj h)
          obtain ⟨q1, g1⟩ := Prod.mk.inj g0
          obtain ⟨q2, g2⟩ := Prod.mk.inj g1
          obtain ⟨q3, g3⟩ := Prod.mk.inj g2
          obtain ⟨q4, g4⟩ := Prod.mk.inj g3
          obtain ⟨q5, g5⟩ := Prod.mk.inj g4
          obtain ⟨q6, q7⟩ := Prod.mk.inj g5
          subst q0 q1 q2 q3 q4 q5 q6 q7
          exact eMv C0 hP hS rfl dX5_readSaying_106
  · have h := ifn c_1 h
    refine lv_iconst (v := 1) hx hb dX5_readSaying_10 (by decide) ?_
    refine lv_goto (tgt := 15) hx hb dX5_readSaying_11 (by decide) ?_
    obtain ⟨z_49, e_50, h⟩ := bds h
    have hPc := hP.sub (ws' := (wX5 cI cS a0 a1 a2 a3 a4 a5 a6 a7 a8 a9 a10 a11 nw kp ad fd tp kn it wd sz nm mv ik td bg en so va iw im st ht)) [0, 1, 2, 3, 4, 5, 6, 7, 8, 9, 10, 11] rfl
    refine kMv (wf' := (wX5 cI cS a0 a1 a2 a3 a4 a5 a6 a7 a8 a9 a10 a11 nw kp ad fd tp kn it wd sz nm mv ik td z_49.1 z_49.2.1 z_49.2.2.1 z_49.2.2.2.1 z_49.2.2.2.2 im st ht)) [0, 1, 2, 3, 4, 5, 6, 7, 8, 9, 10, 11] [some 0, some 1, some 2, some 3, some 4, some 5, some 6, some 7, some 8, some 9, some 10, some 11] (rV C0 (tX5_must l D cI cS F a0 a1 a2 a3 a4 a5 a6 a7 a8 a9 a10 a11 nw kp ad fd tp kn it wd sz nm mv ik td bg en so va iw im st ht 1 z_49.1 z_49.2.1 z_49.2.2.1 z_49.2.2.2.1 z_49.2.2.2.2 e_50 (((hD (wX5 cI cS a0 a1 a2 a3 a4 a5 a6 a7 a8 a9 a10 a11 nw kp ad fd tp kn it wd sz nm mv ik td bg en so va iw im st ht) rfl).sub [0, 1, 2, 3, 4, 5, 6, 7, 8, 9, 10, 11] (by decide) rfl).weaken (fun _ _ _ _ => trivial))) RX5 gX5_readSaying_X5_must rfl ⟨rfl, rfl⟩ pdX5_must rfl ⟨Nat.le_of_ble_eq_true rfl, Nat.le_of_ble_eq_true rfl⟩ (fun _ _ _ _ q => q) (va_recv hE.1 hPc (ci := 4) (q0 := 0) rfl rfl) (fun U hU _ _ => by rw [hU]; exact hPc) hl.1 rfl (Nat.le_of_ble_eq_true rfl) dX5_readSaying_15 ⟨Nat.zero_le _, Nat.zero_le _⟩) hP (hD _ rfl) hS rfl rfl rfl (fun H locs hP hS => ?_)
    refine lv_aload_n hx hb dX5_readSaying_18 rfl (lv_at hl 0 rfl) ?_
    refine lv_iconst (v := 0) hx hb dX5_readSaying_19 (by decide) ?_
    refine lv_bipush (v := 99) hx hb dX5_readSaying_20 (by decide) ?_
    obtain ⟨z_51, e_52, h⟩ := bds h
    have hPc := hP.sub (ws' := (wX5 cI cS a0 a1 a2 a3 a4 a5 a6 a7 a8 a9 a10 a11 nw kp ad fd tp kn it wd sz nm mv ik td z_49.1 z_49.2.1 z_49.2.2.1 z_49.2.2.2.1 z_49.2.2.2.2 im st ht)) [0, 1, 2, 3, 4, 5, 6, 7, 8, 9, 10, 11] rfl
    refine kMi (wf' := (wX5 cI cS a0 a1 a2 a3 a4 a5 a6 a7 a8 a9 a10 a11 nw kp ad fd tp kn it wd sz nm mv ik td z_51.2.1 z_51.2.2.1 z_51.2.2.2.1 z_51.2.2.2.2.1 z_51.2.2.2.2.2 im st ht)) [0, 1, 2, 3, 4, 5, 6, 7, 8, 9, 10, 11] [some 0, some 1, some 2, some 3, some 4, some 5, some 6, some 7, some 8, some 9, some 10, some 11] (rV C0 (tX5_number l D cI cS F a0 a1 a2 a3 a4 a5 a6 a7 a8 a9 a10 a11 nw kp ad fd tp kn it wd sz nm mv ik td z_49.1 z_49.2.1 z_49.2.2.1 z_49.2.2.2.1 z_49.2.2.2.2 im st ht 0 99 z_51.1 z_51.2.1 z_51.2.2.1 z_51.2.2.2.1 z_51.2.2.2.2.1 z_51.2.2.2.2.2 e_52 (((hD (wX5 cI cS a0 a1 a2 a3 a4 a5 a6 a7 a8 a9 a10 a11 nw kp ad fd tp kn it wd sz nm mv ik td z_49.1 z_49.2.1 z_49.2.2.1 z_49.2.2.2.1 z_49.2.2.2.2 im st ht) rfl).sub [0, 1, 2, 3, 4, 5, 6, 7, 8, 9, 10, 11] (by decide) rfl).weaken (fun _ _ _ _ => trivial))) RX5 gX5_readSaying_X5_number rfl ⟨rfl, rfl⟩ pdX5_number rfl ⟨Nat.le_of_ble_eq_true rfl, Nat.le_of_ble_eq_true rfl⟩ (fun _ _ _ _ q => q) (va_recv hE.1 hPc (ci := 4) (q0 := 0) rfl rfl) (fun U hU _ _ => by rw [hU]; exact hPc) hl.1 rfl (Nat.le_of_ble_eq_true rfl) dX5_readSaying_22 ⟨Nat.zero_le _, Nat.zero_le _⟩) hP (hD _ rfl) hS rfl rfl rfl (fun H locs hP hS => ?_)
    refine lv_istore_n (lv' := [(2, .int z_51.1), (0, .ref a0), (1, .int v1)]) hx hb dX5_readSaying_25 rfl hl (by decide) rfl (fun ls hl => ?_)
    refine lv_aload_n hx hb dX5_readSaying_26 rfl (lv_at hl 1 rfl) ?_
    refine ldwS hx hb hown (show vk_R RX5 303 "at" (cs.1 9) s from hCS.2.2.2.1 ("VaguePortModel", 303, "at", 9) (List.mem_of_getElem? (i := 16) rfl)) dX5_readSaying_27 ?_
    obtain ⟨z_53, e_54, h⟩ := bds h
    have hPc := hP.sub (ws' := (wX5 cI cS a0 a1 a2 a3 a4 a5 a6 a7 a8 a9 a10 a11 nw kp ad fd tp kn it wd sz nm mv ik td z_51.2.1 z_51.2.2.1 z_51.2.2.2.1 z_51.2.2.2.2.1 z_51.2.2.2.2.2 im st ht)) [0, 1, 2, 3, 4, 5, 6, 7, 8, 9, 10, 11] rfl
    refine kMi (wf' := (wX5 cI cS a0 a1 a2 a3 a4 a5 a6 a7 a8 a9 a10 a11 nw kp ad fd tp kn it wd sz nm mv ik td z_53.2.1 z_53.2.2.1 z_53.2.2.2.1 z_53.2.2.2.2.1 z_53.2.2.2.2.2 im st ht)) [0, 1, 2, 3, 4, 5, 6, 7, 8, 9, 10, 11] [some 0, some 1, some 2, some 3, some 4, some 5, some 6, some 7, some 8, some 9, some 10, some 11] (rV C0 (tX5_takesWord l D cI cS cs F a0 a1 a2 a3 a4 a5 a6 a7 a8 a9 a10 a11 nw kp ad fd tp kn it wd sz nm mv ik td z_51.2.1 z_51.2.2.1 z_51.2.2.2.1 z_51.2.2.2.2.1 z_51.2.2.2.2.2 im st ht 9 z_53.1 z_53.2.1 z_53.2.2.1 z_53.2.2.2.1 z_53.2.2.2.2.1 z_53.2.2.2.2.2 e_54 (by decide) (((hD (wX5 cI cS a0 a1 a2 a3 a4 a5 a6 a7 a8 a9 a10 a11 nw kp ad fd tp kn it wd sz nm mv ik td z_51.2.1 z_51.2.2.1 z_51.2.2.2.1 z_51.2.2.2.2.1 z_51.2.2.2.2.2 im st ht) rfl).sub [0, 1, 2, 3, 4, 5, 6, 7, 8, 9, 10, 11] (by decide) rfl).weaken (fun _ _ _ _ => trivial))) RX5 gX5_readSaying_X5_takesWord rfl ⟨rfl, rfl⟩ pdX5_takesWord rfl ⟨Nat.le_of_ble_eq_true rfl, Nat.le_of_ble_eq_true rfl⟩ (fun _ _ _ _ q => ⟨q.1, q.2.call⟩) (va_recv hE.1 hPc (ci := 4) (q0 := 0) rfl rfl) (fun U hU hW _ => ⟨by rw [hU]; exact hPc, by rw [hU]; exact ((hCS.kept hS.2.1).narrow (fun q h => va_D.inA (hD (wX5 cI cS a0 a1 a2 a3 a4 a5 a6 a7 a8 a9 a10 a11 nw kp ad fd tp kn it wd sz nm mv ik td z_51.2.1 z_51.2.2.1 z_51.2.2.2.1 z_51.2.2.2.2.1 z_51.2.2.2.2.2 im st ht) rfl) [0, 1, 2, 3, 4, 5, 6, 7, 8, 9, 10, 11] rfl h)).warm hW⟩) hl.1 rfl (Nat.le_of_ble_eq_true rfl) dX5_readSaying_30 ⟨Nat.zero_le _, Nat.zero_le _⟩) hP (hD _ rfl) hS rfl rfl rfl (fun H locs hP hS => ?_)
    refine lv_if_eq (tgt := 46) hx hb dX5_readSaying_33 (by decide) (fun c_55 => ?_) (fun c_55 => ?_)
    · have h := ifp c_55 h
      refine lv_iconst (v := 0) hx hb dX5_readSaying_46 (by decide) ?_
      refine lv_istore_n (lv' := [(3, .int 0), (2, .int z_51.1), (0, .ref a0), (1, .int v1)]) hx hb dX5_readSaying_47 rfl hl (by decide) rfl (fun ls hl => ?_)
      refine lv_aload_n hx hb dX5_readSaying_48 rfl (lv_at hl 2 rfl) ?_
      refine ldwS hx hb hown (show vk_R RX5 308 "said" (cs.1 10) s from hCS.2.2.2.1 ("VaguePortModel", 308, "said", 10) (List.mem_of_getElem? (i := 17) rfl)) dX5_readSaying_49 ?_
      obtain ⟨z_56, e_57, h⟩ := bds h
      have hPc := hP.sub (ws' := (wX5 cI cS a0 a1 a2 a3 a4 a5 a6 a7 a8 a9 a10 a11 nw kp ad fd tp kn it wd sz nm mv ik td z_53.2.1 z_53.2.2.1 z_53.2.2.2.1 z_53.2.2.2.2.1 z_53.2.2.2.2.2 im st ht)) [0, 1, 2, 3, 4, 5, 6, 7, 8, 9, 10, 11] rfl
      refine kMi (wf' := (wX5 cI cS a0 a1 a2 a3 a4 a5 a6 a7 a8 a9 a10 a11 nw kp ad fd tp kn it wd sz nm mv ik td z_56.2.1 z_56.2.2.1 z_56.2.2.2.1 z_56.2.2.2.2.1 z_56.2.2.2.2.2 im st ht)) [0, 1, 2, 3, 4, 5, 6, 7, 8, 9, 10, 11] [some 0, some 1, some 2, some 3, some 4, some 5, some 6, some 7, some 8, some 9, some 10, some 11] (rV C0 (tX5_takesWord l D cI cS cs F a0 a1 a2 a3 a4 a5 a6 a7 a8 a9 a10 a11 nw kp ad fd tp kn it wd sz nm mv ik td z_53.2.1 z_53.2.2.1 z_53.2.2.2.1 z_53.2.2.2.2.1 z_53.2.2.2.2.2 im st ht 10 z_56.1 z_56.2.1 z_56.2.2.1 z_56.2.2.2.1 z_56.2.2.2.2.1 z_56.2.2.2.2.2 e_57 (by decide) (((hD (wX5 cI cS a0 a1 a2 a3 a4 a5 a6 a7 a8 a9 a10 a11 nw kp ad fd tp kn it wd sz nm mv ik td z_53.2.1 z_53.2.2.1 z_53.2.2.2.1 z_53.2.2.2.2.1 z_53.2.2.2.2.2 im st ht) rfl).sub [0, 1, 2, 3, 4, 5, 6, 7, 8, 9, 10, 11] (by decide) rfl).weaken (fun _ _ _ _ => trivial))) RX5 gX5_readSaying_X5_takesWord rfl ⟨rfl, rfl⟩ pdX5_takesWord rfl ⟨Nat.le_of_ble_eq_true rfl, Nat.le_of_ble_eq_true rfl⟩ (fun _ _ _ _ q => ⟨q.1, q.2.call⟩) (va_recv hE.1 hPc (ci := 4) (q0 := 0) rfl rfl) (fun U hU hW _ => ⟨by rw [hU]; exact hPc, by rw [hU]; exact ((hCS.kept hS.2.1).narrow (fun q h => va_D.inA (hD (wX5 cI cS a0 a1 a2 a3 a4 a5 a6 a7 a8 a9 a10 a11 nw kp ad fd tp kn it wd sz nm mv ik td z_53.2.1 z_53.2.2.1 z_53.2.2.2.1 z_53.2.2.2.2.1 z_53.2.2.2.2.2 im st ht) rfl) [0, 1, 2, 3, 4, 5, 6, 7, 8, 9, 10, 11] rfl h)).warm hW⟩) hl.1 rfl (Nat.le_of_ble_eq_true rfl) dX5_readSaying_52 ⟨Nat.zero_le _, Nat.zero_le _⟩) hP (hD _ rfl) hS rfl rfl rfl (fun H locs hP hS => ?_)
      refine lv_if_eq (tgt := 69) hx hb dX5_readSaying_55 (by decide) (fun c_58 => ?_) (fun c_58 => ?_)
      · have h := ifp c_58 h
        refine lv_iconst (v := 0) hx hb dX5_readSaying_69 (by decide) ?_
        refine lv_istore (lv' := [(4, .int 0), (3, .int 0), (2, .int z_51.1), (0, .ref a0), (1, .int v1)]) hx hb dX5_readSaying_70 hl (by decide) rfl (fun ls hl => ?_)
        refine lv_aload_n hx hb dX5_readSaying_72 rfl (lv_at hl 3 rfl) ?_
        refine lv_iload_n hx hb dX5_readSaying_73 rfl (lv_at hl 4 rfl) ?_
        refine lv_iload_n hx hb dX5_readSaying_74 rfl (lv_at hl 2 rfl) ?_
        refine lv_iload_n hx hb dX5_readSaying_75 rfl (lv_at hl 1 rfl) ?_
        refine lv_iload hx hb dX5_readSaying_76 (lv_at hl 0 rfl) ?_
        refine lv_aload_n hx hb dX5_readSaying_78 rfl (lv_at hl 3 rfl) ?_
        refine ldwS hx hb hown (show vk_R RX5 310 "finished" (cs.1 11) s from hCS.2.2.2.1 ("VaguePortModel", 310, "finished", 11) (List.mem_of_getElem? (i := 19) rfl)) dX5_readSaying_79 ?_
        obtain ⟨z_59, e_60, h⟩ := bds h
        have hPc := hP.sub (ws' := (wX5 cI cS a0 a1 a2 a3 a4 a5 a6 a7 a8 a9 a10 a11 nw kp ad fd tp kn it wd sz nm mv ik td z_56.2.1 z_56.2.2.1 z_56.2.2.2.1 z_56.2.2.2.2.1 z_56.2.2.2.2.2 im st ht)) [0, 1, 2, 3, 4, 5, 6, 7, 8, 9, 10, 11] rfl
        refine kMi (wf' := (wX5 cI cS a0 a1 a2 a3 a4 a5 a6 a7 a8 a9 a10 a11 nw kp ad fd tp kn it wd sz nm mv ik td z_59.2.1 z_59.2.2.1 z_59.2.2.2.1 z_59.2.2.2.2.1 z_59.2.2.2.2.2 im st ht)) [0, 1, 2, 3, 4, 5, 6, 7, 8, 9, 10, 11] [some 0, some 1, some 2, some 3, some 4, some 5, some 6, some 7, some 8, some 9, some 10, some 11] (rV C0 (tX5_takesWord l D cI cS cs F a0 a1 a2 a3 a4 a5 a6 a7 a8 a9 a10 a11 nw kp ad fd tp kn it wd sz nm mv ik td z_56.2.1 z_56.2.2.1 z_56.2.2.2.1 z_56.2.2.2.2.1 z_56.2.2.2.2.2 im st ht 11 z_59.1 z_59.2.1 z_59.2.2.1 z_59.2.2.2.1 z_59.2.2.2.2.1 z_59.2.2.2.2.2 e_60 (by decide) (((hD (wX5 cI cS a0 a1 a2 a3 a4 a5 a6 a7 a8 a9 a10 a11 nw kp ad fd tp kn it wd sz nm mv ik td z_56.2.1 z_56.2.2.1 z_56.2.2.2.1 z_56.2.2.2.2.1 z_56.2.2.2.2.2 im st ht) rfl).sub [0, 1, 2, 3, 4, 5, 6, 7, 8, 9, 10, 11] (by decide) rfl).weaken (fun _ _ _ _ => trivial))) RX5 gX5_readSaying_X5_takesWord rfl ⟨rfl, rfl⟩ pdX5_takesWord rfl ⟨Nat.le_of_ble_eq_true rfl, Nat.le_of_ble_eq_true rfl⟩ (fun _ _ _ _ q => ⟨q.1, q.2.call⟩) (va_recv hE.1 hPc (ci := 4) (q0 := 0) rfl rfl) (fun U hU hW _ => ⟨by rw [hU]; exact hPc, by rw [hU]; exact ((hCS.kept hS.2.1).narrow (fun q h => va_D.inA (hD (wX5 cI cS a0 a1 a2 a3 a4 a5 a6 a7 a8 a9 a10 a11 nw kp ad fd tp kn it wd sz nm mv ik td z_56.2.1 z_56.2.2.1 z_56.2.2.2.1 z_56.2.2.2.2.1 z_56.2.2.2.2.2 im st ht) rfl) [0, 1, 2, 3, 4, 5, 6, 7, 8, 9, 10, 11] rfl h)).warm hW⟩) hl.1 rfl (Nat.le_of_ble_eq_true rfl) dX5_readSaying_82 ⟨Nat.zero_le _, Nat.zero_le _⟩) hP (hD _ rfl) hS rfl rfl rfl (fun H locs hP hS => ?_)
        refine lv_if_eq (tgt := 92) hx hb dX5_readSaying_85 (by decide) (fun c_61 => ?_) (fun c_61 => ?_)
        · have h := ifp c_61 h
          refine lv_iconst (v := 0) hx hb dX5_readSaying_92 (by decide) ?_
          obtain ⟨z_62, e_63, h⟩ := bds h
          have hPc := hP.sub (ws' := (wX5 cI cS a0 a1 a2 a3 a4 a5 a6 a7 a8 a9 a10 a11 nw kp ad fd tp kn it wd sz nm mv ik td z_59.2.1 z_59.2.2.1 z_59.2.2.2.1 z_59.2.2.2.2.1 z_59.2.2.2.2.2 im st ht)) [0, 1, 2, 3, 4, 5, 6, 7, 8, 9, 10, 11] rfl
          refine kMv (wf' := (wX5 cI cS a0 a1 a2 a3 a4 a5 a6 a7 a8 a9 a10 a11 nw kp ad fd tp kn z_62.1 wd sz nm mv ik td z_59.2.1 z_59.2.2.1 z_59.2.2.2.1 z_59.2.2.2.2.1 z_59.2.2.2.2.2 z_62.2 st ht)) [0, 1, 2, 3, 4, 5, 6, 7, 8, 9, 10, 11] [some 0, some 1, some 2, some 3, some 4, some 5, some 6, some 7, some 8, some 9, some 10, some 11] (rV C0 (tX5_addItem l D cI cS a0 a1 a2 a3 a4 a5 a6 a7 a8 a9 a10 a11 nw kp ad fd tp kn it wd sz nm mv ik td z_59.2.1 z_59.2.2.1 z_59.2.2.2.1 z_59.2.2.2.2.1 z_59.2.2.2.2.2 im st ht v1 z_51.1 0 0 0 z_62.1 z_62.2 e_63 (((hD (wX5 cI cS a0 a1 a2 a3 a4 a5 a6 a7 a8 a9 a10 a11 nw kp ad fd tp kn it wd sz nm mv ik td z_59.2.1 z_59.2.2.1 z_59.2.2.2.1 z_59.2.2.2.2.1 z_59.2.2.2.2.2 im st ht) rfl).sub [0, 1, 2, 3, 4, 5, 6, 7, 8, 9, 10, 11] (by decide) rfl).weaken (fun _ _ _ _ => trivial))) RX5 gX5_readSaying_X5_addItem rfl ⟨rfl, rfl⟩ pdX5_addItem rfl ⟨Nat.le_of_ble_eq_true rfl, Nat.le_of_ble_eq_true rfl⟩ (fun _ _ _ _ q => q) (va_recv hE.1 hPc (ci := 4) (q0 := 0) rfl rfl) (fun U hU _ _ => by rw [hU]; exact hPc) hl.1 rfl (Nat.le_of_ble_eq_true rfl) dX5_readSaying_93 ⟨Nat.zero_le _, Nat.zero_le _⟩) hP (hD _ rfl) hS rfl rfl rfl (fun H locs hP hS => ?_)
          refine lv_aload_n hx hb dX5_readSaying_96 rfl (lv_at hl 3 rfl) ?_
          refine lv_dup hx hb dX5_readSaying_97 rfl ?_
          refine va_get (D := D) (ci := 4) (v := .int st) (C := RX5) (T := TX5) (N := 21) hx hb hts hinX5 hown hE.1 hP 0 rfl rfl 15 (by decide) (hts _ (List.mem_of_getElem? (i := 1) rfl)) (fun _ h9 => h9) rfl dX5_readSaying_98 ?_
          refine lv_iconst (v := 1) hx hb dX5_readSaying_101 (by decide) ?_
          refine lv_iadd hx hb dX5_readSaying_102 ?_
          refine va_put (D := D) (ci := 4) (v := .int (st + 1)) (ty := .int) (C := RX5) (T := TX5) (N := 21) hx hb hts hinX5 tyX5 tyX5_ok nmX5 hown hE.1 hP (hD _ rfl) hS 0 rfl rfl 15 (by decide) (hts _ (List.mem_of_getElem? (i := 1) rfl)) (fun _ h9 => h9) rfl (by decide +kernel) rfl rfl (Nat.le_of_ble_eq_true rfl) dX5_readSaying_103 (fun H locs hP _ hS => ?_)
          have hP : va_P D vwCl (wX5 cI cS a0 a1 a2 a3 a4 a5 a6 a7 a8 a9 a10 a11 nw kp ad fd tp kn z_62.1 wd sz nm mv ik td z_59.2.1 z_59.2.2.1 z_59.2.2.2.1 z_59.2.2.2.2.1 z_59.2.2.2.2.2 z_62.2 (st + 1) ht) H := hP
          obtain ⟨q0, g0⟩ := Prod.mk.inj (Option.some.inj h)
          obtain ⟨q1, g1⟩ := Prod.mk.inj g0
          obtain ⟨q2, g2⟩ := Prod.mk.inj g1
          obtain ⟨q3, g3⟩ := Prod.mk.inj g2
          obtain ⟨q4, g4⟩ := Prod.mk.inj g3
          obtain ⟨q5, g5⟩ := Prod.mk.inj g4
          obtain ⟨q6, q7⟩ := Prod.mk.inj g5
          subst q0 q1 q2 q3 q4 q5 q6 q7
          exact eMv C0 hP hS rfl dX5_readSaying_106
        · have h := ifn c_61 h
          refine lv_iconst (v := 1) hx hb dX5_readSaying_88 (by decide) ?_
          refine lv_goto (tgt := 93) hx hb dX5_readSaying_89 (by decide) ?_
          obtain ⟨z_64, e_65, h⟩ := bds h
          have hPc := hP.sub (ws' := (wX5 cI cS a0 a1 a2 a3 a4 a5 a6 a7 a8 a9 a10 a11 nw kp ad fd tp kn it wd sz nm mv ik td z_59.2.1 z_59.2.2.1 z_59.2.2.2.1 z_59.2.2.2.2.1 z_59.2.2.2.2.2 im st ht)) [0, 1, 2, 3, 4, 5, 6, 7, 8, 9, 10, 11] rfl
          refine kMv (wf' := (wX5 cI cS a0 a1 a2 a3 a4 a5 a6 a7 a8 a9 a10 a11 nw kp ad fd tp kn z_64.1 wd sz nm mv ik td z_59.2.1 z_59.2.2.1 z_59.2.2.2.1 z_59.2.2.2.2.1 z_59.2.2.2.2.2 z_64.2 st ht)) [0, 1, 2, 3, 4, 5, 6, 7, 8, 9, 10, 11] [some 0, some 1, some 2, some 3, some 4, some 5, some 6, some 7, some 8, some 9, some 10, some 11] (rV C0 (tX5_addItem l D cI cS a0 a1 a2 a3 a4 a5 a6 a7 a8 a9 a10 a11 nw kp ad fd tp kn it wd sz nm mv ik td z_59.2.1 z_59.2.2.1 z_59.2.2.2.1 z_59.2.2.2.2.1 z_59.2.2.2.2.2 im st ht v1 z_51.1 0 0 1 z_64.1 z_64.2 e_65 (((hD (wX5 cI cS a0 a1 a2 a3 a4 a5 a6 a7 a8 a9 a10 a11 nw kp ad fd tp kn it wd sz nm mv ik td z_59.2.1 z_59.2.2.1 z_59.2.2.2.1 z_59.2.2.2.2.1 z_59.2.2.2.2.2 im st ht) rfl).sub [0, 1, 2, 3, 4, 5, 6, 7, 8, 9, 10, 11] (by decide) rfl).weaken (fun _ _ _ _ => trivial))) RX5 gX5_readSaying_X5_addItem rfl ⟨rfl, rfl⟩ pdX5_addItem rfl ⟨Nat.le_of_ble_eq_true rfl, Nat.le_of_ble_eq_true rfl⟩ (fun _ _ _ _ q => q) (va_recv hE.1 hPc (ci := 4) (q0 := 0) rfl rfl) (fun U hU _ _ => by rw [hU]; exact hPc) hl.1 rfl (Nat.le_of_ble_eq_true rfl) dX5_readSaying_93 ⟨Nat.zero_le _, Nat.zero_le _⟩) hP (hD _ rfl) hS rfl rfl rfl (fun H locs hP hS => ?_)
          refine lv_aload_n hx hb dX5_readSaying_96 rfl (lv_at hl 3 rfl) ?_
          refine lv_dup hx hb dX5_readSaying_97 rfl ?_
          refine va_get (D := D) (ci := 4) (v := .int st) (C := RX5) (T := TX5) (N := 21) hx hb hts hinX5 hown hE.1 hP 0 rfl rfl 15 (by decide) (hts _ (List.mem_of_getElem? (i := 1) rfl)) (fun _ h9 => h9) rfl dX5_readSaying_98 ?_
          refine lv_iconst (v := 1) hx hb dX5_readSaying_101 (by decide) ?_
          refine lv_iadd hx hb dX5_readSaying_102 ?_
          refine va_put (D := D) (ci := 4) (v := .int (st + 1)) (ty := .int) (C := RX5) (T := TX5) (N := 21) hx hb hts hinX5 tyX5 tyX5_ok nmX5 hown hE.1 hP (hD _ rfl) hS 0 rfl rfl 15 (by decide) (hts _ (List.mem_of_getElem? (i := 1) rfl)) (fun _ h9 => h9) rfl (by decide +kernel) rfl rfl (Nat.le_of_ble_eq_true rfl) dX5_readSaying_103 (fun H locs hP _ hS => ?_)
          have hP : va_P D vwCl (wX5 cI cS a0 a1 a2 a3 a4 a5 a6 a7 a8 a9 a10 a11 nw kp ad fd tp kn z_64.1 wd sz nm mv ik td z_59.2.1 z_59.2.2.1 z_59.2.2.2.1 z_59.2.2.2.2.1 z_59.2.2.2.2.2 z_64.2 (st + 1) ht) H := hP
          obtain ⟨q0, g0⟩ := Prod.mk.inj (Option.some.inj h)
          obtain ⟨q1, g1⟩ := Prod.mk.inj g0
          obtain ⟨q2, g2⟩ := Prod.mk.inj g1
          obtain ⟨q3, g3⟩ := Prod.mk.inj g2
          obtain ⟨q4, g4⟩ := Prod.mk.inj g3
          obtain ⟨q5, g5⟩ := Prod.mk.inj g4
          obtain ⟨q6, q7⟩ := Prod.mk.inj g5
          subst q0 q1 q2 q3 q4 q5 q6 q7
          exact eMv C0 hP hS rfl dX5_readSaying_106
      · have h := ifn c_58 h
        refine lv_aload_n hx hb dX5_readSaying_58 rfl (lv_at hl 2 rfl) ?_
        refine lv_iconst (v := 0) hx hb dX5_readSaying_59 (by decide) ?_
        refine lv_sipush (v := 9999) hx hb dX5_readSaying_60 (by decide) ?_
        obtain ⟨z_66, e_67, h⟩ := bds h
        have hPc := hP.sub (ws' := (wX5 cI cS a0 a1 a2 a3 a4 a5 a6 a7 a8 a9 a10 a11 nw kp ad fd tp kn it wd sz nm mv ik td z_56.2.1 z_56.2.2.1 z_56.2.2.2.1 z_56.2.2.2.2.1 z_56.2.2.2.2.2 im st ht)) [0, 1, 2, 3, 4, 5, 6, 7, 8, 9, 10, 11] rfl
        refine kMi (wf' := (wX5 cI cS a0 a1 a2 a3 a4 a5 a6 a7 a8 a9 a10 a11 nw kp ad fd tp kn it wd sz nm mv ik td z_66.2.1 z_66.2.2.1 z_66.2.2.2.1 z_66.2.2.2.2.1 z_66.2.2.2.2.2 im st ht)) [0, 1, 2, 3, 4, 5, 6, 7, 8, 9, 10, 11] [some 0, some 1, some 2, some 3, some 4, some 5, some 6, some 7, some 8, some 9, some 10, some 11] (rV C0 (tX5_number l D cI cS F a0 a1 a2 a3 a4 a5 a6 a7 a8 a9 a10 a11 nw kp ad fd tp kn it wd sz nm mv ik td z_56.2.1 z_56.2.2.1 z_56.2.2.2.1 z_56.2.2.2.2.1 z_56.2.2.2.2.2 im st ht 0 9999 z_66.1 z_66.2.1 z_66.2.2.1 z_66.2.2.2.1 z_66.2.2.2.2.1 z_66.2.2.2.2.2 e_67 (((hD (wX5 cI cS a0 a1 a2 a3 a4 a5 a6 a7 a8 a9 a10 a11 nw kp ad fd tp kn it wd sz nm mv ik td z_56.2.1 z_56.2.2.1 z_56.2.2.2.1 z_56.2.2.2.2.1 z_56.2.2.2.2.2 im st ht) rfl).sub [0, 1, 2, 3, 4, 5, 6, 7, 8, 9, 10, 11] (by decide) rfl).weaken (fun _ _ _ _ => trivial))) RX5 gX5_readSaying_X5_number rfl ⟨rfl, rfl⟩ pdX5_number rfl ⟨Nat.le_of_ble_eq_true rfl, Nat.le_of_ble_eq_true rfl⟩ (fun _ _ _ _ q => q) (va_recv hE.1 hPc (ci := 4) (q0 := 0) rfl rfl) (fun U hU _ _ => by rw [hU]; exact hPc) hl.1 rfl (Nat.le_of_ble_eq_true rfl) dX5_readSaying_63 ⟨Nat.zero_le _, Nat.zero_le _⟩) hP (hD _ rfl) hS rfl rfl rfl (fun H locs hP hS => ?_)
        refine lv_goto (tgt := 70) hx hb dX5_readSaying_66 (by decide) ?_
        refine lv_istore (lv' := [(4, .int z_66.1), (3, .int 0), (2, .int z_51.1), (0, .ref a0), (1, .int v1)]) hx hb dX5_readSaying_70 hl (by decide) rfl (fun ls hl => ?_)
        refine lv_aload_n hx hb dX5_readSaying_72 rfl (lv_at hl 3 rfl) ?_
        refine lv_iload_n hx hb dX5_readSaying_73 rfl (lv_at hl 4 rfl) ?_
        refine lv_iload_n hx hb dX5_readSaying_74 rfl (lv_at hl 2 rfl) ?_
        refine lv_iload_n hx hb dX5_readSaying_75 rfl (lv_at hl 1 rfl) ?_
        refine lv_iload hx hb dX5_readSaying_76 (lv_at hl 0 rfl) ?_
        refine lv_aload_n hx hb dX5_readSaying_78 rfl (lv_at hl 3 rfl) ?_
        refine ldwS hx hb hown (show vk_R RX5 310 "finished" (cs.1 11) s from hCS.2.2.2.1 ("VaguePortModel", 310, "finished", 11) (List.mem_of_getElem? (i := 19) rfl)) dX5_readSaying_79 ?_
        obtain ⟨z_68, e_69, h⟩ := bds h
        have hPc := hP.sub (ws' := (wX5 cI cS a0 a1 a2 a3 a4 a5 a6 a7 a8 a9 a10 a11 nw kp ad fd tp kn it wd sz nm mv ik td z_66.2.1 z_66.2.2.1 z_66.2.2.2.1 z_66.2.2.2.2.1 z_66.2.2.2.2.2 im st ht)) [0, 1, 2, 3, 4, 5, 6, 7, 8, 9, 10, 11] rfl
        refine kMi (wf' := (wX5 cI cS a0 a1 a2 a3 a4 a5 a6 a7 a8 a9 a10 a11 nw kp ad fd tp kn it wd sz nm mv ik td z_68.2.1 z_68.2.2.1 z_68.2.2.2.1 z_68.2.2.2.2.1 z_68.2.2.2.2.2 im st ht)) [0, 1, 2, 3, 4, 5, 6, 7, 8, 9, 10, 11] [some 0, some 1, some 2, some 3, some 4, some 5, some 6, some 7, some 8, some 9, some 10, some 11] (rV C0 (tX5_takesWord l D cI cS cs F a0 a1 a2 a3 a4 a5 a6 a7 a8 a9 a10 a11 nw kp ad fd tp kn it wd sz nm mv ik td z_66.2.1 z_66.2.2.1 z_66.2.2.2.1 z_66.2.2.2.2.1 z_66.2.2.2.2.2 im st ht 11 z_68.1 z_68.2.1 z_68.2.2.1 z_68.2.2.2.1 z_68.2.2.2.2.1 z_68.2.2.2.2.2 e_69 (by decide) (((hD (wX5 cI cS a0 a1 a2 a3 a4 a5 a6 a7 a8 a9 a10 a11 nw kp ad fd tp kn it wd sz nm mv ik td z_66.2.1 z_66.2.2.1 z_66.2.2.2.1 z_66.2.2.2.2.1 z_66.2.2.2.2.2 im st ht) rfl).sub [0, 1, 2, 3, 4, 5, 6, 7, 8, 9, 10, 11] (by decide) rfl).weaken (fun _ _ _ _ => trivial))) RX5 gX5_readSaying_X5_takesWord rfl ⟨rfl, rfl⟩ pdX5_takesWord rfl ⟨Nat.le_of_ble_eq_true rfl, Nat.le_of_ble_eq_true rfl⟩ (fun _ _ _ _ q => ⟨q.1, q.2.call⟩) (va_recv hE.1 hPc (ci := 4) (q0 := 0) rfl rfl) (fun U hU hW _ => ⟨by rw [hU]; exact hPc, by rw [hU]; exact ((hCS.kept hS.2.1).narrow (fun q h => va_D.inA (hD (wX5 cI cS a0 a1 a2 a3 a4 a5 a6 a7 a8 a9 a10 a11 nw kp ad fd tp kn it wd sz nm mv ik td z_66.2.1 z_66.2.2.1 z_66.2.2.2.1 z_66.2.2.2.2.1 z_66.2.2.2.2.2 im st ht) rfl) [0, 1, 2, 3, 4, 5, 6, 7, 8, 9, 10, 11] rfl h)).warm hW⟩) hl.1 rfl (Nat.le_of_ble_eq_true rfl) dX5_readSaying_82 ⟨Nat.zero_le _, Nat.zero_le _⟩) hP (hD _ rfl) hS rfl rfl rfl (fun H locs hP hS => ?_)
        refine lv_if_eq (tgt := 92) hx hb dX5_readSaying_85 (by decide) (fun c_70 => ?_) (fun c_70 => ?_)
        · have h := ifp c_70 h
          refine lv_iconst (v := 0) hx hb dX5_readSaying_92 (by decide) ?_
          obtain ⟨z_71, e_72, h⟩ := bds h
          have hPc := hP.sub (ws' := (wX5 cI cS a0 a1 a2 a3 a4 a5 a6 a7 a8 a9 a10 a11 nw kp ad fd tp kn it wd sz nm mv ik td z_68.2.1 z_68.2.2.1 z_68.2.2.2.1 z_68.2.2.2.2.1 z_68.2.2.2.2.2 im st ht)) [0, 1, 2, 3, 4, 5, 6, 7, 8, 9, 10, 11] rfl
          refine kMv (wf' := (wX5 cI cS a0 a1 a2 a3 a4 a5 a6 a7 a8 a9 a10 a11 nw kp ad fd tp kn z_71.1 wd sz nm mv ik td z_68.2.1 z_68.2.2.1 z_68.2.2.2.1 z_68.2.2.2.2.1 z_68.2.2.2.2.2 z_71.2 st ht)) [0, 1, 2, 3, 4, 5, 6, 7, 8, 9, 10, 11] [some 0, some 1, some 2, some 3, some 4, some 5, some 6, some 7, some 8, some 9, some 10, some 11] (rV C0 (tX5_addItem l D cI cS a0 a1 a2 a3 a4 a5 a6 a7 a8 a9 a10 a11 nw kp ad fd tp kn it wd sz nm mv ik td z_68.2.1 z_68.2.2.1 z_68.2.2.2.1 z_68.2.2.2.2.1 z_68.2.2.2.2.2 im st ht v1 z_51.1 0 z_66.1 0 z_71.1 z_71.2 e_72 (((hD (wX5 cI cS a0 a1 a2 a3 a4 a5 a6 a7 a8 a9 a10 a11 nw kp ad fd tp kn it wd sz nm mv ik td z_68.2.1 z_68.2.2.1 z_68.2.2.2.1 z_68.2.2.2.2.1 z_68.2.2.2.2.2 im st ht) rfl).sub [0, 1, 2, 3, 4, 5, 6, 7, 8, 9, 10, 11] (by decide) rfl).weaken (fun _ _ _ _ => trivial))) RX5 gX5_readSaying_X5_addItem rfl ⟨rfl, rfl⟩ pdX5_addItem rfl ⟨Nat.le_of_ble_eq_true rfl, Nat.le_of_ble_eq_true rfl⟩ (fun _ _ _ _ q => q) (va_recv hE.1 hPc (ci := 4) (q0 := 0) rfl rfl) (fun U hU _ _ => by rw [hU]; exact hPc) hl.1 rfl (Nat.le_of_ble_eq_true rfl) dX5_readSaying_93 ⟨Nat.zero_le _, Nat.zero_le _⟩) hP (hD _ rfl) hS rfl rfl rfl (fun H locs hP hS => ?_)
          refine lv_aload_n hx hb dX5_readSaying_96 rfl (lv_at hl 3 rfl) ?_
          refine lv_dup hx hb dX5_readSaying_97 rfl ?_
          refine va_get (D := D) (ci := 4) (v := .int st) (C := RX5) (T := TX5) (N := 21) hx hb hts hinX5 hown hE.1 hP 0 rfl rfl 15 (by decide) (hts _ (List.mem_of_getElem? (i := 1) rfl)) (fun _ h9 => h9) rfl dX5_readSaying_98 ?_
          refine lv_iconst (v := 1) hx hb dX5_readSaying_101 (by decide) ?_
          refine lv_iadd hx hb dX5_readSaying_102 ?_
          refine va_put (D := D) (ci := 4) (v := .int (st + 1)) (ty := .int) (C := RX5) (T := TX5) (N := 21) hx hb hts hinX5 tyX5 tyX5_ok nmX5 hown hE.1 hP (hD _ rfl) hS 0 rfl rfl 15 (by decide) (hts _ (List.mem_of_getElem? (i := 1) rfl)) (fun _ h9 => h9) rfl (by decide +kernel) rfl rfl (Nat.le_of_ble_eq_true rfl) dX5_readSaying_103 (fun H locs hP _ hS => ?_)
          have hP : va_P D vwCl (wX5 cI cS a0 a1 a2 a3 a4 a5 a6 a7 a8 a9 a10 a11 nw kp ad fd tp kn z_71.1 wd sz nm mv ik td z_68.2.1 z_68.2.2.1 z_68.2.2.2.1 z_68.2.2.2.2.1 z_68.2.2.2.2.2 z_71.2 (st + 1) ht) H := hP
          obtain ⟨q0, g0⟩ := Prod.mk.inj (Option.some.inj h)
          obtain ⟨q1, g1⟩ := Prod.mk.inj g0
          obtain ⟨q2, g2⟩ := Prod.mk.inj g1
          obtain ⟨q3, g3⟩ := Prod.mk.inj g2
          obtain ⟨q4, g4⟩ := Prod.mk.inj g3
          obtain ⟨q5, g5⟩ := Prod.mk.inj g4
          obtain ⟨q6, q7⟩ := Prod.mk.inj g5
          subst q0 q1 q2 q3 q4 q5 q6 q7
          exact eMv C0 hP hS rfl dX5_readSaying_106
        · have h := ifn c_70 h
          refine lv_iconst (v := 1) hx hb dX5_readSaying_88 (by decide) ?_
          refine lv_goto (tgt := 93) hx hb dX5_readSaying_89 (by decide) ?_
          obtain ⟨z_73, e_74, h⟩ := bds h
          have hPc := hP.sub (ws' := (wX5 cI cS a0 a1 a2 a3 a4 a5 a6 a7 a8 a9 a10 a11 nw kp ad fd tp kn it wd sz nm mv ik td z_68.2.1 z_68.2.2.1 z_68.2.2.2.1 z_68.2.2.2.2.1 z_68.2.2.2.2.2 im st ht)) [0, 1, 2, 3, 4, 5, 6, 7, 8, 9, 10, 11] rfl
          refine kMv (wf' := (wX5 cI cS a0 a1 a2 a3 a4 a5 a6 a7 a8 a9 a10 a11 nw kp ad fd tp kn z_73.1 wd sz nm mv ik td z_68.2.1 z_68.2.2.1 z_68.2.2.2.1 z_68.2.2.2.2.1 z_68.2.2.2.2.2 z_73.2 st ht)) [0, 1, 2, 3, 4, 5, 6, 7, 8, 9, 10, 11] [some 0, some 1, some 2, some 3, some 4, some 5, some 6, some 7, some 8, some 9, some 10, some 11] (rV C0 (tX5_addItem l D cI cS a0 a1 a2 a3 a4 a5 a6 a7 a8 a9 a10 a11 nw kp ad fd tp kn it wd sz nm mv ik td z_68.2.1 z_68.2.2.1 z_68.2.2.2.1 z_68.2.2.2.2.1 z_68.2.2.2.2.2 im st ht v1 z_51.1 0 z_66.1 1 z_73.1 z_73.2 e_74 (((hD (wX5 cI cS a0 a1 a2 a3 a4 a5 a6 a7 a8 a9 a10 a11 nw kp ad fd tp kn it wd sz nm mv ik td z_68.2.1 z_68.2.2.1 z_68.2.2.2.1 z_68.2.2.2.2.1 z_68.2.2.2.2.2 im st ht) rfl).sub [0, 1, 2, 3, 4, 5, 6, 7, 8, 9, 10, 11] (by decide) rfl).weaken (fun _ _ _ _ => trivial))) RX5 gX5_readSaying_X5_addItem rfl ⟨rfl, rfl⟩ pdX5_addItem rfl ⟨Nat.le_of_ble_eq_true rfl, Nat.le_of_ble_eq_true rfl⟩ (fun _ _ _ _ q => q) (va_recv hE.1 hPc (ci := 4) (q0 := 0) rfl rfl) (fun U hU _ _ => by rw [hU]; exact hPc) hl.1 rfl (Nat.le_of_ble_eq_true rfl) dX5_readSaying_93 ⟨Nat.zero_le _, Nat.zero_le _⟩) hP (hD _ rfl) hS rfl rfl rfl (fun H locs hP hS => ?_)
          refine lv_aload_n hx hb dX5_readSaying_96 rfl (lv_at hl 3 rfl) ?_
          refine lv_dup hx hb dX5_readSaying_97 rfl ?_
          refine va_get (D := D) (ci := 4) (v := .int st) (C := RX5) (T := TX5) (N := 21) hx hb hts hinX5 hown hE.1 hP 0 rfl rfl 15 (by decide) (hts _ (List.mem_of_getElem? (i := 1) rfl)) (fun _ h9 => h9) rfl dX5_readSaying_98 ?_
          refine lv_iconst (v := 1) hx hb dX5_readSaying_101 (by decide) ?_
          refine lv_iadd hx hb dX5_readSaying_102 ?_
          refine va_put (D := D) (ci := 4) (v := .int (st + 1)) (ty := .int) (C := RX5) (T := TX5) (N := 21) hx hb hts hinX5 tyX5 tyX5_ok nmX5 hown hE.1 hP (hD _ rfl) hS 0 rfl rfl 15 (by decide) (hts _ (List.mem_of_getElem? (i := 1) rfl)) (fun _ h9 => h9) rfl (by decide +kernel) rfl rfl (Nat.le_of_ble_eq_true rfl) dX5_readSaying_103 (fun H locs hP _ hS => ?_)
          have hP : va_P D vwCl (wX5 cI cS a0 a1 a2 a3 a4 a5 a6 a7 a8 a9 a10 a11 nw kp ad fd tp kn z_73.1 wd sz nm mv ik td z_68.2.1 z_68.2.2.1 z_68.2.2.2.1 z_68.2.2.2.2.1 z_68.2.2.2.2.2 z_73.2 (st + 1) ht) H := hP
          obtain ⟨q0, g0⟩ := Prod.mk.inj (Option.some.inj h)
          obtain ⟨q1, g1⟩ := Prod.mk.inj g0
          obtain ⟨q2, g2⟩ := Prod.mk.inj g1
          obtain ⟨q3, g3⟩ := Prod.mk.inj g2
          obtain ⟨q4, g4⟩ := Prod.mk.inj g3
          obtain ⟨q5, g5⟩ := Prod.mk.inj g4
          obtain ⟨q6, q7⟩ := Prod.mk.inj g5
          subst q0 q1 q2 q3 q4 q5 q6 q7
          exact eMv C0 hP hS rfl dX5_readSaying_106
    · have h := ifn c_55 h
      refine lv_aload_n hx hb dX5_readSaying_36 rfl (lv_at hl 1 rfl) ?_
      refine lv_iconst (v := 0) hx hb dX5_readSaying_37 (by decide) ?_
      refine lv_bipush (v := 15) hx hb dX5_readSaying_38 (by decide) ?_
      obtain ⟨z_75, e_76, h⟩ := bds h
      have hPc := hP.sub (ws' := (wX5 cI cS a0 a1 a2 a3 a4 a5 a6 a7 a8 a9 a10 a11 nw kp ad fd tp kn it wd sz nm mv ik td z_53.2.1 z_53.2.2.1 z_53.2.2.2.1 z_53.2.2.2.2.1 z_53.2.2.2.2.2 im st ht)) [0, 1, 2, 3, 4, 5, 6, 7, 8, 9, 10, 11] rfl
      refine kMi (wf' := (wX5 cI cS a0 a1 a2 a3 a4 a5 a6 a7 a8 a9 a10 a11 nw kp ad fd tp kn it wd sz nm mv ik td z_75.2.1 z_75.2.2.1 z_75.2.2.2.1 z_75.2.2.2.2.1 z_75.2.2.2.2.2 im st ht)) [0, 1, 2, 3, 4, 5, 6, 7, 8, 9, 10, 11] [some 0, some 1, some 2, some 3, some 4, some 5, some 6, some 7, some 8, some 9, some 10, some 11] (rV C0 (tX5_number l D cI cS F a0 a1 a2 a3 a4 a5 a6 a7 a8 a9 a10 a11 nw kp ad fd tp kn it wd sz nm mv ik td z_53.2.1 z_53.2.2.1 z_53.2.2.2.1 z_53.2.2.2.2.1 z_53.2.2.2.2.2 im st ht 0 15 z_75.1 z_75.2.1 z_75.2.2.1 z_75.2.2.2.1 z_75.2.2.2.2.1 z_75.2.2.2.2.2 e_76 (((hD (wX5 cI cS a0 a1 a2 a3 a4 a5 a6 a7 a8 a9 a10 a11 nw kp ad fd tp kn it wd sz nm mv ik td z_53.2.1 z_53.2.2.1 z_53.2.2.2.1 z_53.2.2.2.2.1 z_53.2.2.2.2.2 im st ht) rfl).sub [0, 1, 2, 3, 4, 5, 6, 7, 8, 9, 10, 11] (by decide) rfl).weaken (fun _ _ _ _ => trivial))) RX5 gX5_readSaying_X5_number rfl ⟨rfl, rfl⟩ pdX5_number rfl ⟨Nat.le_of_ble_eq_true rfl, Nat.le_of_ble_eq_true rfl⟩ (fun _ _ _ _ q => q) (va_recv hE.1 hPc (ci := 4) (q0 := 0) rfl rfl) (fun U hU _ _ => by rw [hU]; exact hPc) hl.1 rfl (Nat.le_of_ble_eq_true rfl) dX5_readSaying_40 ⟨Nat.zero_le _, Nat.zero_le _⟩) hP (hD _ rfl) hS rfl rfl rfl (fun H locs hP hS => ?_)
      refine lv_goto (tgt := 47) hx hb dX5_readSaying_43 (by decide) ?_
      refine lv_istore_n (lv' := [(3, .int z_75.1), (2, .int z_51.1), (0, .ref a0), (1, .int v1)]) hx hb dX5_readSaying_47 rfl hl (by decide) rfl (fun ls hl => ?_)
      refine lv_aload_n hx hb dX5_readSaying_48 rfl (lv_at hl 2 rfl) ?_
      refine ldwS hx hb hown (show vk_R RX5 308 "said" (cs.1 10) s from hCS.2.2.2.1 ("VaguePortModel", 308, "said", 10) (List.mem_of_getElem? (i := 17) rfl)) dX5_readSaying_49 ?_
      obtain ⟨z_77, e_78, h⟩ := bds h
      have hPc := hP.sub (ws' := (wX5 cI cS a0 a1 a2 a3 a4 a5 a6 a7 a8 a9 a10 a11 nw kp ad fd tp kn it wd sz nm mv ik td z_75.2.1 z_75.2.2.1 z_75.2.2.2.1 z_75.2.2.2.2.1 z_75.2.2.2.2.2 im st ht)) [0, 1, 2, 3, 4, 5, 6, 7, 8, 9, 10, 11] rfl
      refine kMi (wf' := (wX5 cI cS a0 a1 a2 a3 a4 a5 a6 a7 a8 a9 a10 a11 nw kp ad fd tp kn it wd sz nm mv ik td z_77.2.1 z_77.2.2.1 z_77.2.2.2.1 z_77.2.2.2.2.1 z_77.2.2.2.2.2 im st ht)) [0, 1, 2, 3, 4, 5, 6, 7, 8, 9, 10, 11] [some 0, some 1, some 2, some 3, some 4, some 5, some 6, some 7, some 8, some 9, some 10, some 11] (rV C0 (tX5_takesWord l D cI cS cs F a0 a1 a2 a3 a4 a5 a6 a7 a8 a9 a10 a11 nw kp ad fd tp kn it wd sz nm mv ik td z_75.2.1 z_75.2.2.1 z_75.2.2.2.1 z_75.2.2.2.2.1 z_75.2.2.2.2.2 im st ht 10 z_77.1 z_77.2.1 z_77.2.2.1 z_77.2.2.2.1 z_77.2.2.2.2.1 z_77.2.2.2.2.2 e_78 (by decide) (((hD (wX5 cI cS a0 a1 a2 a3 a4 a5 a6 a7 a8 a9 a10 a11 nw kp ad fd tp kn it wd sz nm mv ik td z_75.2.1 z_75.2.2.1 z_75.2.2.2.1 z_75.2.2.2.2.1 z_75.2.2.2.2.2 im st ht) rfl).sub [0, 1, 2, 3, 4, 5, 6, 7, 8, 9, 10, 11] (by decide) rfl).weaken (fun _ _ _ _ => trivial))) RX5 gX5_readSaying_X5_takesWord rfl ⟨rfl, rfl⟩ pdX5_takesWord rfl ⟨Nat.le_of_ble_eq_true rfl, Nat.le_of_ble_eq_true rfl⟩ (fun _ _ _ _ q => ⟨q.1, q.2.call⟩) (va_recv hE.1 hPc (ci := 4) (q0 := 0) rfl rfl) (fun U hU hW _ => ⟨by rw [hU]; exact hPc, by rw [hU]; exact ((hCS.kept hS.2.1).narrow (fun q h => va_D.inA (hD (wX5 cI cS a0 a1 a2 a3 a4 a5 a6 a7 a8 a9 a10 a11 nw kp ad fd tp kn it wd sz nm mv ik td z_75.2.1 z_75.2.2.1 z_75.2.2.2.1 z_75.2.2.2.2.1 z_75.2.2.2.2.2 im st ht) rfl) [0, 1, 2, 3, 4, 5, 6, 7, 8, 9, 10, 11] rfl h)).warm hW⟩) hl.1 rfl (Nat.le_of_ble_eq_true rfl) dX5_readSaying_52 ⟨Nat.zero_le _, Nat.zero_le _⟩) hP (hD _ rfl) hS rfl rfl rfl (fun H locs hP hS => ?_)
      refine lv_if_eq (tgt := 69) hx hb dX5_readSaying_55 (by decide) (fun c_79 => ?_) (fun c_79 => ?_)
      · have h := ifp c_79 h
        refine lv_iconst (v := 0) hx hb dX5_readSaying_69 (by decide) ?_
        refine lv_istore (lv' := [(4, .int 0), (3, .int z_75.1), (2, .int z_51.1), (0, .ref a0), (1, .int v1)]) hx hb dX5_readSaying_70 hl (by decide) rfl (fun ls hl => ?_)
        refine lv_aload_n hx hb dX5_readSaying_72 rfl (lv_at hl 3 rfl) ?_
        refine lv_iload_n hx hb dX5_readSaying_73 rfl (lv_at hl 4 rfl) ?_
        refine lv_iload_n hx hb dX5_readSaying_74 rfl (lv_at hl 2 rfl) ?_
        refine lv_iload_n hx hb dX5_readSaying_75 rfl (lv_at hl 1 rfl) ?_
        refine lv_iload hx hb dX5_readSaying_76 (lv_at hl 0 rfl) ?_
        refine lv_aload_n hx hb dX5_readSaying_78 rfl (lv_at hl 3 rfl) ?_
        refine ldwS hx hb hown (show vk_R RX5 310 "finished" (cs.1 11) s from hCS.2.2.2.1 ("VaguePortModel", 310, "finished", 11) (List.mem_of_getElem? (i := 19) rfl)) dX5_readSaying_79 ?_
        obtain ⟨z_80, e_81, h⟩ := bds h
        have hPc := hP.sub (ws' := (wX5 cI cS a0 a1 a2 a3 a4 a5 a6 a7 a8 a9 a10 a11 nw kp ad fd tp kn it wd sz nm mv ik td z_77.2.1 z_77.2.2.1 z_77.2.2.2.1 z_77.2.2.2.2.1 z_77.2.2.2.2.2 im st ht)) [0, 1, 2, 3, 4, 5, 6, 7, 8, 9, 10, 11] rfl
        refine kMi (wf' := (wX5 cI cS a0 a1 a2 a3 a4 a5 a6 a7 a8 a9 a10 a11 nw kp ad fd tp kn it wd sz nm mv ik td z_80.2.1 z_80.2.2.1 z_80.2.2.2.1 z_80.2.2.2.2.1 z_80.2.2.2.2.2 im st ht)) [0, 1, 2, 3, 4, 5, 6, 7, 8, 9, 10, 11] [some 0, some 1, some 2, some 3, some 4, some 5, some 6, some 7, some 8, some 9, some 10, some 11] (rV C0 (tX5_takesWord l D cI cS cs F a0 a1 a2 a3 a4 a5 a6 a7 a8 a9 a10 a11 nw kp ad fd tp kn it wd sz nm mv ik td z_77.2.1 z_77.2.2.1 z_77.2.2.2.1 z_77.2.2.2.2.1 z_77.2.2.2.2.2 im st ht 11 z_80.1 z_80.2.1 z_80.2.2.1 z_80.2.2.2.1 z_80.2.2.2.2.1 z_80.2.2.2.2.2 e_81 (by decide) (((hD (wX5 cI cS a0 a1 a2 a3 a4 a5 a6 a7 a8 a9 a10 a11 nw kp ad fd tp kn it wd sz nm mv ik td z_77.2.1 z_77.2.2.1 z_77.2.2.2.1 z_77.2.2.2.2.1 z_77.2.2.2.2.2 im st ht) rfl).sub [0, 1, 2, 3, 4, 5, 6, 7, 8, 9, 10, 11] (by decide) rfl).weaken (fun _ _ _ _ => trivial))) RX5 gX5_readSaying_X5_takesWord rfl ⟨rfl, rfl⟩ pdX5_takesWord rfl ⟨Nat.le_of_ble_eq_true rfl, Nat.le_of_ble_eq_true rfl⟩ (fun _ _ _ _ q => ⟨q.1, q.2.call⟩) (va_recv hE.1 hPc (ci := 4) (q0 := 0) rfl rfl) (fun U hU hW _ => ⟨by rw [hU]; exact hPc, by rw [hU]; exact ((hCS.kept hS.2.1).narrow (fun q h => va_D.inA (hD (wX5 cI cS a0 a1 a2 a3 a4 a5 a6 a7 a8 a9 a10 a11 nw kp ad fd tp kn it wd sz nm mv ik td z_77.2.1 z_77.2.2.1 z_77.2.2.2.1 z_77.2.2.2.2.1 z_77.2.2.2.2.2 im st ht) rfl) [0, 1, 2, 3, 4, 5, 6, 7, 8, 9, 10, 11] rfl h)).warm hW⟩) hl.1 rfl (Nat.le_of_ble_eq_true rfl) dX5_readSaying_82 ⟨Nat.zero_le _, Nat.zero_le _⟩) hP (hD _ rfl) hS rfl rfl rfl (fun H locs hP hS => ?_)
        refine lv_if_eq (tgt := 92) hx hb dX5_readSaying_85 (by decide) (fun c_82 => ?_) (fun c_82 => ?_)
        · have h := ifp c_82 h
          refine lv_iconst (v := 0) hx hb dX5_readSaying_92 (by decide) ?_
          obtain ⟨z_83, e_84, h⟩ := bds h
          have hPc := hP.sub (ws' := (wX5 cI cS a0 a1 a2 a3 a4 a5 a6 a7 a8 a9 a10 a11 nw kp ad fd tp kn it wd sz nm mv ik td z_80.2.1 z_80.2.2.1 z_80.2.2.2.1 z_80.2.2.2.2.1 z_80.2.2.2.2.2 im st ht)) [0, 1, 2, 3, 4, 5, 6, 7, 8, 9, 10, 11] rfl
          refine kMv (wf' := (wX5 cI cS a0 a1 a2 a3 a4 a5 a6 a7 a8 a9 a10 a11 nw kp ad fd tp kn z_83.1 wd sz nm mv ik td z_80.2.1 z_80.2.2.1 z_80.2.2.2.1 z_80.2.2.2.2.1 z_80.2.2.2.2.2 z_83.2 st ht)) [0, 1, 2, 3, 4, 5, 6, 7, 8, 9, 10, 11] [some 0, some 1, some 2, some 3, some 4, some 5, some 6, some 7, some 8, some 9, some 10, some 11] (rV C0 (tX5_addItem l D cI cS a0 a1 a2 a3 a4 a5 a6 a7 a8 a9 a10 a11 nw kp ad fd tp kn it wd sz nm mv ik td z_80.2.1 z_80.2.2.1 z_80.2.2.2.1 z_80.2.2.2.2.1 z_80.2.2.2.2.2 im st ht v1 z_51.1 z_75.1 0 0 z_83.1 z_83.2 e_84 (((hD (wX5 cI cS a0 a1 a2 a3 a4 a5 a6 a7 a8 a9 a10 a11 nw kp ad fd tp kn it wd sz nm mv ik td z_80.2.1 z_80.2.2.1 z_80.2.2.2.1 z_80.2.2.2.2.1 z_80.2.2.2.2.2 im st ht) rfl).sub [0, 1, 2, 3, 4, 5, 6, 7, 8, 9, 10, 11] (by decide) rfl).weaken (fun _ _ _ _ => trivial))) RX5 gX5_readSaying_X5_addItem rfl ⟨rfl, rfl⟩ pdX5_addItem rfl ⟨Nat.le_of_ble_eq_true rfl, Nat.le_of_ble_eq_true rfl⟩ (fun _ _ _ _ q => q) (va_recv hE.1 hPc (ci := 4) (q0 := 0) rfl rfl) (fun U hU _ _ => by rw [hU]; exact hPc) hl.1 rfl (Nat.le_of_ble_eq_true rfl) dX5_readSaying_93 ⟨Nat.zero_le _, Nat.zero_le _⟩) hP (hD _ rfl) hS rfl rfl rfl (fun H locs hP hS => ?_)
          refine lv_aload_n hx hb dX5_readSaying_96 rfl (lv_at hl 3 rfl) ?_
          refine lv_dup hx hb dX5_readSaying_97 rfl ?_
          refine va_get (D := D) (ci := 4) (v := .int st) (C := RX5) (T := TX5) (N := 21) hx hb hts hinX5 hown hE.1 hP 0 rfl rfl 15 (by decide) (hts _ (List.mem_of_getElem? (i := 1) rfl)) (fun _ h9 => h9) rfl dX5_readSaying_98 ?_
          refine lv_iconst (v := 1) hx hb dX5_readSaying_101 (by decide) ?_
          refine lv_iadd hx hb dX5_readSaying_102 ?_
          refine va_put (D := D) (ci := 4) (v := .int (st + 1)) (ty := .int) (C := RX5) (T := TX5) (N := 21) hx hb hts hinX5 tyX5 tyX5_ok nmX5 hown hE.1 hP (hD _ rfl) hS 0 rfl rfl 15 (by decide) (hts _ (List.mem_of_getElem? (i := 1) rfl)) (fun _ h9 => h9) rfl (by decide +kernel) rfl rfl (Nat.le_of_ble_eq_true rfl) dX5_readSaying_103 (fun H locs hP _ hS => ?_)
          have hP : va_P D vwCl (wX5 cI cS a0 a1 a2 a3 a4 a5 a6 a7 a8 a9 a10 a11 nw kp ad fd tp kn z_83.1 wd sz nm mv ik td z_80.2.1 z_80.2.2.1 z_80.2.2.2.1 z_80.2.2.2.2.1 z_80.2.2.2.2.2 z_83.2 (st + 1) ht) H := hP
          obtain ⟨q0, g0⟩ := Prod.mk.inj (Option.some.inj h)
          obtain ⟨q1, g1⟩ := Prod.mk.inj g0
          obtain ⟨q2, g2⟩ := Prod.mk.inj g1
          obtain ⟨q3, g3⟩ := Prod.mk.inj g2
          obtain ⟨q4, g4⟩ := Prod.mk.inj g3
          obtain ⟨q5, g5⟩ := Prod.mk.inj g4
          obtain ⟨q6, q7⟩ := Prod.mk.inj g5
          subst q0 q1 q2 q3 q4 q5 q6 q7
          exact eMv C0 hP hS rfl dX5_readSaying_106
        · have h := ifn c_82 h
          refine lv_iconst (v := 1) hx hb dX5_readSaying_88 (by decide) ?_
          refine lv_goto (tgt := 93) hx hb dX5_readSaying_89 (by decide) ?_
          obtain ⟨z_85, e_86, h⟩ := bds h
          have hPc := hP.sub (ws' := (wX5 cI cS a0 a1 a2 a3 a4 a5 a6 a7 a8 a9 a10 a11 nw kp ad fd tp kn it wd sz nm mv ik td z_80.2.1 z_80.2.2.1 z_80.2.2.2.1 z_80.2.2.2.2.1 z_80.2.2.2.2.2 im st ht)) [0, 1, 2, 3, 4, 5, 6, 7, 8, 9, 10, 11] rfl
          refine kMv (wf' := (wX5 cI cS a0 a1 a2 a3 a4 a5 a6 a7 a8 a9 a10 a11 nw kp ad fd tp kn z_85.1 wd sz nm mv ik td z_80.2.1 z_80.2.2.1 z_80.2.2.2.1 z_80.2.2.2.2.1 z_80.2.2.2.2.2 z_85.2 st ht)) [0, 1, 2, 3, 4, 5, 6, 7, 8, 9, 10, 11] [some 0, some 1, some 2, some 3, some 4, some 5, some 6, some 7, some 8, some 9, some 10, some 11] (rV C0 (tX5_addItem l D cI cS a0 a1 a2 a3 a4 a5 a6 a7 a8 a9 a10 a11 nw kp ad fd tp kn it wd sz nm mv ik td z_80.2.1 z_80.2.2.1 z_80.2.2.2.1 z_80.2.2.2.2.1 z_80.2.2.2.2.2 im st ht v1 z_51.1 z_75.1 0 1 z_85.1 z_85.2 e_86 (((hD (wX5 cI cS a0 a1 a2 a3 a4 a5 a6 a7 a8 a9 a10 a11 nw kp ad fd tp kn it wd sz nm mv ik td z_80.2.1 z_80.2.2.1 z_80.2.2.2.1 z_80.2.2.2.2.1 z_80.2.2.2.2.2 im st ht) rfl).sub [0, 1, 2, 3, 4, 5, 6, 7, 8, 9, 10, 11] (by decide) rfl).weaken (fun _ _ _ _ => trivial))) RX5 gX5_readSaying_X5_addItem rfl ⟨rfl, rfl⟩ pdX5_addItem rfl ⟨Nat.le_of_ble_eq_true rfl, Nat.le_of_ble_eq_true rfl⟩ (fun _ _ _ _ q => q) (va_recv hE.1 hPc (ci := 4) (q0 := 0) rfl rfl) (fun U hU _ _ => by rw [hU]; exact hPc) hl.1 rfl (Nat.le_of_ble_eq_true rfl) dX5_readSaying_93 ⟨Nat.zero_le _, Nat.zero_le _⟩) hP (hD _ rfl) hS rfl rfl rfl (fun H locs hP hS => ?_)
          refine lv_aload_n hx hb dX5_readSaying_96 rfl (lv_at hl 3 rfl) ?_
          refine lv_dup hx hb dX5_readSaying_97 rfl ?_
          refine va_get (D := D) (ci := 4) (v := .int st) (C := RX5) (T := TX5) (N := 21) hx hb hts hinX5 hown hE.1 hP 0 rfl rfl 15 (by decide) (hts _ (List.mem_of_getElem? (i := 1) rfl)) (fun _ h9 => h9) rfl dX5_readSaying_98 ?_
          refine lv_iconst (v := 1) hx hb dX5_readSaying_101 (by decide) ?_
          refine lv_iadd hx hb dX5_readSaying_102 ?_
          refine va_put (D := D) (ci := 4) (v := .int (st + 1)) (ty := .int) (C := RX5) (T := TX5) (N := 21) hx hb hts hinX5 tyX5 tyX5_ok nmX5 hown hE.1 hP (hD _ rfl) hS 0 rfl rfl 15 (by decide) (hts _ (List.mem_of_getElem? (i := 1) rfl)) (fun _ h9 => h9) rfl (by decide +kernel) rfl rfl (Nat.le_of_ble_eq_true rfl) dX5_readSaying_103 (fun H locs hP _ hS => ?_)
          have hP : va_P D vwCl (wX5 cI cS a0 a1 a2 a3 a4 a5 a6 a7 a8 a9 a10 a11 nw kp ad fd tp kn z_85.1 wd sz nm mv ik td z_80.2.1 z_80.2.2.1 z_80.2.2.2.1 z_80.2.2.2.2.1 z_80.2.2.2.2.2 z_85.2 (st + 1) ht) H := hP
          obtain ⟨q0, g0⟩ := Prod.mk.inj (Option.some.inj h)
          obtain ⟨q1, g1⟩ := Prod.mk.inj g0
          obtain ⟨q2, g2⟩ := Prod.mk.inj g1
          obtain ⟨q3, g3⟩ := Prod.mk.inj g2
          obtain ⟨q4, g4⟩ := Prod.mk.inj g3
          obtain ⟨q5, g5⟩ := Prod.mk.inj g4
          obtain ⟨q6, q7⟩ := Prod.mk.inj g5
          subst q0 q1 q2 q3 q4 q5 q6 q7
          exact eMv C0 hP hS rfl dX5_readSaying_106
      · have h := ifn c_79 h
        refine lv_aload_n hx hb dX5_readSaying_58 rfl (lv_at hl 2 rfl) ?_
        refine lv_iconst (v := 0) hx hb dX5_readSaying_59 (by decide) ?_
        refine lv_sipush (v := 9999) hx hb dX5_readSaying_60 (by decide) ?_
        obtain ⟨z_87, e_88, h⟩ := bds h
        have hPc := hP.sub (ws' := (wX5 cI cS a0 a1 a2 a3 a4 a5 a6 a7 a8 a9 a10 a11 nw kp ad fd tp kn it wd sz nm mv ik td z_77.2.1 z_77.2.2.1 z_77.2.2.2.1 z_77.2.2.2.2.1 z_77.2.2.2.2.2 im st ht)) [0, 1, 2, 3, 4, 5, 6, 7, 8, 9, 10, 11] rfl
        refine kMi (wf' := (wX5 cI cS a0 a1 a2 a3 a4 a5 a6 a7 a8 a9 a10 a11 nw kp ad fd tp kn it wd sz nm mv ik td z_87.2.1 z_87.2.2.1 z_87.2.2.2.1 z_87.2.2.2.2.1 z_87.2.2.2.2.2 im st ht)) [0, 1, 2, 3, 4, 5, 6, 7, 8, 9, 10, 11] [some 0, some 1, some 2, some 3, some 4, some 5, some 6, some 7, some 8, some 9, some 10, some 11] (rV C0 (tX5_number l D cI cS F a0 a1 a2 a3 a4 a5 a6 a7 a8 a9 a10 a11 nw kp ad fd tp kn it wd sz nm mv ik td z_77.2.1 z_77.2.2.1 z_77.2.2.2.1 z_77.2.2.2.2.1 z_77.2.2.2.2.2 im st ht 0 9999 z_87.1 z_87.2.1 z_87.2.2.1 z_87.2.2.2.1 z_87.2.2.2.2.1 z_87.2.2.2.2.2 e_88 (((hD (wX5 cI cS a0 a1 a2 a3 a4 a5 a6 a7 a8 a9 a10 a11 nw kp ad fd tp kn it wd sz nm mv ik td z_77.2.1 z_77.2.2.1 z_77.2.2.2.1 z_77.2.2.2.2.1 z_77.2.2.2.2.2 im st ht) rfl).sub [0, 1, 2, 3, 4, 5, 6, 7, 8, 9, 10, 11] (by decide) rfl).weaken (fun _ _ _ _ => trivial))) RX5 gX5_readSaying_X5_number rfl ⟨rfl, rfl⟩ pdX5_number rfl ⟨Nat.le_of_ble_eq_true rfl, Nat.le_of_ble_eq_true rfl⟩ (fun _ _ _ _ q => q) (va_recv hE.1 hPc (ci := 4) (q0 := 0) rfl rfl) (fun U hU _ _ => by rw [hU]; exact hPc) hl.1 rfl (Nat.le_of_ble_eq_true rfl) dX5_readSaying_63 ⟨Nat.zero_le _, Nat.zero_le _⟩) hP (hD _ rfl) hS rfl rfl rfl (fun H locs hP hS => ?_)
        refine lv_goto (tgt := 70) hx hb dX5_readSaying_66 (by decide) ?_
        refine lv_istore (lv' := [(4, .int z_87.1), (3, .int z_75.1), (2, .int z_51.1), (0, .ref a0), (1, .int v1)]) hx hb dX5_readSaying_70 hl (by decide) rfl (fun ls hl => ?_)
        refine lv_aload_n hx hb dX5_readSaying_72 rfl (lv_at hl 3 rfl) ?_
        refine lv_iload_n hx hb dX5_readSaying_73 rfl (lv_at hl 4 rfl) ?_
        refine lv_iload_n hx hb dX5_readSaying_74 rfl (lv_at hl 2 rfl) ?_
        refine lv_iload_n hx hb dX5_readSaying_75 rfl (lv_at hl 1 rfl) ?_
        refine lv_iload hx hb dX5_readSaying_76 (lv_at hl 0 rfl) ?_
        refine lv_aload_n hx hb dX5_readSaying_78 rfl (lv_at hl 3 rfl) ?_
        refine ldwS hx hb hown (show vk_R RX5 310 "finished" (cs.1 11) s from hCS.2.2.2.1 ("VaguePortModel", 310, "finished", 11) (List.mem_of_getElem? (i := 19) rfl)) dX5_readSaying_79 ?_
        obtain ⟨z_89, e_90, h⟩ := bds h
        have hPc := hP.sub (ws' := (wX5 cI cS a0 a1 a2 a3 a4 a5 a6 a7 a8 a9 a10 a11 nw kp ad fd tp kn it wd sz nm mv ik td z_87.2.1 z_87.2.2.1 z_87.2.2.2.1 z_87.2.2.2.2.1 z_87.2.2.2.2.2 im st ht)) [0, 1, 2, 3, 4, 5, 6, 7, 8, 9, 10, 11] rfl
        refine kMi (wf' := (wX5 cI cS a0 a1 a2 a3 a4 a5 a6 a7 a8 a9 a10 a11 nw kp ad fd tp kn it wd sz nm mv ik td z_89.2.1 z_89.2.2.1 z_89.2.2.2.1 z_89.2.2.2.2.1 z_89.2.2.2.2.2 im st ht)) [0, 1, 2, 3, 4, 5, 6, 7, 8, 9, 10, 11] [some 0, some 1, some 2, some 3, some 4, some 5, some 6, some 7, some 8, some 9, some 10, some 11] (rV C0 (tX5_takesWord l D cI cS cs F a0 a1 a2 a3 a4 a5 a6 a7 a8 a9 a10 a11 nw kp ad fd tp kn it wd sz nm mv ik td z_87.2.1 z_87.2.2.1 z_87.2.2.2.1 z_87.2.2.2.2.1 z_87.2.2.2.2.2 im st ht 11 z_89.1 z_89.2.1 z_89.2.2.1 z_89.2.2.2.1 z_89.2.2.2.2.1 z_89.2.2.2.2.2 e_90 (by decide) (((hD (wX5 cI cS a0 a1 a2 a3 a4 a5 a6 a7 a8 a9 a10 a11 nw kp ad fd tp kn it wd sz nm mv ik td z_87.2.1 z_87.2.2.1 z_87.2.2.2.1 z_87.2.2.2.2.1 z_87.2.2.2.2.2 im st ht) rfl).sub [0, 1, 2, 3, 4, 5, 6, 7, 8, 9, 10, 11] (by decide) rfl).weaken (fun _ _ _ _ => trivial))) RX5 gX5_readSaying_X5_takesWord rfl ⟨rfl, rfl⟩ pdX5_takesWord rfl ⟨Nat.le_of_ble_eq_true rfl, Nat.le_of_ble_eq_true rfl⟩ (fun _ _ _ _ q => ⟨q.1, q.2.call⟩) (va_recv hE.1 hPc (ci := 4) (q0 := 0) rfl rfl) (fun U hU hW _ => ⟨by rw [hU]; exact hPc, by rw [hU]; exact ((hCS.kept hS.2.1).narrow (fun q h => va_D.inA (hD (wX5 cI cS a0 a1 a2 a3 a4 a5 a6 a7 a8 a9 a10 a11 nw kp ad fd tp kn it wd sz nm mv ik td z_87.2.1 z_87.2.2.1 z_87.2.2.2.1 z_87.2.2.2.2.1 z_87.2.2.2.2.2 im st ht) rfl) [0, 1, 2, 3, 4, 5, 6, 7, 8, 9, 10, 11] rfl h)).warm hW⟩) hl.1 rfl (Nat.le_of_ble_eq_true rfl) dX5_readSaying_82 ⟨Nat.zero_le _, Nat.zero_le _⟩) hP (hD _ rfl) hS rfl rfl rfl (fun H locs hP hS => ?_)
        refine lv_if_eq (tgt := 92) hx hb dX5_readSaying_85 (by decide) (fun c_91 => ?_) (fun c_91 => ?_)
        · have h := ifp c_91 h
          refine lv_iconst (v := 0) hx hb dX5_readSaying_92 (by decide) ?_
          obtain ⟨z_92, e_93, h⟩ := bds h
          have hPc := hP.sub (ws' := (wX5 cI cS a0 a1 a2 a3 a4 a5 a6 a7 a8 a9 a10 a11 nw kp ad fd tp kn it wd sz nm mv ik td z_89.2.1 z_89.2.2.1 z_89.2.2.2.1 z_89.2.2.2.2.1 z_89.2.2.2.2.2 im st ht)) [0, 1, 2, 3, 4, 5, 6, 7, 8, 9, 10, 11] rfl
          refine kMv (wf' := (wX5 cI cS a0 a1 a2 a3 a4 a5 a6 a7 a8 a9 a10 a11 nw kp ad fd tp kn z_92.1 wd sz nm mv ik td z_89.2.1 z_89.2.2.1 z_89.2.2.2.1 z_89.2.2.2.2.1 z_89.2.2.2.2.2 z_92.2 st ht)) [0, 1, 2, 3, 4, 5, 6, 7, 8, 9, 10, 11] [some 0, some 1, some 2, some 3, some 4, some 5, some 6, some 7, some 8, some 9, some 10, some 11] (rV C0 (tX5_addItem l D cI cS a0 a1 a2 a3 a4 a5 a6 a7 a8 a9 a10 a11 nw kp ad fd tp kn it wd sz nm mv ik td z_89.2.1 z_89.2.2.1 z_89.2.2.2.1 z_89.2.2.2.2.1 z_89.2.2.2.2.2 im st ht v1 z_51.1 z_75.1 z_87.1 0 z_92.1 z_92.2 e_93 (((hD (wX5 cI cS a0 a1 a2 a3 a4 a5 a6 a7 a8 a9 a10 a11 nw kp ad fd tp kn it wd sz nm mv ik td z_89.2.1 z_89.2.2.1 z_89.2.2.2.1 z_89.2.2.2.2.1 z_89.2.2.2.2.2 im st ht) rfl).sub [0, 1, 2, 3, 4, 5, 6, 7, 8, 9, 10, 11] (by decide) rfl).weaken (fun _ _ _ _ => trivial))) RX5 gX5_readSaying_X5_addItem rfl ⟨rfl, rfl⟩ pdX5_addItem rfl ⟨Nat.le_of_ble_eq_true rfl, Nat.le_of_ble_eq_true rfl⟩ (fun _ _ _ _ q => q) (va_recv hE.1 hPc (ci := 4) (q0 := 0) rfl rfl) (fun U hU _ _ => by rw [hU]; exact hPc) hl.1 rfl (Nat.le_of_ble_eq_true rfl) dX5_readSaying_93 ⟨Nat.zero_le _, Nat.zero_le _⟩) hP (hD _ rfl) hS rfl rfl rfl (fun H locs hP hS => ?_)
          refine lv_aload_n hx hb dX5_readSaying_96 rfl (lv_at hl 3 rfl) ?_
          refine lv_dup hx hb dX5_readSaying_97 rfl ?_
          refine va_get (D := D) (ci := 4) (v := .int st) (C := RX5) (T := TX5) (N := 21) hx hb hts hinX5 hown hE.1 hP 0 rfl rfl 15 (by decide) (hts _ (List.mem_of_getElem? (i := 1) rfl)) (fun _ h9 => h9) rfl dX5_readSaying_98 ?_
          refine lv_iconst (v := 1) hx hb dX5_readSaying_101 (by decide) ?_
          refine lv_iadd hx hb dX5_readSaying_102 ?_
          refine va_put (D := D) (ci := 4) (v := .int (st + 1)) (ty := .int) (C := RX5) (T := TX5) (N := 21) hx hb hts hinX5 tyX5 tyX5_ok nmX5 hown hE.1 hP (hD _ rfl) hS 0 rfl rfl 15 (by decide) (hts _ (List.mem_of_getElem? (i := 1) rfl)) (fun _ h9 => h9) rfl (by decide +kernel) rfl rfl (Nat.le_of_ble_eq_true rfl) dX5_readSaying_103 (fun H locs hP _ hS => ?_)
          have hP : va_P D vwCl (wX5 cI cS a0 a1 a2 a3 a4 a5 a6 a7 a8 a9 a10 a11 nw kp ad fd tp kn z_92.1 wd sz nm mv ik td z_89.2.1 z_89.2.2.1 z_89.2.2.2.1 z_89.2.2.2.2.1 z_89.2.2.2.2.2 z_92.2 (st + 1) ht) H := hP
          obtain ⟨q0, g0⟩ := Prod.mk.inj (Option.some.inj h)
          obtain ⟨q1, g1⟩ := Prod.mk.inj g0
          obtain ⟨q2, g2⟩ := Prod.mk.inj g1
          obtain ⟨q3, g3⟩ := Prod.mk.inj g2
          obtain ⟨q4, g4⟩ := Prod.mk.inj g3
          obtain ⟨q5, g5⟩ := Prod.mk.inj g4
          obtain ⟨q6, q7⟩ := Prod.mk.inj g5
          subst q0 q1 q2 q3 q4 q5 q6 q7
          exact eMv C0 hP hS rfl dX5_readSaying_106
        · have h := ifn c_91 h
          refine lv_iconst (v := 1) hx hb dX5_readSaying_88 (by decide) ?_
          refine lv_goto (tgt := 93) hx hb dX5_readSaying_89 (by decide) ?_
          obtain ⟨z_94, e_95, h⟩ := bds h
          have hPc := hP.sub (ws' := (wX5 cI cS a0 a1 a2 a3 a4 a5 a6 a7 a8 a9 a10 a11 nw kp ad fd tp kn it wd sz nm mv ik td z_89.2.1 z_89.2.2.1 z_89.2.2.2.1 z_89.2.2.2.2.1 z_89.2.2.2.2.2 im st ht)) [0, 1, 2, 3, 4, 5, 6, 7, 8, 9, 10, 11] rfl
          refine kMv (wf' := (wX5 cI cS a0 a1 a2 a3 a4 a5 a6 a7 a8 a9 a10 a11 nw kp ad fd tp kn z_94.1 wd sz nm mv ik td z_89.2.1 z_89.2.2.1 z_89.2.2.2.1 z_89.2.2.2.2.1 z_89.2.2.2.2.2 z_94.2 st ht)) [0, 1, 2, 3, 4, 5, 6, 7, 8, 9, 10, 11] [some 0, some 1, some 2, some 3, some 4, some 5, some 6, some 7, some 8, some 9, some 10, some 11] (rV C0 (tX5_addItem l D cI cS a0 a1 a2 a3 a4 a5 a6 a7 a8 a9 a10 a11 nw kp ad fd tp kn it wd sz nm mv ik td z_89.2.1 z_89.2.2.1 z_89.2.2.2.1 z_89.2.2.2.2.1 z_89.2.2.2.2.2 im st ht v1 z_51.1 z_75.1 z_87.1 1 z_94.1 z_94.2 e_95 (((hD (wX5 cI cS a0 a1 a2 a3 a4 a5 a6 a7 a8 a9 a10 a11 nw kp ad fd tp kn it wd sz nm mv ik td z_89.2.1 z_89.2.2.1 z_89.2.2.2.1 z_89.2.2.2.2.1 z_89.2.2.2.2.2 im st ht) rfl).sub [0, 1, 2, 3, 4, 5, 6, 7, 8, 9, 10, 11] (by decide) rfl).weaken (fun _ _ _ _ => trivial))) RX5 gX5_readSaying_X5_addItem rfl ⟨rfl, rfl⟩ pdX5_addItem rfl ⟨Nat.le_of_ble_eq_true rfl, Nat.le_of_ble_eq_true rfl⟩ (fun _ _ _ _ q => q) (va_recv hE.1 hPc (ci := 4) (q0 := 0) rfl rfl) (fun U hU _ _ => by rw [hU]; exact hPc) hl.1 rfl (Nat.le_of_ble_eq_true rfl) dX5_readSaying_93 ⟨Nat.zero_le _, Nat.zero_le _⟩) hP (hD _ rfl) hS rfl rfl rfl (fun H locs hP hS => ?_)
          refine lv_aload_n hx hb dX5_readSaying_96 rfl (lv_at hl 3 rfl) ?_
          refine lv_dup hx hb dX5_readSaying_97 rfl ?_
          refine va_get (D := D) (ci := 4) (v := .int st) (C := RX5) (T := TX5) (N := 21) hx hb hts hinX5 hown hE.1 hP 0 rfl rfl 15 (by decide) (hts _ (List.mem_of_getElem? (i := 1) rfl)) (fun _ h9 => h9) rfl dX5_readSaying_98 ?_
          refine lv_iconst (v := 1) hx hb dX5_readSaying_101 (by decide) ?_
          refine lv_iadd hx hb dX5_readSaying_102 ?_
          refine va_put (D := D) (ci := 4) (v := .int (st + 1)) (ty := .int) (C := RX5) (T := TX5) (N := 21) hx hb hts hinX5 tyX5 tyX5_ok nmX5 hown hE.1 hP (hD _ rfl) hS 0 rfl rfl 15 (by decide) (hts _ (List.mem_of_getElem? (i := 1) rfl)) (fun _ h9 => h9) rfl (by decide +kernel) rfl rfl (Nat.le_of_ble_eq_true rfl) dX5_readSaying_103 (fun H locs hP _ hS => ?_)
          have hP : va_P D vwCl (wX5 cI cS a0 a1 a2 a3 a4 a5 a6 a7 a8 a9 a10 a11 nw kp ad fd tp kn z_94.1 wd sz nm mv ik td z_89.2.1 z_89.2.2.1 z_89.2.2.2.1 z_89.2.2.2.2.1 z_89.2.2.2.2.2 z_94.2 (st + 1) ht) H := hP
          obtain ⟨q0, g0⟩ := Prod.mk.inj (Option.some.inj h)
          obtain ⟨q1, g1⟩ := Prod.mk.inj g0
          obtain ⟨q2, g2⟩ := Prod.mk.inj g1
          obtain ⟨q3, g3⟩ := Prod.mk.inj g2
          obtain ⟨q4, g4⟩ := Prod.mk.inj g3
          obtain ⟨q5, g5⟩ := Prod.mk.inj g4
          obtain ⟨q6, q7⟩ := Prod.mk.inj g5
          subst q0 q1 q2 q3 q4 q5 q6 q7
          exact eMv C0 hP hS rfl dX5_readSaying_106
def fX5_readShip (F : Nat) (tp : Nat → Int32) (it : Nat → Int32) (td : Int32) (bg : Int32) (en : Int32) (so : Int32) (va : Int32) (iw : Int32) (im : Int32) (ht : Int32) : Option ((Nat → Int32) × Int32 × Int32 × Int32 × Int32 × Int32 × Int32 × Int32) := (if 6 ≤ ht then Option.bind (fX5_must F tp td bg en so va iw 0) (fun z_2 => Option.bind (fX5_takesWord F tp td z_2.1 z_2.2.1 z_2.2.2.1 z_2.2.2.2.1 z_2.2.2.2.2 9) (fun z_4 => (if z_4.1 = 0 then Option.bind (fX5_takesWord F tp td z_4.2.1 z_4.2.2.1 z_4.2.2.2.1 z_4.2.2.2.2.1 z_4.2.2.2.2.2 12) (fun z_7 => (if z_7.1 = 0 then Option.bind (fX5_takesWord F tp td z_7.2.1 z_7.2.2.1 z_7.2.2.2.1 z_7.2.2.2.2.1 z_7.2.2.2.2.2 13) (fun z_10 => (if z_10.1 = 0 then Option.bind (fX5_addItem it im 10 0 30 2 0) (fun z_13 => some (z_13.1, z_10.2.1, z_10.2.2.1, z_10.2.2.2.1, z_10.2.2.2.2.1, z_10.2.2.2.2.2, z_13.2, ht + 1)) else Option.bind (fX5_number F tp td z_10.2.1 z_10.2.2.1 z_10.2.2.2.1 z_10.2.2.2.2.1 z_10.2.2.2.2.2 1 5) (fun z_15 => Option.bind (fX5_addItem it im 10 0 30 z_15.1 0) (fun z_17 => some (z_17.1, z_15.2.1, z_15.2.2.1, z_15.2.2.2.1, z_15.2.2.2.2.1, z_15.2.2.2.2.2, z_17.2, ht + 1))))) else Option.bind (fX5_number F tp td z_7.2.1 z_7.2.2.1 z_7.2.2.2.1 z_7.2.2.2.2.1 z_7.2.2.2.2.2 0 99) (fun z_19 => Option.bind (fX5_takesWord F tp td z_19.2.1 z_19.2.2.1 z_19.2.2.2.1 z_19.2.2.2.2.1 z_19.2.2.2.2.2 13) (fun z_21 => (if z_21.1 = 0 then Option.bind (fX5_addItem it im 10 0 z_19.1 2 0) (fun z_24 => some (z_24.1, z_21.2.1, z_21.2.2.1, z_21.2.2.2.1, z_21.2.2.2.2.1, z_21.2.2.2.2.2, z_24.2, ht + 1)) else Option.bind (fX5_number F tp td z_21.2.1 z_21.2.2.1 z_21.2.2.2.1 z_21.2.2.2.2.1 z_21.2.2.2.2.2 1 5) (fun z_26 => Option.bind (fX5_addItem it im 10 0 z_19.1 z_26.1 0) (fun z_28 => some (z_28.1, z_26.2.1, z_26.2.2.1, z_26.2.2.2.1, z_26.2.2.2.2.1, z_26.2.2.2.2.2, z_28.2, ht + 1)))))))) else Option.bind (fX5_number F tp td z_4.2.1 z_4.2.2.1 z_4.2.2.2.1 z_4.2.2.2.2.1 z_4.2.2.2.2.2 0 15) (fun z_30 => Option.bind (fX5_takesWord F tp td z_30.2.1 z_30.2.2.1 z_30.2.2.2.1 z_30.2.2.2.2.1 z_30.2.2.2.2.2 12) (fun z_32 => (if z_32.1 = 0 then Option.bind (fX5_takesWord F tp td z_32.2.1 z_32.2.2.1 z_32.2.2.2.1 z_32.2.2.2.2.1 z_32.2.2.2.2.2 13) (fun z_35 => (if z_35.1 = 0 then Option.bind (fX5_addItem it im 10 z_30.1 30 2 0) (fun z_38 => some (z_38.1, z_35.2.1, z_35.2.2.1, z_35.2.2.2.1, z_35.2.2.2.2.1, z_35.2.2.2.2.2, z_38.2, ht + 1)) else Option.bind (fX5_number F tp td z_35.2.1 z_35.2.2.1 z_35.2.2.2.1 z_35.2.2.2.2.1 z_35.2.2.2.2.2 1 5) (fun z_40 => Option.bind (fX5_addItem it im 10 z_30.1 30 z_40.1 0) (fun z_42 => some (z_42.1, z_40.2.1, z_40.2.2.1, z_40.2.2.2.1, z_40.2.2.2.2.1, z_40.2.2.2.2.2, z_42.2, ht + 1))))) else Option.bind (fX5_number F tp td z_32.2.1 z_32.2.2.1 z_32.2.2.2.1 z_32.2.2.2.2.1 z_32.2.2.2.2.2 0 99) (fun z_44 => Option.bind (fX5_takesWord F tp td z_44.2.1 z_44.2.2.1 z_44.2.2.2.1 z_44.2.2.2.2.1 z_44.2.2.2.2.2 13) (fun z_46 => (if z_46.1 = 0 then Option.bind (fX5_addItem it im 10 z_30.1 z_44.1 2 0) (fun z_49 => some (z_49.1, z_46.2.1, z_46.2.2.1, z_46.2.2.2.1, z_46.2.2.2.2.1, z_46.2.2.2.2.2, z_49.2, ht + 1)) else Option.bind (fX5_number F tp td z_46.2.1 z_46.2.2.1 z_46.2.2.2.1 z_46.2.2.2.2.1 z_46.2.2.2.2.2 1 5) (fun z_51 => Option.bind (fX5_addItem it im 10 z_30.1 z_44.1 z_51.1 0) (fun z_53 => some (z_53.1, z_51.2.1, z_51.2.2.1, z_51.2.2.2.1, z_51.2.2.2.2.1, z_51.2.2.2.2.2, z_53.2, ht + 1)))))))))))) else Option.bind (fX5_must F tp td bg en so va iw 1) (fun z_55 => Option.bind (fX5_takesWord F tp td z_55.1 z_55.2.1 z_55.2.2.1 z_55.2.2.2.1 z_55.2.2.2.2 9) (fun z_57 => (if z_57.1 = 0 then Option.bind (fX5_takesWord F tp td z_57.2.1 z_57.2.2.1 z_57.2.2.2.1 z_57.2.2.2.2.1 z_57.2.2.2.2.2 12) (fun z_60 => (if z_60.1 = 0 then Option.bind (fX5_takesWord F tp td z_60.2.1 z_60.2.2.1 z_60.2.2.2.1 z_60.2.2.2.2.1 z_60.2.2.2.2.2 13) (fun z_63 => (if z_63.1 = 0 then Option.bind (fX5_addItem it im 10 0 30 2 0) (fun z_66 => some (z_66.1, z_63.2.1, z_63.2.2.1, z_63.2.2.2.1, z_63.2.2.2.2.1, z_63.2.2.2.2.2, z_66.2, ht + 1)) else Option.bind (fX5_number F tp td z_63.2.1 z_63.2.2.1 z_63.2.2.2.1 z_63.2.2.2.2.1 z_63.2.2.2.2.2 1 5) (fun z_68 => Option.bind (fX5_addItem it im 10 0 30 z_68.1 0) (fun z_70 => some (z_70.1, z_68.2.1, z_68.2.2.1, z_68.2.2.2.1, z_68.2.2.2.2.1, z_68.2.2.2.2.2, z_70.2, ht + 1))))) else Option.bind (fX5_number F tp td z_60.2.1 z_60.2.2.1 z_60.2.2.2.1 z_60.2.2.2.2.1 z_60.2.2.2.2.2 0 99) (fun z_72 => Option.bind (fX5_takesWord F tp td z_72.2.1 z_72.2.2.1 z_72.2.2.2.1 z_72.2.2.2.2.1 z_72.2.2.2.2.2 13) (fun z_74 => (if z_74.1 = 0 then Option.bind (fX5_addItem it im 10 0 z_72.1 2 0) (fun z_77 => some (z_77.1, z_74.2.1, z_74.2.2.1, z_74.2.2.2.1, z_74.2.2.2.2.1, z_74.2.2.2.2.2, z_77.2, ht + 1)) else Option.bind (fX5_number F tp td z_74.2.1 z_74.2.2.1 z_74.2.2.2.1 z_74.2.2.2.2.1 z_74.2.2.2.2.2 1 5) (fun z_79 => Option.bind (fX5_addItem it im 10 0 z_72.1 z_79.1 0) (fun z_81 => some (z_81.1, z_79.2.1, z_79.2.2.1, z_79.2.2.2.1, z_79.2.2.2.2.1, z_79.2.2.2.2.2, z_81.2, ht + 1)))))))) else Option.bind (fX5_number F tp td z_57.2.1 z_57.2.2.1 z_57.2.2.2.1 z_57.2.2.2.2.1 z_57.2.2.2.2.2 0 15) (fun z_83 => Option.bind (fX5_takesWord F tp td z_83.2.1 z_83.2.2.1 z_83.2.2.2.1 z_83.2.2.2.2.1 z_83.2.2.2.2.2 12) (fun z_85 => (if z_85.1 = 0 then Option.bind (fX5_takesWord F tp td z_85.2.1 z_85.2.2.1 z_85.2.2.2.1 z_85.2.2.2.2.1 z_85.2.2.2.2.2 13) (fun z_88 => (if z_88.1 = 0 then Option.bind (fX5_addItem it im 10 z_83.1 30 2 0) (fun z_91 => some (z_91.1, z_88.2.1, z_88.2.2.1, z_88.2.2.2.1, z_88.2.2.2.2.1, z_88.2.2.2.2.2, z_91.2, ht + 1)) else Option.bind (fX5_number F tp td z_88.2.1 z_88.2.2.1 z_88.2.2.2.1 z_88.2.2.2.2.1 z_88.2.2.2.2.2 1 5) (fun z_93 => Option.bind (fX5_addItem it im 10 z_83.1 30 z_93.1 0) (fun z_95 => some (z_95.1, z_93.2.1, z_93.2.2.1, z_93.2.2.2.1, z_93.2.2.2.2.1, z_93.2.2.2.2.2, z_95.2, ht + 1))))) else Option.bind (fX5_number F tp td z_85.2.1 z_85.2.2.1 z_85.2.2.2.1 z_85.2.2.2.2.1 z_85.2.2.2.2.2 0 99) (fun z_97 => Option.bind (fX5_takesWord F tp td z_97.2.1 z_97.2.2.1 z_97.2.2.2.1 z_97.2.2.2.2.1 z_97.2.2.2.2.2 13) (fun z_99 => (if z_99.1 = 0 then Option.bind (fX5_addItem it im 10 z_83.1 z_97.1 2 0) (fun z_102 => some (z_102.1, z_99.2.1, z_99.2.2.1, z_99.2.2.2.1, z_99.2.2.2.2.1, z_99.2.2.2.2.2, z_102.2, ht + 1)) else Option.bind (fX5_number F tp td z_99.2.1 z_99.2.2.1 z_99.2.2.2.1 z_99.2.2.2.2.1 z_99.2.2.2.2.2 1 5) (fun z_104 => Option.bind (fX5_addItem it im 10 z_83.1 z_97.1 z_104.1 0) (fun z_106 => some (z_106.1, z_104.2.1, z_104.2.2.1, z_104.2.2.2.1, z_104.2.2.2.2.1, z_104.2.2.2.2.2, z_106.2, ht + 1)))))))))))))
abbrev rmX5_readShip : Room := { frames := 6, cells := 0, slots := 0, locals := 130 }
theorem pdX5_readShip : (yX5_readShip.cls = RX5 ∧ yX5_readShip.cls ≠ "java/lang/invoke/MethodHandle" ∧ yX5_readShip.cls ≠ "java/lang/invoke/VarHandle" ∧ (parseMethodDescriptor yX5_readShip.desc).map (fun d => d.parameters.length) = some 0) := by decide +kernel
set_option maxHeartbeats 4000000 in
set_option maxRecDepth 100000 in
theorem tX5_readShip (l : Launch) (D : va_G) (cI cS : ClassId) (cs : CSt) (F : Nat) (a0 a1 a2 a3 a4 a5 a6 a7 a8 a9 a10 a11 : Nat) (nw : Nat → Int32) (kp : Nat → Int32) (ad : Nat → Int32) (fd : Nat → Int32) (tp : Nat → Int32) (kn : Nat → Option Nat) (it : Nat → Int32) (wd : Nat → Int32) (sz : Nat → Int32) (nm : Nat → Int32) (mv : Nat → Int32) (ik : Int32) (td : Int32) (bg : Int32) (en : Int32) (so : Int32) (va : Int32) (iw : Int32) (im : Int32) (st : Int32) (ht : Int32) (z0 : Nat → Int32) (z1 : Int32) (z2 : Int32) (z3 : Int32) (z4 : Int32) (z5 : Int32) (z6 : Int32) (z7 : Int32) (h : fX5_readShip F tp it td bg en so va iw im ht = some (z0, z1, z2, z3, z4, z5, z6, z7)) (hD0 : va_D (fun _ => True) (wX5 cI cS a0 a1 a2 a3 a4 a5 a6 a7 a8 a9 a10 a11 nw kp ad fd tp kn it wd sz nm mv ik td bg en so va iw im st ht)) : Met l yX5_readShip wsX5_readShip rmX5_readShip (PZ D cI cS [.ref a0] (fun U => va_P D vwCl (wX5 cI cS a0 a1 a2 a3 a4 a5 a6 a7 a8 a9 a10 a11 nw kp ad fd tp kn it wd sz nm mv ik td bg en so va iw im st ht) U.heap ∧ CST cs (wA (wX5 cI cS a0 a1 a2 a3 a4 a5 a6 a7 a8 a9 a10 a11 nw kp ad fd tp kn it wd sz nm mv ik td bg en so va iw im st ht)) U U.heap)) (qV D (wX5 cI cS a0 a1 a2 a3 a4 a5 a6 a7 a8 a9 a10 a11 nw kp ad fd tp kn it wd sz nm mv ik td bg en so va iw im st ht) (wX5 cI cS a0 a1 a2 a3 a4 a5 a6 a7 a8 a9 a10 a11 nw kp ad fd tp kn z0 wd sz nm mv ik td z1 z2 z3 z4 z5 z6 st z7)) 0 0 (wA (wX5 cI cS a0 a1 a2 a3 a4 a5 a6 a7 a8 a9 a10 a11 nw kp ad fd tp kn it wd sz nm mv ik td bg en so va iw im st ht)) := by
  refine Met.mk RX5 (by decide) rfl rfl (Nat.le_of_ble_eq_true rfl) ?_
  intro p e s m below meth c ls C0 hP hl
  obtain ⟨hP, hCS⟩ := hP
  have hl : lv_has ls 3 [(0, .ref a0)] := hl
  obtain ⟨hx, hb, hr, hml, hown, hts, hlk, hE⟩ := id C0
  have hinX5 : ∀ w ∈ u_ws RX5 TX5 21, w ∈ wsX5_readShip := by decide +kernel
  have hD : ∀ W : va_W, W.map Prod.fst = [a0, a1, a2, a3, a4, a5, a6, a7, a8, a9, a10, a11] → va_D (wA (wX5 cI cS a0 a1 a2 a3 a4 a5 a6 a7 a8 a9 a10 a11 nw kp ad fd tp kn it wd sz nm mv ik td bg en so va iw im st ht)) W := fun W hW => hD0.own.re hW
  have hS : va_S (wA (wX5 cI cS a0 a1 a2 a3 a4 a5 a6 a7 a8 a9 a10 a11 nw kp ad fd tp kn it wd sz nm mv ik td bg en so va iw im st ht)) s.heap s.heap [] := va_S.rf
  have hP : va_P D vwCl (wX5 cI cS a0 a1 a2 a3 a4 a5 a6 a7 a8 a9 a10 a11 nw kp ad fd tp kn it wd sz nm mv ik td bg en so va iw im st ht) s.heap := hP
  rw [fX5_readShip] at h
  refine lv_aload_n hx hb dX5_readShip_0 rfl (lv_at hl 0 rfl) ?_
  refine lv_aload_n hx hb dX5_readShip_1 rfl (lv_at hl 0 rfl) ?_
  refine va_get (D := D) (ci := 4) (v := .int ht) (C := RX5) (T := TX5) (N := 21) hx hb hts hinX5 hown hE.1 hP 0 rfl rfl 16 (by decide) (hts _ (List.mem_of_getElem? (i := 1) rfl)) (fun _ h9 => h9) rfl dX5_readShip_2 ?_
  refine lv_bipush (v := 6) hx hb dX5_readShip_5 (by decide) ?_
  refine lv_icmp_ge (tgt := 14) hx hb dX5_readShip_7 (by decide) (fun c_1 => ?_) (fun c_1 => ?_)
  · have h := ifp c_1 h
    refine lv_iconst (v := 0) hx hb dX5_readShip_14 (by decide) ?_
    obtain ⟨z_2, e_3, h⟩ := bds h
    have hPc := hP.sub (ws' := (wX5 cI cS a0 a1 a2 a3 a4 a5 a6 a7 a8 a9 a10 a11 nw kp ad fd tp kn it wd sz nm mv ik td bg en so va iw im st ht)) [0, 1, 2, 3, 4, 5, 6, 7, 8, 9, 10, 11] rfl
    refine kMv (wf' := (wX5 cI cS a0 a1 a2 a3 a4 a5 a6 a7 a8 a9 a10 a11 nw kp ad fd tp kn it wd sz nm mv ik td z_2.1 z_2.2.1 z_2.2.2.1 z_2.2.2.2.1 z_2.2.2.2.2 im st ht)) [0, 1, 2, 3, 4, 5, 6, 7, 8, 9, 10, 11] [some 0, some 1, some 2, some 3, some 4, some 5, some 6, some 7, some 8, some 9, some 10, some 11] (rV C0 (tX5_must l D cI cS F a0 a1 a2 a3 a4 a5 a6 a7 a8 a9 a10 a11 nw kp ad fd tp kn it wd sz nm mv ik td bg en so va iw im st ht 0 z_2.1 z_2.2.1 z_2.2.2.1 z_2.2.2.2.1 z_2.2.2.2.2 e_3 (((hD (wX5 cI cS a0 a1 a2 a3 a4 a5 a6 a7 a8 a9 a10 a11 nw kp ad fd tp kn it wd sz nm mv ik td bg en so va iw im st ht) rfl).sub [0, 1, 2, 3, 4, 5, 6, 7, 8, 9, 10, 11] (by decide) rfl).weaken (fun _ _ _ _ => trivial))) RX5 gX5_readShip_X5_must rfl ⟨rfl, rfl⟩ pdX5_must rfl ⟨Nat.le_of_ble_eq_true rfl, Nat.le_of_ble_eq_true rfl⟩ (fun _ _ _ _ q => q) (va_recv hE.1 hPc (ci := 4) (q0 := 0) rfl rfl) (fun U hU _ _ => by rw [hU]; exact hPc) hl.1 rfl (Nat.le_of_ble_eq_true rfl) dX5_readShip_15 ⟨Nat.zero_le _, Nat.zero_le _⟩) hP (hD _ rfl) hS rfl rfl rfl (fun H locs hP hS => ?_)
    refine lv_aload_n hx hb dX5_readShip_18 rfl (lv_at hl 0 rfl) ?_
    refine ldwS hx hb hown (show vk_R RX5 303 "at" (cs.1 9) s from hCS.2.2.2.1 ("VaguePortModel", 303, "at", 9) (List.mem_of_getElem? (i := 16) rfl)) dX5_readShip_19 ?_
    obtain ⟨z_4, e_5, h⟩ := bds h
    have hPc := hP.sub (ws' := (wX5 cI cS a0 a1 a2 a3 a4 a5 a6 a7 a8 a9 a10 a11 nw kp ad fd tp kn it wd sz nm mv ik td z_2.1 z_2.2.1 z_2.2.2.1 z_2.2.2.2.1 z_2.2.2.2.2 im st ht)) [0, 1, 2, 3, 4, 5, 6, 7, 8, 9, 10, 11] rfl
    refine kMi (wf' := (wX5 cI cS a0 a1 a2 a3 a4 a5 a6 a7 a8 a9 a10 a11 nw kp ad fd tp kn it wd sz nm mv ik td z_4.2.1 z_4.2.2.1 z_4.2.2.2.1 z_4.2.2.2.2.1 z_4.2.2.2.2.2 im st ht)) [0, 1, 2, 3, 4, 5, 6, 7, 8, 9, 10, 11] [some 0, some 1, some 2, some 3, some 4, some 5, some 6, some 7, some 8, some 9, some 10, some 11] (rV C0 (tX5_takesWord l D cI cS cs F a0 a1 a2 a3 a4 a5 a6 a7 a8 a9 a10 a11 nw kp ad fd tp kn it wd sz nm mv ik td z_2.1 z_2.2.1 z_2.2.2.1 z_2.2.2.2.1 z_2.2.2.2.2 im st ht 9 z_4.1 z_4.2.1 z_4.2.2.1 z_4.2.2.2.1 z_4.2.2.2.2.1 z_4.2.2.2.2.2 e_5 (by decide) (((hD (wX5 cI cS a0 a1 a2 a3 a4 a5 a6 a7 a8 a9 a10 a11 nw kp ad fd tp kn it wd sz nm mv ik td z_2.1 z_2.2.1 z_2.2.2.1 z_2.2.2.2.1 z_2.2.2.2.2 im st ht) rfl).sub [0, 1, 2, 3, 4, 5, 6, 7, 8, 9, 10, 11] (by decide) rfl).weaken (fun _ _ _ _ => trivial))) RX5 gX5_readShip_X5_takesWord rfl ⟨rfl, rfl⟩ pdX5_takesWord rfl ⟨Nat.le_of_ble_eq_true rfl, Nat.le_of_ble_eq_true rfl⟩ (fun _ _ _ _ q => ⟨q.1, q.2.call⟩) (va_recv hE.1 hPc (ci := 4) (q0 := 0) rfl rfl) (fun U hU hW _ => ⟨by rw [hU]; exact hPc, by rw [hU]; exact ((hCS.kept hS.2.1).narrow (fun q h => va_D.inA (hD (wX5 cI cS a0 a1 a2 a3 a4 a5 a6 a7 a8 a9 a10 a11 nw kp ad fd tp kn it wd sz nm mv ik td z_2.1 z_2.2.1 z_2.2.2.1 z_2.2.2.2.1 z_2.2.2.2.2 im st ht) rfl) [0, 1, 2, 3, 4, 5, 6, 7, 8, 9, 10, 11] rfl h)).warm hW⟩) hl.1 rfl (Nat.le_of_ble_eq_true rfl) dX5_readShip_22 ⟨Nat.zero_le _, Nat.zero_le _⟩) hP (hD _ rfl) hS rfl rfl rfl (fun H locs hP hS => ?_)
    refine lv_if_eq (tgt := 38) hx hb dX5_readShip_25 (by decide) (fun c_6 => ?_) (fun c_6 => ?_)
    · have h := ifp c_6 h
      refine lv_iconst (v := 0) hx hb dX5_readShip_38 (by decide) ?_
      refine lv_istore_n (lv' := [(1, .int 0), (0, .ref a0)]) hx hb dX5_readShip_39 rfl hl (by decide) rfl (fun ls hl => ?_)
      refine lv_aload_n hx hb dX5_readShip_40 rfl (lv_at hl 1 rfl) ?_
      refine ldwS hx hb hown (show vk_R RX5 319 "sees" (cs.1 12) s from hCS.2.2.2.1 ("VaguePortModel", 319, "sees", 12) (List.mem_of_getElem? (i := 20) rfl)) dX5_readShip_41 ?_
      obtain ⟨z_7, e_8, h⟩ := bds h
      have hPc := hP.sub (ws' := (wX5 cI cS a0 a1 a2 a3 a4 a5 a6 a7 a8 a9 a10 a11 nw kp ad fd tp kn it wd sz nm mv ik td z_4.2.1 z_4.2.2.1 z_4.2.2.2.1 z_4.2.2.2.2.1 z_4.2.2.2.2.2 im st ht)) [0, 1, 2, 3, 4, 5, 6, 7, 8, 9, 10, 11] rfl
      refine kMi (wf' := (wX5 cI cS a0 a1 a2 a3 a4 a5 a6 a7 a8 a9 a10 a11 nw kp ad fd tp kn it wd sz nm mv ik td z_7.2.1 z_7.2.2.1 z_7.2.2.2.1 z_7.2.2.2.2.1 z_7.2.2.2.2.2 im st ht)) [0, 1, 2, 3, 4, 5, 6, 7, 8, 9, 10, 11] [some 0, some 1, some 2, some 3, some 4, some 5, some 6, some 7, some 8, some 9, some 10, some 11] (rV C0 (tX5_takesWord l D cI cS cs F a0 a1 a2 a3 a4 a5 a6 a7 a8 a9 a10 a11 nw kp ad fd tp kn it wd sz nm mv ik td z_4.2.1 z_4.2.2.1 z_4.2.2.2.1 z_4.2.2.2.2.1 z_4.2.2.2.2.2 im st ht 12 z_7.1 z_7.2.1 z_7.2.2.1 z_7.2.2.2.1 z_7.2.2.2.2.1 z_7.2.2.2.2.2 e_8 (by decide) (((hD (wX5 cI cS a0 a1 a2 a3 a4 a5 a6 a7 a8 a9 a10 a11 nw kp ad fd tp kn it wd sz nm mv ik td z_4.2.1 z_4.2.2.1 z_4.2.2.2.1 z_4.2.2.2.2.1 z_4.2.2.2.2.2 im st ht) rfl).sub [0, 1, 2, 3, 4, 5, 6, 7, 8, 9, 10, 11] (by decide) rfl).weaken (fun _ _ _ _ => trivial))) RX5 gX5_readShip_X5_takesWord rfl ⟨rfl, rfl⟩ pdX5_takesWord rfl ⟨Nat.le_of_ble_eq_true rfl, Nat.le_of_ble_eq_true rfl⟩ (fun _ _ _ _ q => ⟨q.1, q.2.call⟩) (va_recv hE.1 hPc (ci := 4) (q0 := 0) rfl rfl) (fun U hU hW _ => ⟨by rw [hU]; exact hPc, by rw [hU]; exact ((hCS.kept hS.2.1).narrow (fun q h => va_D.inA (hD (wX5 cI cS a0 a1 a2 a3 a4 a5 a6 a7 a8 a9 a10 a11 nw kp ad fd tp kn it wd sz nm mv ik td z_4.2.1 z_4.2.2.1 z_4.2.2.2.1 z_4.2.2.2.2.1 z_4.2.2.2.2.2 im st ht) rfl) [0, 1, 2, 3, 4, 5, 6, 7, 8, 9, 10, 11] rfl h)).warm hW⟩) hl.1 rfl (Nat.le_of_ble_eq_true rfl) dX5_readShip_44 ⟨Nat.zero_le _, Nat.zero_le _⟩) hP (hD _ rfl) hS rfl rfl rfl (fun H locs hP hS => ?_)
      refine lv_if_eq (tgt := 60) hx hb dX5_readShip_47 (by decide) (fun c_9 => ?_) (fun c_9 => ?_)
      · have h := ifp c_9 h
        refine lv_bipush (v := 30) hx hb dX5_readShip_60 (by decide) ?_
        refine lv_istore_n (lv' := [(2, .int 30), (1, .int 0), (0, .ref a0)]) hx hb dX5_readShip_62 rfl hl (by decide) rfl (fun ls hl => ?_)
        refine lv_aload_n hx hb dX5_readShip_63 rfl (lv_at hl 2 rfl) ?_
        refine lv_bipush (v := 10) hx hb dX5_readShip_64 (by decide) ?_
        refine lv_iload_n hx hb dX5_readShip_66 rfl (lv_at hl 1 rfl) ?_
        refine lv_iload_n hx hb dX5_readShip_67 rfl (lv_at hl 0 rfl) ?_
        refine lv_aload_n hx hb dX5_readShip_68 rfl (lv_at hl 2 rfl) ?_
        refine ldwS hx hb hown (show vk_R RX5 321 "fast" (cs.1 13) s from hCS.2.2.2.1 ("VaguePortModel", 321, "fast", 13) (List.mem_of_getElem? (i := 21) rfl)) dX5_readShip_69 ?_
        obtain ⟨z_10, e_11, h⟩ := bds h
        have hPc := hP.sub (ws' := (wX5 cI cS a0 a1 a2 a3 a4 a5 a6 a7 a8 a9 a10 a11 nw kp ad fd tp kn it wd sz nm mv ik td z_7.2.1 z_7.2.2.1 z_7.2.2.2.1 z_7.2.2.2.2.1 z_7.2.2.2.2.2 im st ht)) [0, 1, 2, 3, 4, 5, 6, 7, 8, 9, 10, 11] rfl
        refine kMi (wf' := (wX5 cI cS a0 a1 a2 a3 a4 a5 a6 a7 a8 a9 a10 a11 nw kp ad fd tp kn it wd sz nm mv ik td z_10.2.1 z_10.2.2.1 z_10.2.2.2.1 z_10.2.2.2.2.1 z_10.2.2.2.2.2 im st ht)) [0, 1, 2, 3, 4, 5, 6, 7, 8, 9, 10, 11] [some 0, some 1, some 2, some 3, some 4, some 5, some 6, some 7, some 8, some 9, some 10, some 11] (rV C0 (tX5_takesWord l D cI cS cs F a0 a1 a2 a3 a4 a5 a6 a7 a8 a9 a10 a11 nw kp ad fd tp kn it wd sz nm mv ik td z_7.2.1 z_7.2.2.1 z_7.2.2.2.1 z_7.2.2.2.2.1 z_7.2.2.2.2.2 im st ht 13 z_10.1 z_10.2.1 z_10.2.2.1 z_10.2.2.2.1 z_10.2.2.2.2.1 z_10.2.2.2.2.2 e_11 (by decide) (((hD (wX5 cI cS a0 a1 a2 a3 a4 a5 a6 a7 a8 a9 a10 a11 nw kp ad fd tp kn it wd sz nm mv ik td z_7.2.1 z_7.2.2.1 z_7.2.2.2.1 z_7.2.2.2.2.1 z_7.2.2.2.2.2 im st ht) rfl).sub [0, 1, 2, 3, 4, 5, 6, 7, 8, 9, 10, 11] (by decide) rfl).weaken (fun _ _ _ _ => trivial))) RX5 gX5_readShip_X5_takesWord rfl ⟨rfl, rfl⟩ pdX5_takesWord rfl ⟨Nat.le_of_ble_eq_true rfl, Nat.le_of_ble_eq_true rfl⟩ (fun _ _ _ _ q => ⟨q.1, q.2.call⟩) (va_recv hE.1 hPc (ci := 4) (q0 := 0) rfl rfl) (fun U hU hW _ => ⟨by rw [hU]; exact hPc, by rw [hU]; exact ((hCS.kept hS.2.1).narrow (fun q h => va_D.inA (hD (wX5 cI cS a0 a1 a2 a3 a4 a5 a6 a7 a8 a9 a10 a11 nw kp ad fd tp kn it wd sz nm mv ik td z_7.2.1 z_7.2.2.1 z_7.2.2.2.1 z_7.2.2.2.2.1 z_7.2.2.2.2.2 im st ht) rfl) [0, 1, 2, 3, 4, 5, 6, 7, 8, 9, 10, 11] rfl h)).warm hW⟩) hl.1 rfl (Nat.le_of_ble_eq_true rfl) dX5_readShip_72 ⟨Nat.zero_le _, Nat.zero_le _⟩) hP (hD _ rfl) hS rfl rfl rfl (fun H locs hP hS => ?_)
        refine lv_if_eq (tgt := 87) hx hb dX5_readShip_75 (by decide) (fun c_12 => ?_) (fun c_12 => ?_)
        · have h := ifp c_12 h
          refine lv_iconst (v := 2) hx hb dX5_readShip_87 (by decide) ?_
          refine lv_iconst (v := 0) hx hb dX5_readShip_88 (by decide) ?_
          obtain ⟨z_13, e_14, h⟩ := bds h
          have hPc := hP.sub (ws' := (wX5 cI cS a0 a1 a2 a3 a4 a5 a6 a7 a8 a9 a10 a11 nw kp ad fd tp kn it wd sz nm mv ik td z_10.2.1 z_10.2.2.1 z_10.2.2.2.1 z_10.2.2.2.2.1 z_10.2.2.2.2.2 im st ht)) [0, 1, 2, 3, 4, 5, 6, 7, 8, 9, 10, 11] rfl
          refine kMv (wf' := (wX5 cI cS a0 a1 a2 a3 a4 a5 a6 a7 a8 a9 a10 a11 nw kp ad fd tp kn z_13.1 wd sz nm mv ik td z_10.2.1 z_10.2.2.1 z_10.2.2.2.1 z_10.2.2.2.2.1 z_10.2.2.2.2.2 z_13.2 st ht)) [0, 1, 2, 3, 4, 5, 6, 7, 8, 9, 10, 11] [some 0, some 1, some 2, some 3, some 4, some 5, some 6, some 7, some 8, some 9, some 10, some 11] (rV C0 (tX5_addItem l D cI cS a0 a1 a2 a3 a4 a5 a6 a7 a8 a9 a10 a11 nw kp ad fd tp kn it wd sz nm mv ik td z_10.2.1 z_10.2.2.1 z_10.2.2.2.1 z_10.2.2.2.2.1 z_10.2.2.2.2.2 im st ht 10 0 30 2 0 z_13.1 z_13.2 e_14 (((hD (wX5 cI cS a0 a1 a2 a3 a4 a5 a6 a7 a8 a9 a10 a11 nw kp ad fd tp kn it wd sz nm mv ik td z_10.2.1 z_10.2.2.1 z_10.2.2.2.1 z_10.2.2.2.2.1 z_10.2.2.2.2.2 im st ht) rfl).sub [0, 1, 2, 3, 4, 5, 6, 7, 8, 9, 10, 11] (by decide) rfl).weaken (fun _ _ _ _ => trivial))) RX5 gX5_readShip_X5_addItem rfl ⟨rfl, rfl⟩ pdX5_addItem rfl ⟨Nat.le_of_ble_eq_true rfl, Nat.le_of_ble_eq_true rfl⟩ (fun _ _ _ _ q => q) (va_recv hE.1 hPc (ci := 4) (q0 := 0) rfl rfl) (fun U hU _ _ => by rw [hU]; exact hPc) hl.1 rfl (Nat.le_of_ble_eq_true rfl) dX5_readShip_89 ⟨Nat.zero_le _, Nat.zero_le _⟩) hP (hD _ rfl) hS rfl rfl rfl (fun H locs hP hS => ?_)
          refine lv_aload_n hx hb dX5_readShip_92 rfl (lv_at hl 2 rfl) ?_
          refine lv_dup hx hb dX5_readShip_93 rfl ?_
          refine va_get (D := D) (ci := 4) (v := .int ht) (C := RX5) (T := TX5) (N := 21) hx hb hts hinX5 hown hE.1 hP 0 rfl rfl 16 (by decide) (hts _ (List.mem_of_getElem? (i := 1) rfl)) (fun _ h9 => h9) rfl dX5_readShip_94 ?_
          refine lv_iconst (v := 1) hx hb dX5_readShip_97 (by decide) ?_
          refine lv_iadd hx hb dX5_readShip_98 ?_
          refine va_put (D := D) (ci := 4) (v := .int (ht + 1)) (ty := .int) (C := RX5) (T := TX5) (N := 21) hx hb hts hinX5 tyX5 tyX5_ok nmX5 hown hE.1 hP (hD _ rfl) hS 0 rfl rfl 16 (by decide) (hts _ (List.mem_of_getElem? (i := 1) rfl)) (fun _ h9 => h9) rfl (by decide +kernel) rfl rfl (Nat.le_of_ble_eq_true rfl) dX5_readShip_99 (fun H locs hP _ hS => ?_)
          have hP : va_P D vwCl (wX5 cI cS a0 a1 a2 a3 a4 a5 a6 a7 a8 a9 a10 a11 nw kp ad fd tp kn z_13.1 wd sz nm mv ik td z_10.2.1 z_10.2.2.1 z_10.2.2.2.1 z_10.2.2.2.2.1 z_10.2.2.2.2.2 z_13.2 st (ht + 1)) H := hP
          obtain ⟨q0, g0⟩ := Prod.mk.inj (Option.some.inj h)
          obtain ⟨q1, g1⟩ := Prod.mk.inj g0
          obtain ⟨q2, g2⟩ := Prod.mk.inj g1
          obtain ⟨q3, g3⟩ := Prod.mk.inj g2
          obtain ⟨q4, g4⟩ := Prod.mk.inj g3
          obtain ⟨q5, g5⟩ := Prod.mk.inj g4
          obtain ⟨q6, q7⟩ := Prod.mk.inj g5
          subst q0 q1 q2 q3 q4 q5 q6 q7
          exact eMv C0 hP hS rfl dX5_readShip_102
        · have h := ifn c_12 h
          refine lv_aload_n hx hb dX5_readShip_78 rfl (lv_at hl 2 rfl) ?_
          refine lv_iconst (v := 1) hx hb dX5_readShip_79 (by decide) ?_
          refine lv_iconst (v := 5) hx hb dX5_readShip_80 (by decide) ?_
          obtain ⟨z_15, e_16, h⟩ := bds h
          have hPc := hP.sub (ws' := (wX5 cI cS a0 a1 a2 a3 a4 a5 a6 a7 a8 a9 a10 a11 nw kp ad fd tp kn it wd sz nm mv ik td z_10.2.1 z_10.2.2.1 z_10.2.2.2.1 z_10.2.2.2.2.1 z_10.2.2.2.2.2 im st ht)) [0, 1, 2, 3, 4, 5, 6, 7, 8, 9, 10, 11] rfl
          refine kMi (wf' := (wX5 cI cS a0 a1 a2 a3 a4 a5 a6 a7 a8 a9 a10 a11 nw kp ad fd tp kn it wd sz nm mv ik td z_15.2.1 z_15.2.2.1 z_15.2.2.2.1 z_15.2.2.2.2.1 z_15.2.2.2.2.2 im st ht)) [0, 1, 2, 3, 4, 5, 6, 7, 8, 9, 10, 11] [some 0, some 1, some 2, some 3, some 4, some 5, some 6, some 7, some 8, some 9, some 10, some 11] (rV C0 (tX5_number l D cI cS F a0 a1 a2 a3 a4 a5 a6 a7 a8 a9 a10 a11 nw kp ad fd tp kn it wd sz nm mv ik td z_10.2.1 z_10.2.2.1 z_10.2.2.2.1 z_10.2.2.2.2.1 z_10.2.2.2.2.2 im st ht 1 5 z_15.1 z_15.2.1 z_15.2.2.1 z_15.2.2.2.1 z_15.2.2.2.2.1 z_15.2.2.2.2.2 e_16 (((hD (wX5 cI cS a0 a1 a2 a3 a4 a5 a6 a7 a8 a9 a10 a11 nw kp ad fd tp kn it wd sz nm mv ik td z_10.2.1 z_10.2.2.1 z_10.2.2.2.1 z_10.2.2.2.2.1 z_10.2.2.2.2.2 im st ht) rfl).sub [0, 1, 2, 3, 4, 5, 6, 7, 8, 9, 10, 11] (by decide) rfl).weaken (fun _ _ _ _ => trivial))) RX5 gX5_readShip_X5_number rfl ⟨rfl, rfl⟩ pdX5_number rfl ⟨Nat.le_of_ble_eq_true rfl, Nat.le_of_ble_eq_true rfl⟩ (fun _ _ _ _ q => q) (va_recv hE.1 hPc (ci := 4) (q0 := 0) rfl rfl) (fun U hU _ _ => by rw [hU]; exact hPc) hl.1 rfl (Nat.le_of_ble_eq_true rfl) dX5_readShip_81 ⟨Nat.zero_le _, Nat.zero_le _⟩) hP (hD _ rfl) hS rfl rfl rfl (fun H locs hP hS => ?_)
          refine lv_goto (tgt := 88) hx hb dX5_readShip_84 (by decide) ?_
          refine lv_iconst (v := 0) hx hb dX5_readShip_88 (by decide) ?_
          obtain ⟨z_17, e_18, h⟩ := bds h
          have hPc := hP.sub (ws' := (wX5 cI cS a0 a1 a2 a3 a4 a5 a6 a7 a8 a9 a10 a11 nw kp ad fd tp kn it wd sz nm mv ik td z_15.2.1 z_15.2.2.1 z_15.2.2.2.1 z_15.2.2.2.2.1 z_15.2.2.2.2.2 im st ht)) [0, 1, 2, 3, 4, 5, 6, 7, 8, 9, 10, 11] rfl
          refine kMv (wf' := (wX5 cI cS a0 a1 a2 a3 a4 a5 a6 a7 a8 a9 a10 a11 nw kp ad fd tp kn z_17.1 wd sz nm mv ik td z_15.2.1 z_15.2.2.1 z_15.2.2.2.1 z_15.2.2.2.2.1 z_15.2.2.2.2.2 z_17.2 st ht)) [0, 1, 2, 3, 4, 5, 6, 7, 8, 9, 10, 11] [some 0, some 1, some 2, some 3, some 4, some 5, some 6, some 7, some 8, some 9, some 10, some 11] (rV C0 (tX5_addItem l D cI cS a0 a1 a2 a3 a4 a5 a6 a7 a8 a9 a10 a11 nw kp ad fd tp kn it wd sz nm mv ik td z_15.2.1 z_15.2.2.1 z_15.2.2.2.1 z_15.2.2.2.2.1 z_15.2.2.2.2.2 im st ht 10 0 30 z_15.1 0 z_17.1 z_17.2 e_18 (((hD (wX5 cI cS a0 a1 a2 a3 a4 a5 a6 a7 a8 a9 a10 a11 nw kp ad fd tp kn it wd sz nm mv ik td z_15.2.1 z_15.2.2.1 z_15.2.2.2.1 z_15.2.2.2.2.1 z_15.2.2.2.2.2 im st ht) rfl).sub [0, 1, 2, 3, 4, 5, 6, 7, 8, 9, 10, 11] (by decide) rfl).weaken (fun _ _ _ _ => trivial))) RX5 gX5_readShip_X5_addItem rfl ⟨rfl, rfl⟩ pdX5_addItem rfl ⟨Nat.le_of_ble_eq_true rfl, Nat.le_of_ble_eq_true rfl⟩ (fun _ _ _ _ q => q) (va_recv hE.1 hPc (ci := 4) (q0 := 0) rfl rfl) (fun U hU _ _ => by rw [hU]; exact hPc) hl.1 rfl (Nat.le_of_ble_eq_true rfl) dX5_readShip_89 ⟨Nat.zero_le _, Nat.zero_le _⟩) hP (hD _ rfl) hS rfl rfl rfl (fun H locs hP hS => ?_)
          refine lv_aload_n hx hb dX5_readShip_92 rfl (lv_at hl 2 rfl) ?_
          refine lv_dup hx hb dX5_readShip_93 rfl ?_
          refine va_get (D := D) (ci := 4) (v := .int ht) (C := RX5) (T := TX5) (N := 21) hx hb hts hinX5 hown hE.1 hP 0 rfl rfl 16 (by decide) (hts _ (List.mem_of_getElem? (i := 1) rfl)) (fun _ h9 => h9) rfl dX5_readShip_94 ?_
          refine lv_iconst (v := 1) hx hb dX5_readShip_97 (by decide) ?_
          refine lv_iadd hx hb dX5_readShip_98 ?_
          refine va_put (D := D) (ci := 4) (v := .int (ht + 1)) (ty := .int) (C := RX5) (T := TX5) (N := 21) hx hb hts hinX5 tyX5 tyX5_ok nmX5 hown hE.1 hP (hD _ rfl) hS 0 rfl rfl 16 (by decide) (hts _ (List.mem_of_getElem? (i := 1) rfl)) (fun _ h9 => h9) rfl (by decide +kernel) rfl rfl (Nat.le_of_ble_eq_true rfl) dX5_readShip_99 (fun H locs hP _ hS => ?_)
          have hP : va_P D vwCl (wX5 cI cS a0 a1 a2 a3 a4 a5 a6 a7 a8 a9 a10 a11 nw kp ad fd tp kn z_17.1 wd sz nm mv ik td z_15.2.1 z_15.2.2.1 z_15.2.2.2.1 z_15.2.2.2.2.1 z_15.2.2.2.2.2 z_17.2 st (ht + 1)) H := hP
          obtain ⟨q0, g0⟩ := Prod.mk.inj (Option.some.inj h)
          obtain ⟨q1, g1⟩ := Prod.mk.inj g0
          obtain ⟨q2, g2⟩ := Prod.mk.inj g1
          obtain ⟨q3, g3⟩ := Prod.mk.inj g2
          obtain ⟨q4, g4⟩ := Prod.mk.inj g3
          obtain ⟨q5, g5⟩ := Prod.mk.inj g4
          obtain ⟨q6, q7⟩ := Prod.mk.inj g5
          subst q0 q1 q2 q3 q4 q5 q6 q7
          exact eMv C0 hP hS rfl dX5_readShip_102
      · have h := ifn c_9 h
        refine lv_aload_n hx hb dX5_readShip_50 rfl (lv_at hl 1 rfl) ?_
        refine lv_iconst (v := 0) hx hb dX5_readShip_51 (by decide) ?_
        refine lv_bipush (v := 99) hx hb dX5_readShip_52 (by decide) ?_
        obtain ⟨z_19, e_20, h⟩ := bds h
        have hPc := hP.sub (ws' := (wX5 cI cS a0 a1 a2 a3 a4 a5 a6 a7 a8 a9 a10 a11 nw kp ad fd tp kn it wd sz nm mv ik td z_7.2.1 z_7.2.2.1 z_7.2.2.2.1 z_7.2.2.2.2.1 z_7.2.2.2.2.2 im st ht)) [0, 1, 2, 3, 4, 5, 6, 7, 8, 9, 10, 11] rfl
        refine kMi (wf' := (wX5 cI cS a0 a1 a2 a3 a4 a5 a6 a7 a8 a9 a10 a11 nw kp ad fd tp kn it wd sz nm mv ik td z_19.2.1 z_19.2.2.1 z_19.2.2.2.1 z_19.2.2.2.2.1 z_19.2.2.2.2.2 im st ht)) [0, 1, 2, 3, 4, 5, 6, 7, 8, 9, 10, 11] [some 0, some 1, some 2, some 3, some 4, some 5, some 6, some 7, some 8, some 9, some 10, some 11] (rV C0 (tX5_number l D cI cS F a0 a1 a2 a3 a4 a5 a6 a7 a8 a9 a10 a11 nw kp ad fd tp kn it wd sz nm mv ik td z_7.2.1 z_7.2.2.1 z_7.2.2.2.1 z_7.2.2.2.2.1 z_7.2.2.2.2.2 im st ht 0 99 z_19.1 z_19.2.1 z_19.2.2.1 z_19.2.2.2.1 z_19.2.2.2.2.1 z_19.2.2.2.2.2 e_20 (((hD (wX5 cI cS a0 a1 a2 a3 a4 a5 a6 a7 a8 a9 a10 a11 nw kp ad fd tp kn it wd sz nm mv ik td z_7.2.1 z_7.2.2.1 z_7.2.2.2.1 z_7.2.2.2.2.1 z_7.2.2.2.2.2 im st ht) rfl).sub [0, 1, 2, 3, 4, 5, 6, 7, 8, 9, 10, 11] (by decide) rfl).weaken (fun _ _ _ _ => trivial))) RX5 gX5_readShip_X5_number rfl ⟨rfl, rfl⟩ pdX5_number rfl ⟨Nat.le_of_ble_eq_true rfl, Nat.le_of_ble_eq_true rfl⟩ (fun _ _ _ _ q => q) (va_recv hE.1 hPc (ci := 4) (q0 := 0) rfl rfl) (fun U hU _ _ => by rw [hU]; exact hPc) hl.1 rfl (Nat.le_of_ble_eq_true rfl) dX5_readShip_54 ⟨Nat.zero_le _, Nat.zero_le _⟩) hP (hD _ rfl) hS rfl rfl rfl (fun H locs hP hS => ?_)
        refine lv_goto (tgt := 62) hx hb dX5_readShip_57 (by decide) ?_
        refine lv_istore_n (lv' := [(2, .int z_19.1), (1, .int 0), (0, .ref a0)]) hx hb dX5_readShip_62 rfl hl (by decide) rfl (fun ls hl => ?_)
        refine lv_aload_n hx hb dX5_readShip_63 rfl (lv_at hl 2 rfl) ?_
        refine lv_bipush (v := 10) hx hb dX5_readShip_64 (by decide) ?_
        refine lv_iload_n hx hb dX5_readShip_66 rfl (lv_at hl 1 rfl) ?_
        refine lv_iload_n hx hb dX5_readShip_67 rfl (lv_at hl 0 rfl) ?_
        refine lv_aload_n hx hb dX5_readShip_68 rfl (lv_at hl 2 rfl) ?_
        refine ldwS hx hb hown (show vk_R RX5 321 "fast" (cs.1 13) s from hCS.2.2.2.1 ("VaguePortModel", 321, "fast", 13) (List.mem_of_getElem? (i := 21) rfl)) dX5_readShip_69 ?_
        obtain ⟨z_21, e_22, h⟩ := bds h
        have hPc := hP.sub (ws' := (wX5 cI cS a0 a1 a2 a3 a4 a5 a6 a7 a8 a9 a10 a11 nw kp ad fd tp kn it wd sz nm mv ik td z_19.2.1 z_19.2.2.1 z_19.2.2.2.1 z_19.2.2.2.2.1 z_19.2.2.2.2.2 im st ht)) [0, 1, 2, 3, 4, 5, 6, 7, 8, 9, 10, 11] rfl
        refine kMi (wf' := (wX5 cI cS a0 a1 a2 a3 a4 a5 a6 a7 a8 a9 a10 a11 nw kp ad fd tp kn it wd sz nm mv ik td z_21.2.1 z_21.2.2.1 z_21.2.2.2.1 z_21.2.2.2.2.1 z_21.2.2.2.2.2 im st ht)) [0, 1, 2, 3, 4, 5, 6, 7, 8, 9, 10, 11] [some 0, some 1, some 2, some 3, some 4, some 5, some 6, some 7, some 8, some 9, some 10, some 11] (rV C0 (tX5_takesWord l D cI cS cs F a0 a1 a2 a3 a4 a5 a6 a7 a8 a9 a10 a11 nw kp ad fd tp kn it wd sz nm mv ik td z_19.2.1 z_19.2.2.1 z_19.2.2.2.1 z_19.2.2.2.2.1 z_19.2.2.2.2.2 im st ht 13 z_21.1 z_21.2.1 z_21.2.2.1 z_21.2.2.2.1 z_21.2.2.2.2.1 z_21.2.2.2.2.2 e_22 (by decide) (((hD (wX5 cI cS a0 a1 a2 a3 a4 a5 a6 a7 a8 a9 a10 a11 nw kp ad fd tp kn it wd sz nm mv ik td z_19.2.1 z_19.2.2.1 z_19.2.2.2.1 z_19.2.2.2.2.1 z_19.2.2.2.2.2 im st ht) rfl).sub [0, 1, 2, 3, 4, 5, 6, 7, 8, 9, 10, 11] (by decide) rfl).weaken (fun _ _ _ _ => trivial))) RX5 gX5_readShip_X5_takesWord rfl ⟨rfl, rfl⟩ pdX5_takesWord rfl ⟨Nat.le_of_ble_eq_true rfl, Nat.le_of_ble_eq_true rfl⟩ (fun _ _ _ _ q => ⟨q.1, q.2.call⟩) (va_recv hE.1 hPc (ci := 4) (q0 := 0) rfl rfl) (fun U hU hW _ => ⟨by rw [hU]; exact hPc, by rw [hU]; exact ((hCS.kept hS.2.1).narrow (fun q h => va_D.inA (hD (wX5 cI cS a0 a1 a2 a3 a4 a5 a6 a7 a8 a9 a10 a11 nw kp ad fd tp kn it wd sz nm mv ik td z_19.2.1 z_19.2.2.1 z_19.2.2.2.1 z_19.2.2.2.2.1 z_19.2.2.2.2.2 im st ht) rfl) [0, 1, 2, 3, 4, 5, 6, 7, 8, 9, 10, 11] rfl h)).warm hW⟩) hl.1 rfl (Nat.le_of_ble_eq_true rfl) dX5_readShip_72 ⟨Nat.zero_le _, Nat.zero_le _⟩) hP (hD _ rfl) hS rfl rfl rfl (fun H locs hP hS => ?_)
        refine lv_if_eq (tgt := 87) hx hb dX5_readShip_75 (by decide) (fun c_23 => ?_) (fun c_23 => ?_)
        · have h := ifp c_23 h
          refine lv_iconst (v := 2) hx hb dX5_readShip_87 (by decide) ?_
          refine lv_iconst (v := 0) hx hb dX5_readShip_88 (by decide) ?_
          obtain ⟨z_24, e_25, h⟩ := bds h
          have hPc := hP.sub (ws' := (wX5 cI cS a0 a1 a2 a3 a4 a5 a6 a7 a8 a9 a10 a11 nw kp ad fd tp kn it wd sz nm mv ik td z_21.2.1 z_21.2.2.1 z_21.2.2.2.1 z_21.2.2.2.2.1 z_21.2.2.2.2.2 im st ht)) [0, 1, 2, 3, 4, 5, 6, 7, 8, 9, 10, 11] rfl
          refine kMv (wf' := (wX5 cI cS a0 a1 a2 a3 a4 a5 a6 a7 a8 a9 a10 a11 nw kp ad fd tp kn z_24.1 wd sz nm mv ik td z_21.2.1 z_21.2.2.1 z_21.2.2.2.1 z_21.2.2.2.2.1 z_21.2.2.2.2.2 z_24.2 st ht)) [0, 1, 2, 3, 4, 5, 6, 7, 8, 9, 10, 11] [some 0, some 1, some 2, some 3, some 4, some 5, some 6, some 7, some 8, some 9, some 10, some 11] (rV C0 (tX5_addItem l D cI cS a0 a1 a2 a3 a4 a5 a6 a7 a8 a9 a10 a11 nw kp ad fd tp kn it wd sz nm mv ik td z_21.2.1 z_21.2.2.1 z_21.2.2.2.1 z_21.2.2.2.2.1 z_21.2.2.2.2.2 im st ht 10 0 z_19.1 2 0 z_24.1 z_24.2 e_25 (((hD (wX5 cI cS a0 a1 a2 a3 a4 a5 a6 a7 a8 a9 a10 a11 nw kp ad fd tp kn it wd sz nm mv ik td z_21.2.1 z_21.2.2.1 z_21.2.2.2.1 z_21.2.2.2.2.1 z_21.2.2.2.2.2 im st ht) rfl).sub [0, 1, 2, 3, 4, 5, 6, 7, 8, 9, 10, 11] (by decide) rfl).weaken (fun _ _ _ _ => trivial))) RX5 gX5_readShip_X5_addItem rfl ⟨rfl, rfl⟩ pdX5_addItem rfl ⟨Nat.le_of_ble_eq_true rfl, Nat.le_of_ble_eq_true rfl⟩ (fun _ _ _ _ q => q) (va_recv hE.1 hPc (ci := 4) (q0 := 0) rfl rfl) (fun U hU _ _ => by rw [hU]; exact hPc) hl.1 rfl (Nat.le_of_ble_eq_true rfl) dX5_readShip_89 ⟨Nat.zero_le _, Nat.zero_le _⟩) hP (hD _ rfl) hS rfl rfl rfl (fun H locs hP hS => ?_)
          refine lv_aload_n hx hb dX5_readShip_92 rfl (lv_at hl 2 rfl) ?_
          refine lv_dup hx hb dX5_readShip_93 rfl ?_
          refine va_get (D := D) (ci := 4) (v := .int ht) (C := RX5) (T := TX5) (N := 21) hx hb hts hinX5 hown hE.1 hP 0 rfl rfl 16 (by decide) (hts _ (List.mem_of_getElem? (i := 1) rfl)) (fun _ h9 => h9) rfl dX5_readShip_94 ?_
          refine lv_iconst (v := 1) hx hb dX5_readShip_97 (by decide) ?_
          refine lv_iadd hx hb dX5_readShip_98 ?_
          refine va_put (D := D) (ci := 4) (v := .int (ht + 1)) (ty := .int) (C := RX5) (T := TX5) (N := 21) hx hb hts hinX5 tyX5 tyX5_ok nmX5 hown hE.1 hP (hD _ rfl) hS 0 rfl rfl 16 (by decide) (hts _ (List.mem_of_getElem? (i := 1) rfl)) (fun _ h9 => h9) rfl (by decide +kernel) rfl rfl (Nat.le_of_ble_eq_true rfl) dX5_readShip_99 (fun H locs hP _ hS => ?_)
          have hP : va_P D vwCl (wX5 cI cS a0 a1 a2 a3 a4 a5 a6 a7 a8 a9 a10 a11 nw kp ad fd tp kn z_24.1 wd sz nm mv ik td z_21.2.1 z_21.2.2.1 z_21.2.2.2.1 z_21.2.2.2.2.1 z_21.2.2.2.2.2 z_24.2 st (ht + 1)) H := hP
          obtain ⟨q0, g0⟩ := Prod.mk.inj (Option.some.inj h)
          obtain ⟨q1, g1⟩ := Prod.mk.inj g0
          obtain ⟨q2, g2⟩ := Prod.mk.inj g1
          obtain ⟨q3, g3⟩ := Prod.mk.inj g2
          obtain ⟨q4, g4⟩ := Prod.mk.inj g3
          obtain ⟨q5, g5⟩ := Prod.mk.inj g4
          obtain ⟨q6, q7⟩ := Prod.mk.inj g5
          subst q0 q1 q2 q3 q4 q5 q6 q7
          exact eMv C0 hP hS rfl dX5_readShip_102
        · have h := ifn c_23 h
          refine lv_aload_n hx hb dX5_readShip_78 rfl (lv_at hl 2 rfl) ?_
          refine lv_iconst (v := 1) hx hb dX5_readShip_79 (by decide) ?_
          refine lv_iconst (v := 5) hx hb dX5_readShip_80 (by decide) ?_
          obtain ⟨z_26, e_27, h⟩ := bds h
          have hPc := hP.sub (ws' := (wX5 cI cS a0 a1 a2 a3 a4 a5 a6 a7 a8 a9 a10 a11 nw kp ad fd tp kn it wd sz nm mv ik td z_21.2.1 z_21.2.2.1 z_21.2.2.2.1 z_21.2.2.2.2.1 z_21.2.2.2.2.2 im st ht)) [0, 1, 2, 3, 4, 5, 6, 7, 8, 9, 10, 11] rfl
          refine kMi (wf' := (wX5 cI cS a0 a1 a2 a3 a4 a5 a6 a7 a8 a9 a10 a11 nw kp ad fd tp kn it wd sz nm mv ik td z_26.2.1 z_26.2.2.1 z_26.2.2.2.1 z_26.2.2.2.2.1 z_26.2.2.2.2.2 im st ht)) [0, 1, 2, 3, 4, 5, 6, 7, 8, 9, 10, 11] [some 0, some 1, some 2, some 3, some 4, some 5, some 6, some 7, some 8, some 9, some 10, some 11] (rV C0 (tX5_number l D cI cS F a0 a1 a2 a3 a4 a5 a6 a7 a8 a9 a10 a11 nw kp ad fd tp kn it wd sz nm mv ik td z_21.2.1 z_21.2.2.1 z_21.2.2.2.1 z_21.2.2.2.2.1 z_21.2.2.2.2.2 im st ht 1 5 z_26.1 z_26.2.1 z_26.2.2.1 z_26.2.2.2.1 z_26.2.2.2.2.1 z_26.2.2.2.2.2 e_27 (((hD (wX5 cI cS a0 a1 a2 a3 a4 a5 a6 a7 a8 a9 a10 a11 nw kp ad fd tp kn it wd sz nm mv ik td z_21.2.1 z_21.2.2.1 z_21.2.2.2.1 z_21.2.2.2.2.1 z_21.2.2.2.2.2 im st ht) rfl).sub [0, 1, 2, 3, 4, 5, 6, 7, 8, 9, 10, 11] (by decide) rfl).weaken (fun _ _ _ _ => trivial))) RX5 gX5_readShip_X5_number rfl ⟨rfl, rfl⟩ pdX5_number rfl ⟨Nat.le_of_ble_eq_true rfl, Nat.le_of_ble_eq_true rfl⟩ (fun _ _ _ _ q => q) (va_recv hE.1 hPc (ci := 4) (q0 := 0) rfl rfl) (fun U hU _ _ => by rw [hU]; exact hPc) hl.1 rfl (Nat.le_of_ble_eq_true rfl) dX5_readShip_81 ⟨Nat.zero_le _, Nat.zero_le _⟩) hP (hD _ rfl) hS rfl rfl rfl (fun H locs hP hS => ?_)
          refine lv_goto (tgt := 88) hx hb dX5_readShip_84 (by decide) ?_
          refine lv_iconst (v := 0) hx hb dX5_readShip_88 (by decide) ?_
          obtain ⟨z_28, e_29, h⟩ := bds h
          have hPc := hP.sub (ws' := (wX5 cI cS a0 a1 a2 a3 a4 a5 a6 a7 a8 a9 a10 a11 nw kp ad fd tp kn it wd sz nm mv ik td z_26.2.1 z_26.2.2.1 z_26.2.2.2.1 z_26.2.2.2.2.1 z_26.2.2.2.2.2 im st ht)) [0, 1, 2, 3, 4, 5, 6, 7, 8, 9, 10, 11] rfl
          refine kMv (wf' := (wX5 cI cS a0 a1 a2 a3 a4 a5 a6 a7 a8 a9 a10 a11 nw kp ad fd tp kn z_28.1 wd sz nm mv ik td z_26.2.1 z_26.2.2.1 z_26.2.2.2.1 z_26.2.2.2.2.1 z_26.2.2.2.2.2 z_28.2 st ht)) [0, 1, 2, 3, 4, 5, 6, 7, 8, 9, 10, 11] [some 0, some 1, some 2, some 3, some 4, some 5, some 6, some 7, some 8, some 9, some 10, some 11] (rV C0 (tX5_addItem l D cI cS a0 a1 a2 a3 a4 a5 a6 a7 a8 a9 a10 a11 nw kp ad fd tp kn it wd sz nm mv ik td z_26.2.1 z_26.2.2.1 z_26.2.2.2.1 z_26.2.2.2.2.1 z_26.2.2.2.2.2 im st ht 10 0 z_19.1 z_26.1 0 z_28.1 z_28.2 e_29 (((hD (wX5 cI cS a0 a1 a2 a3 a4 a5 a6 a7 a8 a9 a10 a11 nw kp ad fd tp kn it wd sz nm mv ik td z_26.2.1 z_26.2.2.1 z_26.2.2.2.1 z_26.2.2.2.2.1 z_26.2.2.2.2.2 im st ht) rfl).sub [0, 1, 2, 3, 4, 5, 6, 7, 8, 9, 10, 11] (by decide) rfl).weaken (fun _ _ _ _ => trivial))) RX5 gX5_readShip_X5_addItem rfl ⟨rfl, rfl⟩ pdX5_addItem rfl ⟨Nat.le_of_ble_eq_true rfl, Nat.le_of_ble_eq_true rfl⟩ (fun _ _ _ _ q => q) (va_recv hE.1 hPc (ci := 4) (q0 := 0) rfl rfl) (fun U hU _ _ => by rw [hU]; exact hPc) hl.1 rfl (Nat.le_of_ble_eq_true rfl) dX5_readShip_89 ⟨Nat.zero_le _, Nat.zero_le _⟩) hP (hD _ rfl) hS rfl rfl rfl (fun H locs hP hS => ?_)
          refine lv_aload_n hx hb dX5_readShip_92 rfl (lv_at hl 2 rfl) ?_
          refine lv_dup hx hb dX5_readShip_93 rfl ?_
          refine va_get (D := D) (ci := 4) (v := .int ht) (C := RX5) (T := TX5) (N := 21) hx hb hts hinX5 hown hE.1 hP 0 rfl rfl 16 (by decide) (hts _ (List.mem_of_getElem? (i := 1) rfl)) (fun _ h9 => h9) rfl dX5_readShip_94 ?_
          refine lv_iconst (v := 1) hx hb dX5_readShip_97 (by decide) ?_
          refine lv_iadd hx hb dX5_readShip_98 ?_
          refine va_put (D := D) (ci := 4) (v := .int (ht + 1)) (ty := .int) (C := RX5) (T := TX5) (N := 21) hx hb hts hinX5 tyX5 tyX5_ok nmX5 hown hE.1 hP (hD _ rfl) hS 0 rfl rfl 16 (by decide) (hts _ (List.mem_of_getElem? (i := 1) rfl)) (fun _ h9 => h9) rfl (by decide +kernel) rfl rfl (Nat.le_of_ble_eq_true rfl) dX5_readShip_99 (fun H locs hP _ hS => ?_)
          have hP : va_P D vwCl (wX5 cI cS a0 a1 a2 a3 a4 a5 a6 a7 a8 a9 a10 a11 nw kp ad fd tp kn z_28.1 wd sz nm mv ik td z_26.2.1 z_26.2.2.1 z_26.2.2.2.1 z_26.2.2.2.2.1 z_26.2.2.2.2.2 z_28.2 st (ht + 1)) H := hP
          obtain ⟨q0, g0⟩ := Prod.mk.inj (Option.some.inj h)
          obtain ⟨q1, g1⟩ := Prod.mk.inj g0
          obtain ⟨q2, g2⟩ := Prod.mk.inj g1
          obtain ⟨q3, g3⟩ := Prod.mk.inj g2
          obtain ⟨q4, g4⟩ := Prod.mk.inj g3
          obtain ⟨q5, g5⟩ := Prod.mk.inj g4
          obtain ⟨q6, q7⟩ := Prod.mk.inj g5
          subst q0 q1 q2 q3 q4 q5 q6 q7
          exact eMv C0 hP hS rfl dX5_readShip_102
    · have h := ifn c_6 h
      refine lv_aload_n hx hb dX5_readShip_28 rfl (lv_at hl 0 rfl) ?_
      refine lv_iconst (v := 0) hx hb dX5_readShip_29 (by decide) ?_
      refine lv_bipush (v := 15) hx hb dX5_readShip_30 (by decide) ?_
      obtain ⟨z_30, e_31, h⟩ := bds h
      have hPc := hP.sub (ws' := (wX5 cI cS a0 a1 a2 a3 a4 a5 a6 a7 a8 a9 a10 a11 nw kp ad fd tp kn it wd sz nm mv ik td z_4.2.1 z_4.2.2.1 z_4.2.2.2.1 z_4.2.2.2.2.1 z_4.2.2.2.2.2 im st ht)) [0, 1, 2, 3, 4, 5, 6, 7, 8, 9, 10, 11] rfl
      refine kMi (wf' := (wX5 cI cS a0 a1 a2 a3 a4 a5 a6 a7 a8 a9 a10 a11 nw kp ad fd tp kn it wd sz nm mv ik td z_30.2.1 z_30.2.2.1 z_30.2.2.2.1 z_30.2.2.2.2.1 z_30.2.2.2.2.2 im st ht)) [0, 1, 2, 3, 4, 5, 6, 7, 8, 9, 10, 11] [some 0, some 1, some 2, some 3, some 4, some 5, some 6, some 7, some 8, some 9, some 10, some 11] (rV C0 (tX5_number l D cI cS F a0 a1 a2 a3 a4 a5 a6 a7 a8 a9 a10 a11 nw kp ad fd tp kn it wd sz nm mv ik td z_4.2.1 z_4.2.2.1 z_4.2.2.2.1 z_4.2.2.2.2.1 z_4.2.2.2.2.2 im st ht 0 15 z_30.1 z_30.2.1 z_30.2.2.1 z_30.2.2.2.1 z_30.2.2.2.2.1 z_30.2.2.2.2.2 e_31 (((hD (wX5 cI cS a0 a1 a2 a3 a4 a5 a6 a7 a8 a9 a10 a11 nw kp ad fd tp kn it wd sz nm mv ik td z_4.2.1 z_4.2.2.1 z_4.2.2.2.1 z_4.2.2.2.2.1 z_4.2.2.2.2.2 im st ht) rfl).sub [0, 1, 2, 3, 4, 5, 6, 7, 8, 9, 10, 11] (by decide) rfl).weaken (fun _ _ _ _ => trivial))) RX5 gX5_readShip_X5_number rfl ⟨rfl, rfl⟩ pdX5_number rfl ⟨Nat.le_of_ble_eq_true rfl, Nat.le_of_ble_eq_true rfl⟩ (fun _ _ _ _ q => q) (va_recv hE.1 hPc (ci := 4) (q0 := 0) rfl rfl) (fun U hU _ _ => by rw [hU]; exact hPc) hl.1 rfl (Nat.le_of_ble_eq_true rfl) dX5_readShip_32 ⟨Nat.zero_le _, Nat.zero_le _⟩) hP (hD _ rfl) hS rfl rfl rfl (fun H locs hP hS => ?_)
      refine lv_goto (tgt := 39) hx hb dX5_readShip_35 (by decide) ?_
      refine lv_istore_n (lv' := [(1, .int z_30.1), (0, .ref a0)]) hx hb dX5_readShip_39 rfl hl (by decide) rfl (fun ls hl => ?_)
      refine lv_aload_n hx hb dX5_readShip_40 rfl (lv_at hl 1 rfl) ?_
      refine ldwS hx hb hown (show vk_R RX5 319 "sees" (cs.1 12) s from hCS.2.2.2.1 ("VaguePortModel", 319, "sees", 12) (List.mem_of_getElem? (i := 20) rfl)) dX5_readShip_41 ?_
      obtain ⟨z_32, e_33, h⟩ := bds h
      have hPc := hP.sub (ws' := (wX5 cI cS a0 a1 a2 a3 a4 a5 a6 a7 a8 a9 a10 a11 nw kp ad fd tp kn it wd sz nm mv ik td z_30.2.1 z_30.2.2.1 z_30.2.2.2.1 z_30.2.2.2.2.1 z_30.2.2.2.2.2 im st ht)) [0, 1, 2, 3, 4, 5, 6, 7, 8, 9, 10, 11] rfl
      refine kMi (wf' := (wX5 cI cS a0 a1 a2 a3 a4 a5 a6 a7 a8 a9 a10 a11 nw kp ad fd tp kn it wd sz nm mv ik td z_32.2.1 z_32.2.2.1 z_32.2.2.2.1 z_32.2.2.2.2.1 z_32.2.2.2.2.2 im st ht)) [0, 1, 2, 3, 4, 5, 6, 7, 8, 9, 10, 11] [some 0, some 1, some 2, some 3, some 4, some 5, some 6, some 7, some 8, some 9, some 10, some 11] (rV C0 (tX5_takesWord l D cI cS cs F a0 a1 a2 a3 a4 a5 a6 a7 a8 a9 a10 a11 nw kp ad fd tp kn it wd sz nm mv ik td z_30.2.1 z_30.2.2.1 z_30.2.2.2.1 z_30.2.2.2.2.1 z_30.2.2.2.2.2 im st ht 12 z_32.1 z_32.2.1 z_32.2.2.1 z_32.2.2.2.1 z_32.2.2.2.2.1 z_32.2.2.2.2.2 e_33 (by decide) (((hD (wX5 cI cS a0 a1 a2 a3 a4 a5 a6 a7 a8 a9 a10 a11 nw kp ad fd tp kn it wd sz nm mv ik td z_30.2.1 z_30.2.2.1 z_30.2.2.2.1 z_30.2.2.2.2.1 z_30.2.2.2.2.2 im st ht) rfl).sub [0, 1, 2, 3, 4, 5, 6, 7, 8, 9, 10, 11] (by decide) rfl).weaken (fun _ _ _ _ => trivial))) RX5 gX5_readShip_X5_takesWord rfl ⟨rfl, rfl⟩ pdX5_takesWord rfl ⟨Nat.le_of_ble_eq_true rfl, Nat.le_of_ble_eq_true rfl⟩ (fun _ _ _ _ q => ⟨q.1, q.2.call⟩) (va_recv hE.1 hPc (ci := 4) (q0 := 0) rfl rfl) (fun U hU hW _ => ⟨by rw [hU]; exact hPc, by rw [hU]; exact ((hCS.kept hS.2.1).narrow (fun q h => va_D.inA (hD (wX5 cI cS a0 a1 a2 a3 a4 a5 a6 a7 a8 a9 a10 a11 nw kp ad fd tp kn it wd sz nm mv ik td z_30.2.1 z_30.2.2.1 z_30.2.2.2.1 z_30.2.2.2.2.1 z_30.2.2.2.2.2 im st ht) rfl) [0, 1, 2, 3, 4, 5, 6, 7, 8, 9, 10, 11] rfl h)).warm hW⟩) hl.1 rfl (Nat.le_of_ble_eq_true rfl) dX5_readShip_44 ⟨Nat.zero_le _, Nat.zero_le _⟩) hP (hD _ rfl) hS rfl rfl rfl (fun H locs hP hS => ?_)
      refine lv_if_eq (tgt := 60) hx hb dX5_readShip_47 (by decide) (fun c_34 => ?_) (fun c_34 => ?_)
      · have h := ifp c_34 h
        refine lv_bipush (v := 30) hx hb dX5_readShip_60 (by decide) ?_
        refine lv_istore_n (lv' := [(2, .int 30), (1, .int z_30.1), (0, .ref a0)]) hx hb dX5_readShip_62 rfl hl (by decide) rfl (fun ls hl => ?_)
        refine lv_aload_n hx hb dX5_readShip_63 rfl (lv_at hl 2 rfl) ?_
        refine lv_bipush (v := 10) hx hb dX5_readShip_64 (by decide) ?_
        refine lv_iload_n hx hb dX5_readShip_66 rfl (lv_at hl 1 rfl) ?_
        refine lv_iload_n hx hb dX5_readShip_67 rfl (lv_at hl 0 rfl) ?_
        refine lv_aload_n hx hb dX5_readShip_68 rfl (lv_at hl 2 rfl) ?_
        refine ldwS hx hb hown (show vk_R RX5 321 "fast" (cs.1 13) s from hCS.2.2.2.1 ("VaguePortModel", 321, "fast", 13) (List.mem_of_getElem? (i := 21) rfl)) dX5_readShip_69 ?_
        obtain ⟨z_35, e_36, h⟩ := bds h
        have hPc := hP.sub (ws' := (wX5 cI cS a0 a1 a2 a3 a4 a5 a6 a7 a8 a9 a10 a11 nw kp ad fd tp kn it wd sz nm mv ik td z_32.2.1 z_32.2.2.1 z_32.2.2.2.1 z_32.2.2.2.2.1 z_32.2.2.2.2.2 im st ht)) [0, 1, 2, 3, 4, 5, 6, 7, 8, 9, 10, 11] rfl
        refine kMi (wf' := (wX5 cI cS a0 a1 a2 a3 a4 a5 a6 a7 a8 a9 a10 a11 nw kp ad fd tp kn it wd sz nm mv ik td z_35.2.1 z_35.2.2.1 z_35.2.2.2.1 z_35.2.2.2.2.1 z_35.2.2.2.2.2 im st ht)) [0, 1, 2, 3, 4, 5, 6, 7, 8, 9, 10, 11] [some 0, some 1, some 2, some 3, some 4, some 5, some 6, some 7, some 8, some 9, some 10, some 11] (rV C0 (tX5_takesWord l D cI cS cs F a0 a1 a2 a3 a4 a5 a6 a7 a8 a9 a10 a11 nw kp ad fd tp kn it wd sz nm mv ik td z_32.2.1 z_32.2.2.1 z_32.2.2.2.1 z_32.2.2.2.2.1 z_32.2.2.2.2.2 im st ht 13 z_35.1 z_35.2.1 z_35.2.2.1 z_35.2.2.2.1 z_35.2.2.2.2.1 z_35.2.2.2.2.2 e_36 (by decide) (((hD (wX5 cI cS a0 a1 a2 a3 a4 a5 a6 a7 a8 a9 a10 a11 nw kp ad fd tp kn it wd sz nm mv ik td z_32.2.1 z_32.2.2.1 z_32.2.2.2.1 z_32.2.2.2.2.1 z_32.2.2.2.2.2 im st ht) rfl).sub [0, 1, 2, 3, 4, 5, 6, 7, 8, 9, 10, 11] (by decide) rfl).weaken (fun _ _ _ _ => trivial))) RX5 gX5_readShip_X5_takesWord rfl ⟨rfl, rfl⟩ pdX5_takesWord rfl ⟨Nat.le_of_ble_eq_true rfl, Nat.le_of_ble_eq_true rfl⟩ (fun _ _ _ _ q => ⟨q.1, q.2.call⟩) (va_recv hE.1 hPc (ci := 4) (q0 := 0) rfl rfl) (fun U hU hW _ => ⟨by rw [hU]; exact hPc, by rw [hU]; exact ((hCS.kept hS.2.1).narrow (fun q h => va_D.inA (hD (wX5 cI cS a0 a1 a2 a3 a4 a5 a6 a7 a8 a9 a10 a11 nw kp ad fd tp kn it wd sz nm mv ik td z_32.2.1 z_32.2.2.1 z_32.2.2.2.1 z_32.2.2.2.2.1 z_32.2.2.2.2.2 im st ht) rfl) [0, 1, 2, 3, 4, 5, 6, 7, 8, 9, 10, 11] rfl h)).warm hW⟩) hl.1 rfl (Nat.le_of_ble_eq_true rfl) dX5_readShip_72 ⟨Nat.zero_le _, Nat.zero_le _⟩) hP (hD _ rfl) hS rfl rfl rfl (fun H locs hP hS => ?_)
        refine lv_if_eq (tgt := 87) hx hb dX5_readShip_75 (by decide) (fun c_37 => ?_) (fun c_37 => ?_)
        · have h := ifp c_37 h
          refine lv_iconst (v := 2) hx hb dX5_readShip_87 (by decide) ?_
          refine lv_iconst (v := 0) hx hb dX5_readShip_88 (by decide) ?_
          obtain ⟨z_38, e_39, h⟩ := bds h
          have hPc := hP.sub (ws' := (wX5 cI cS a0 a1 a2 a3 a4 a5 a6 a7 a8 a9 a10 a11 nw kp ad fd tp kn it wd sz nm mv ik td z_35.2.1 z_35.2.2.1 z_35.2.2.2.1 z_35.2.2.2.2.1 z_35.2.2.2.2.2 im st ht)) [0, 1, 2, 3, 4, 5, 6, 7, 8, 9, 10, 11] rfl
          refine kMv (wf' := (wX5 cI cS a0 a1 a2 a3 a4 a5 a6 a7 a8 a9 a10 a11 nw kp ad fd tp kn z_38.1 wd sz nm mv ik td z_35.2.1 z_35.2.2.1 z_35.2.2.2.1 z_35.2.2.2.2.1 z_35.2.2.2.2.2 z_38.2 st ht)) [0, 1, 2, 3, 4, 5, 6, 7, 8, 9, 10, 11] [some 0, some 1, some 2, some 3, some 4, some 5, some 6, some 7, some 8, some 9, some 10, some 11] (rV C0 (tX5_addItem l D cI cS a0 a1 a2 a3 a4 a5 a6 a7 a8 a9 a10 a11 nw kp ad fd tp kn it wd sz nm mv ik td z_35.2.1 z_35.2.2.1 z_35.2.2.2.1 z_35.2.2.2.2.1 z_35.2.2.2.2.2 im st ht 10 z_30.1 30 2 0 z_38.1 z_38.2 e_39 (((hD (wX5 cI cS a0 a1 a2 a3 a4 a5 a6 a7 a8 a9 a10 a11 nw kp ad fd tp kn it wd sz nm mv ik td z_35.2.1 z_35.2.2.1 z_35.2.2.2.1 z_35.2.2.2.2.1 z_35.2.2.2.2.2 im st ht) rfl).sub [0, 1, 2, 3, 4, 5, 6, 7, 8, 9, 10, 11] (by decide) rfl).weaken (fun _ _ _ _ => trivial))) RX5 gX5_readShip_X5_addItem rfl ⟨rfl, rfl⟩ pdX5_addItem rfl ⟨Nat.le_of_ble_eq_true rfl, Nat.le_of_ble_eq_true rfl⟩ (fun _ _ _ _ q => q) (va_recv hE.1 hPc (ci := 4) (q0 := 0) rfl rfl) (fun U hU _ _ => by rw [hU]; exact hPc) hl.1 rfl (Nat.le_of_ble_eq_true rfl) dX5_readShip_89 ⟨Nat.zero_le _, Nat.zero_le _⟩) hP (hD _ rfl) hS rfl rfl rfl (fun H locs hP hS => ?_)
          refine lv_aload_n hx hb dX5_readShip_92 rfl (lv_at hl 2 rfl) ?_
          refine lv_dup hx hb dX5_readShip_93 rfl ?_
          refine va_get (D := D) (ci := 4) (v := .int ht) (C := RX5) (T := TX5) (N := 21) hx hb hts hinX5 hown hE.1 hP 0 rfl rfl 16 (by decide) (hts _ (List.mem_of_getElem? (i := 1) rfl)) (fun _ h9 => h9) rfl dX5_readShip_94 ?_
          refine lv_iconst (v := 1) hx hb dX5_readShip_97 (by decide) ?_
          refine lv_iadd hx hb dX5_readShip_98 ?_
          refine va_put (D := D) (ci := 4) (v := .int (ht + 1)) (ty := .int) (C := RX5) (T := TX5) (N := 21) hx hb hts hinX5 tyX5 tyX5_ok nmX5 hown hE.1 hP (hD _ rfl) hS 0 rfl rfl 16 (by decide) (hts _ (List.mem_of_getElem? (i := 1) rfl)) (fun _ h9 => h9) rfl (by decide +kernel) rfl rfl (Nat.le_of_ble_eq_true rfl) dX5_readShip_99 (fun H locs hP _ hS => ?_)
          have hP : va_P D vwCl (wX5 cI cS a0 a1 a2 a3 a4 a5 a6 a7 a8 a9 a10 a11 nw kp ad fd tp kn z_38.1 wd sz nm mv ik td z_35.2.1 z_35.2.2.1 z_35.2.2.2.1 z_35.2.2.2.2.1 z_35.2.2.2.2.2 z_38.2 st (ht + 1)) H := hP
          obtain ⟨q0, g0⟩ := Prod.mk.inj (Option.some.inj h)
          obtain ⟨q1, g1⟩ := Prod.mk.inj g0
          obtain ⟨q2, g2⟩ := Prod.mk.inj g1
          obtain ⟨q3, g3⟩ := Prod.mk.inj g2
          obtain ⟨q4, g4⟩ := Prod.mk.inj g3
          obtain ⟨q5, g5⟩ := Prod.mk.inj g4
          obtain ⟨q6, q7⟩ := Prod.mk.inj g5
          subst q0 q1 q2 q3 q4 q5 q6 q7
          exact eMv C0 hP hS rfl dX5_readShip_102
        · have h := ifn c_37 h
          refine lv_aload_n hx hb dX5_readShip_78 rfl (lv_at hl 2 rfl) ?_
          refine lv_iconst (v := 1) hx hb dX5_readShip_79 (by decide) ?_
          refine lv_iconst (v := 5) hx hb dX5_readShip_80 (by decide) ?_
          obtain ⟨z_40, e_41, h⟩ := bds h
          have hPc := hP.sub (ws' := (wX5 cI cS a0 a1 a2 a3 a4 a5 a6 a7 a8 a9 a10 a11 nw kp ad fd tp kn it wd sz nm mv ik td z_35.2.1 z_35.2.2.1 z_35.2.2.2.1 z_35.2.2.2.2.1 z_35.2.2.2.2.2 im st ht)) [0, 1, 2, 3, 4, 5, 6, 7, 8, 9, 10, 11] rfl
          refine kMi (wf' := (wX5 cI cS a0 a1 a2 a3 a4 a5 a6 a7 a8 a9 a10 a11 nw kp ad fd tp kn it wd sz nm mv ik td z_40.2.1 z_40.2.2.1 z_40.2.2.2.1 z_40.2.2.2.2.1 z_40.2.2.2.2.2 im st ht)) [0, 1, 2, 3, 4, 5, 6, 7, 8, 9, 10, 11] [some 0, some 1, some 2, some 3, some 4, some 5, some 6, some 7, some 8, some 9, some 10, some 11] (rV C0 (tX5_number l D cI cS F a0 a1 a2 a3 a4 a5 a6 a7 a8 a9 a10 a11 nw kp ad fd tp kn it wd sz nm mv ik td z_35.2.1 z_35.2.2.1 z_35.2.2.2.1 z_35.2.2.2.2.1 z_35.2.2.2.2.2 im st ht 1 5 z_40.1 z_40.2.1 z_40.2.2.1 z_40.2.2.2.1 z_40.2.2.2.2.1 z_40.2.2.2.2.2 e_41 (((hD (wX5 cI cS a0 a1 a2 a3 a4 a5 a6 a7 a8 a9 a10 a11 nw kp ad fd tp kn it wd sz nm mv ik td z_35.2.1 z_35.2.2.1 z_35.2.2.2.1 z_35.2.2.2.2.1 z_35.2.2.2.2.2 im st ht) rfl).sub [0, 1, 2, 3, 4, 5, 6, 7, 8, 9, 10, 11] (by decide) rfl).weaken (fun _ _ _ _ => trivial))) RX5 gX5_readShip_X5_number rfl ⟨rfl, rfl⟩ pdX5_number rfl ⟨Nat.le_of_ble_eq_true rfl, Nat.le_of_ble_eq_true rfl⟩ (fun _ _ _ _ q => q) (va_recv hE.1 hPc (ci := 4) (q0 := 0) rfl rfl) (fun U hU _ _ => by rw [hU]; exact hPc) hl.1 rfl (Nat.le_of_ble_eq_true rfl) dX5_readShip_81 ⟨Nat.zero_le _, Nat.zero_le _⟩) hP (hD _ rfl) hS rfl rfl rfl (fun H locs hP hS => ?_)
          refine lv_goto (tgt := 88) hx hb dX5_readShip_84 (by decide) ?_
          refine lv_iconst (v := 0) hx hb dX5_readShip_88 (by decide) ?_
          obtain ⟨z_42, e_43, h⟩ := bds h
          have hPc := hP.sub (ws' := (wX5 cI cS a0 a1 a2 a3 a4 a5 a6 a7 a8 a9 a10 a11 nw kp ad fd tp kn it wd sz nm mv ik td z_40.2.1 z_40.2.2.1 z_40.2.2.2.1 z_40.2.2.2.2.1 z_40.2.2.2.2.2 im st ht)) [0, 1, 2, 3, 4, 5, 6, 7, 8, 9, 10, 11] rfl
          refine kMv (wf' := (wX5 cI cS a0 a1 a2 a3 a4 a5 a6 a7 a8 a9 a10 a11 nw kp ad fd tp kn z_42.1 wd sz nm mv ik td z_40.2.1 z_40.2.2.1 z_40.2.2.2.1 z_40.2.2.2.2.1 z_40.2.2.2.2.2 z_42.2 st ht)) [0, 1, 2, 3, 4, 5, 6, 7, 8, 9, 10, 11] [some 0, some 1, some 2, some 3, some 4, some 5, some 6, some 7, some 8, some 9, some 10, some 11] (rV C0 (tX5_addItem l D cI cS a0 a1 a2 a3 a4 a5 a6 a7 a8 a9 a10 a11 nw kp ad fd tp kn it wd sz nm mv ik td z_40.2.1 z_40.2.2.1 z_40.2.2.2.1 z_40.2.2.2.2.1 z_40.2.2.2.2.2 im st ht 10 z_30.1 30 z_40.1 0 z_42.1 z_42.2 e_43 (((hD (wX5 cI cS a0 a1 a2 a3 a4 a5 a6 a7 a8 a9 a10 a11 nw kp ad fd tp kn it wd sz nm mv ik td z_40.2.1 z_40.2.2.1 z_40.2.2.2.1 z_40.2.2.2.2.1 z_40.2.2.2.2.2 im st ht) rfl).sub [0, 1, 2, 3, 4, 5, 6, 7, 8, 9, 10, 11] (by decide) rfl).weaken (fun _ _ _ _ => trivial))) RX5 gX5_readShip_X5_addItem rfl ⟨rfl, rfl⟩ pdX5_addItem rfl ⟨Nat.le_of_ble_eq_true rfl, Nat.le_of_ble_eq_true rfl⟩ (fun _ _ _ _ q => q) (va_recv hE.1 hPc (ci := 4) (q0 := 0) rfl rfl) (fun U hU _ _ => by rw [hU]; exact hPc) hl.1 rfl (Nat.le_of_ble_eq_true rfl) dX5_readShip_89 ⟨Nat.zero_le _, Nat.zero_le _⟩) hP (hD _ rfl) hS rfl rfl rfl (fun H locs hP hS => ?_)
          refine lv_aload_n hx hb dX5_readShip_92 rfl (lv_at hl 2 rfl) ?_
          refine lv_dup hx hb dX5_readShip_93 rfl ?_
          refine va_get (D := D) (ci := 4) (v := .int ht) (C := RX5) (T := TX5) (N := 21) hx hb hts hinX5 hown hE.1 hP 0 rfl rfl 16 (by decide) (hts _ (List.mem_of_getElem? (i := 1) rfl)) (fun _ h9 => h9) rfl dX5_readShip_94 ?_
          refine lv_iconst (v := 1) hx hb dX5_readShip_97 (by decide) ?_
          refine lv_iadd hx hb dX5_readShip_98 ?_
          refine va_put (D := D) (ci := 4) (v := .int (ht + 1)) (ty := .int) (C := RX5) (T := TX5) (N := 21) hx hb hts hinX5 tyX5 tyX5_ok nmX5 hown hE.1 hP (hD _ rfl) hS 0 rfl rfl 16 (by decide) (hts _ (List.mem_of_getElem? (i := 1) rfl)) (fun _ h9 => h9) rfl (by decide +kernel) rfl rfl (Nat.le_of_ble_eq_true rfl) dX5_readShip_99 (fun H locs hP _ hS => ?_)
          have hP : va_P D vwCl (wX5 cI cS a0 a1 a2 a3 a4 a5 a6 a7 a8 a9 a10 a11 nw kp ad fd tp kn z_42.1 wd sz nm mv ik td z_40.2.1 z_40.2.2.1 z_40.2.2.2.1 z_40.2.2.2.2.1 z_40.2.2.2.2.2 z_42.2 st (ht + 1)) H := hP
          obtain ⟨q0, g0⟩ := Prod.mk.inj (Option.some.inj h)
          obtain ⟨q1, g1⟩ := Prod.mk.inj g0
          obtain ⟨q2, g2⟩ := Prod.mk.inj g1
          obtain ⟨q3, g3⟩ := Prod.mk.inj g2
          obtain ⟨q4, g4⟩ := Prod.mk.inj g3
          obtain ⟨q5, g5⟩ := Prod.mk.inj g4
          obtain ⟨q6, q7⟩ := Prod.mk.inj g5
          subst q0 q1 q2 q3 q4 q5 q6 q7
          exact eMv C0 hP hS rfl dX5_readShip_102
      · have h := ifn c_34 h
        refine lv_aload_n hx hb dX5_readShip_50 rfl (lv_at hl 1 rfl) ?_
        refine lv_iconst (v := 0) hx hb dX5_readShip_51 (by decide) ?_
        refine lv_bipush (v := 99) hx hb dX5_readShip_52 (by decide) ?_
        obtain ⟨z_44, e_45, h⟩ := bds h
        have hPc := hP.sub (ws' := (wX5 cI cS a0 a1 a2 a3 a4 a5 a6 a7 a8 a9 a10 a11 nw kp ad fd tp kn it wd sz nm mv ik td z_32.2.1 z_32.2.2.1 z_32.2.2.2.1 z_32.2.2.2.2.1 z_32.2.2.2.2.2 im st ht)) [0, 1, 2, 3, 4, 5, 6, 7, 8, 9, 10, 11] rfl
        refine kMi (wf' := (wX5 cI cS a0 a1 a2 a3 a4 a5 a6 a7 a8 a9 a10 a11 nw kp ad fd tp kn it wd sz nm mv ik td z_44.2.1 z_44.2.2.1 z_44.2.2.2.1 z_44.2.2.2.2.1 z_44.2.2.2.2.2 im st ht)) [0, 1, 2, 3, 4, 5, 6, 7, 8, 9, 10, 11] [some 0, some 1, some 2, some 3, some 4, some 5, some 6, some 7, some 8, some 9, some 10, some 11] (rV C0 (tX5_number l D cI cS F a0 a1 a2 a3 a4 a5 a6 a7 a8 a9 a10 a11 nw kp ad fd tp kn it wd sz nm mv ik td z_32.2.1 z_32.2.2.1 z_32.2.2.2.1 z_32.2.2.2.2.1 z_32.2.2.2.2.2 im st ht 0 99 z_44.1 z_44.2.1 z_44.2.2.1 z_44.2.2.2.1 z_44.2.2.2.2.1 z_44.2.2.2.2.2 e_45 (((hD (wX5 cI cS a0 a1 a2 a3 a4 a5 a6 a7 a8 a9 a10 a11 nw kp ad fd tp kn it wd sz nm mv ik td z_32.2.1 z_32.2.2.1 z_32.2.2.2.1 z_32.2.2.2.2.1 z_32.2.2.2.2.2 im st ht) rfl).sub [0, 1, 2, 3, 4, 5, 6, 7, 8, 9, 10, 11] (by decide) rfl).weaken (fun _ _ _ _ => trivial))) RX5 gX5_readShip_X5_number rfl ⟨rfl, rfl⟩ pdX5_number rfl ⟨Nat.le_of_ble_eq_true rfl, Nat.le_of_ble_eq_true rfl⟩ (fun _ _ _ _ q => q) (va_recv hE.1 hPc (ci := 4) (q0 := 0) rfl rfl) (fun U hU _ _ => by rw [hU]; exact hPc) hl.1 rfl (Nat.le_of_ble_eq_true rfl) dX5_readShip_54 ⟨Nat.zero_le _, Nat.zero_le _⟩) hP (hD _ rfl) hS rfl rfl rfl (fun H locs hP hS => ?_)
        refine lv_goto (tgt := 62) hx hb dX5_readShip_57 (by decide) ?_
        refine lv_istore_n (lv' := [(2, .int z_44.1), (1, .int z_30.1), (0, .ref a0)]) hx hb dX5_readShip_62 rfl hl (by decide) rfl (fun ls hl => ?_)
        refine lv_aload_n hx hb dX5_readShip_63 rfl (lv_at hl 2 rfl) ?_
        refine lv_bipush (v := 10) hx hb dX5_readShip_64 (by decide) ?_
        refine lv_iload_n hx hb dX5_readShip_66 rfl (lv_at hl 1 rfl) ?_
        refine lv_iload_n hx hb dX5_readShip_67 rfl (lv_at hl 0 rfl) ?_
        refine lv_aload_n hx hb dX5_readShip_68 rfl (lv_at hl 2 rfl) ?_
        refine ldwS hx hb hown (show vk_R RX5 321 "fast" (cs.1 13) s from hCS.2.2.2.1 ("VaguePortModel", 321, "fast", 13) (List.mem_of_getElem? (i := 21) rfl)) dX5_readShip_69 ?_
        obtain ⟨z_46, e_47, h⟩ := bds h
        have hPc := hP.sub (ws' := (wX5 cI cS a0 a1 a2 a3 a4 a5 a6 a7 a8 a9 a10 a11 nw kp ad fd tp kn it wd sz nm mv ik td z_44.2.1 z_44.2.2.1 z_44.2.2.2.1 z_44.2.2.2.2.1 z_44.2.2.2.2.2 im st ht)) [0, 1, 2, 3, 4, 5, 6, 7, 8, 9, 10, 11] rfl
        refine kMi (wf' := (wX5 cI cS a0 a1 a2 a3 a4 a5 a6 a7 a8 a9 a10 a11 nw kp ad fd tp kn it wd sz nm mv ik td z_46.2.1 z_46.2.2.1 z_46.2.2.2.1 z_46.2.2.2.2.1 z_46.2.2.2.2.2 im st ht)) [0, 1, 2, 3, 4, 5, 6, 7, 8, 9, 10, 11] [some 0, some 1, some 2, some 3, some 4, some 5, some 6, some 7, some 8, some 9, some 10, some 11] (rV C0 (tX5_takesWord l D cI cS cs F a0 a1 a2 a3 a4 a5 a6 a7 a8 a9 a10 a11 nw kp ad fd tp kn it wd sz nm mv ik td z_44.2.1 z_44.2.2.1 z_44.2.2.2.1 z_44.2.2.2.2.1 z_44.2.2.2.2.2 im st ht 13 z_46.1 z_46.2.1 z_46.2.2.1 z_46.2.2.2.1 z_46.2.2.2.2.1 z_46.2.2.2.2.2 e_47 (by decide) (((hD (wX5 cI cS a0 a1 a2 a3 a4 a5 a6 a7 a8 a9 a10 a11 nw kp ad fd tp kn it wd sz nm mv ik td z_44.2.1 z_44.2.2.1 z_44.2.2.2.1 z_44.2.2.2.2.1 z_44.2.2.2.2.2 im st ht) rfl).sub [0, 1, 2, 3, 4, 5, 6, 7, 8, 9, 10, 11] (by decide) rfl).weaken (fun _ _ _ _ => trivial))) RX5 gX5_readShip_X5_takesWord rfl ⟨rfl, rfl⟩ pdX5_takesWord rfl ⟨Nat.le_of_ble_eq_true rfl, Nat.le_of_ble_eq_true rfl⟩ (fun _ _ _ _ q => ⟨q.1, q.2.call⟩) (va_recv hE.1 hPc (ci := 4) (q0 := 0) rfl rfl) (fun U hU hW _ => ⟨by rw [hU]; exact hPc, by rw [hU]; exact ((hCS.kept hS.2.1).narrow (fun q h => va_D.inA (hD (wX5 cI cS a0 a1 a2 a3 a4 a5 a6 a7 a8 a9 a10 a11 nw kp ad fd tp kn it wd sz nm mv ik td z_44.2.1 z_44.2.2.1 z_44.2.2.2.1 z_44.2.2.2.2.1 z_44.2.2.2.2.2 im st ht) rfl) [0, 1, 2, 3, 4, 5, 6, 7, 8, 9, 10, 11] rfl h)).warm hW⟩) hl.1 rfl (Nat.le_of_ble_eq_true rfl) dX5_readShip_72 ⟨Nat.zero_le _, Nat.zero_le _⟩) hP (hD _ rfl) hS rfl rfl rfl (fun H locs hP hS => ?_)
        refine lv_if_eq (tgt := 87) hx hb dX5_readShip_75 (by decide) (fun c_48 => ?_) (fun c_48 => ?_)
        · have h := ifp c_48 h
          refine lv_iconst (v := 2) hx hb dX5_readShip_87 (by decide) ?_
          refine lv_iconst (v := 0) hx hb dX5_readShip_88 (by decide) ?_
          obtain ⟨z_49, e_50, h⟩ := bds h
          have hPc := hP.sub (ws' := (wX5 cI cS a0 a1 a2 a3 a4 a5 a6 a7 a8 a9 a10 a11 nw kp ad fd tp kn it wd sz nm mv ik td z_46.2.1 z_46.2.2.1 z_46.2.2.2.1 z_46.2.2.2.2.1 z_46.2.2.2.2.2 im st ht)) [0, 1, 2, 3, 4, 5, 6, 7, 8, 9, 10, 11] rfl
          refine kMv (wf' := (wX5 cI cS a0 a1 a2 a3 a4 a5 a6 a7 a8 a9 a10 a11 nw kp ad fd tp kn z_49.1 wd sz nm mv ik td z_46.2.1 z_46.2.2.1 z_46.2.2.2.1 z_46.2.2.2.2.1 z_46.2.2.2.2.2 z_49.2 st ht)) [0, 1, 2, 3, 4, 5, 6, 7, 8, 9, 10, 11] [some 0, some 1, some 2, some 3, some 4, some 5, some 6, some 7, some 8, some 9, some 10, some 11] (rV C0 (tX5_addItem l D cI cS a0 a1 a2 a3 a4 a5 a6 a7 a8 a9 a10 a11 nw kp ad fd tp kn it wd sz nm mv ik td z_46.2.1 z_46.2.2.1 z_46.2.2.2.1 z_46.2.2.2.2.1 z_46.2.2.2.2.2 im st ht 10 z_30.1 z_44.1 2 0 z_49.1 z_49.2 e_50 (((hD (wX5 cI cS a0 a1 a2 a3 a4 a5 a6 a7 a8 a9 a10 a11 nw kp ad fd tp kn it wd sz nm mv ik td z_46.2.1 z_46.2.2.1 z_46.2.2.2.1 z_46.2.2.2.2.1 z_46.2.2.2.2.2 im st ht) rfl).sub [0, 1, 2, 3, 4, 5, 6, 7, 8, 9, 10, 11] (by decide) rfl).weaken (fun _ _ _ _ => trivial))) RX5 gX5_readShip_X5_addItem rfl ⟨rfl, rfl⟩ pdX5_addItem rfl ⟨Nat.le_of_ble_eq_true rfl, Nat.le_of_ble_eq_true rfl⟩ (fun _ _ _ _ q => q) (va_recv hE.1 hPc (ci := 4) (q0 := 0) rfl rfl) (fun U hU _ _ => by rw [hU]; exact hPc) hl.1 rfl (Nat.le_of_ble_eq_true rfl) dX5_readShip_89 ⟨Nat.zero_le _, Nat.zero_le _⟩) hP (hD _ rfl) hS rfl rfl rfl (fun H locs hP hS => ?_)
          refine lv_aload_n hx hb dX5_readShip_92 rfl (lv_at hl 2 rfl) ?_
          refine lv_dup hx hb dX5_readShip_93 rfl ?_
          refine va_get (D := D) (ci := 4) (v := .int ht) (C := RX5) (T := TX5) (N := 21) hx hb hts hinX5 hown hE.1 hP 0 rfl rfl 16 (by decide) (hts _ (List.mem_of_getElem? (i := 1) rfl)) (fun _ h9 => h9) rfl dX5_readShip_94 ?_
          refine lv_iconst (v := 1) hx hb dX5_readShip_97 (by decide) ?_
          refine lv_iadd hx hb dX5_readShip_98 ?_
          refine va_put (D := D) (ci := 4) (v := .int (ht + 1)) (ty := .int) (C := RX5) (T := TX5) (N := 21) hx hb hts hinX5 tyX5 tyX5_ok nmX5 hown hE.1 hP (hD _ rfl) hS 0 rfl rfl 16 (by decide) (hts _ (List.mem_of_getElem? (i := 1) rfl)) (fun _ h9 => h9) rfl (by decide +kernel) rfl rfl (Nat.le_of_ble_eq_true rfl) dX5_readShip_99 (fun H locs hP _ hS => ?_)
          have hP : va_P D vwCl (wX5 cI cS a0 a1 a2 a3 a4 a5 a6 a7 a8 a9 a10 a11 nw kp ad fd tp kn z_49.1 wd sz nm mv ik td z_46.2.1 z_46.2.2.1 z_46.2.2.2.1 z_46.2.2.2.2.1 z_46.2.2.2.2.2 z_49.2 st (ht + 1)) H := hP
          obtain ⟨q0, g0⟩ := Prod.mk.inj (Option.some.inj h)
          obtain ⟨q1, g1⟩ := Prod.mk.inj g0
          obtain ⟨q2, g2⟩ := Prod.mk.inj g1
          obtain ⟨q3, g3⟩ := Prod.mk.inj g2
          obtain ⟨q4, g4⟩ := Prod.mk.inj g3
          obtain ⟨q5, g5⟩ := Prod.mk.inj g4
          obtain ⟨q6, q7⟩ := Prod.mk.inj g5
          subst q0 q1 q2 q3 q4 q5 q6 q7
          exact eMv C0 hP hS rfl dX5_readShip_102
        · have h := ifn c_48 h
          refine lv_aload_n hx hb dX5_readShip_78 rfl (lv_at hl 2 rfl) ?_
          refine lv_iconst (v := 1) hx hb dX5_readShip_79 (by decide) ?_
          refine lv_iconst (v := 5) hx hb dX5_readShip_80 (by decide) ?_
          obtain ⟨z_51, e_52, h⟩ := bds h
          have hPc := hP.sub (ws' := (wX5 cI cS a0 a1 a2 a3 a4 a5 a6 a7 a8 a9 a10 a11 nw kp ad fd tp kn it wd sz nm mv ik td z_46.2.1 z_46.2.2.1 z_46.2.2.2.1 z_46.2.2.2.2.1 z_46.2.2.2.2.2 im st ht)) [0, 1, 2, 3, 4, 5, 6, 7, 8, 9, 10, 11] rfl
          refine kMi (wf' := (wX5 cI cS a0 a1 a2 a3 a4 a5 a6 a7 a8 a9 a10 a11 nw kp ad fd tp kn it wd sz nm mv ik td z_51.2.1 z_51.2.2.1 z_51.2.2.2.1 z_51.2.2.2.2.1 z_51.2.2.2.2.2 im st ht)) [0, 1, 2, 3, 4, 5, 6, 7, 8, 9, 10, 11] [some 0, some 1, some 2, some 3, some 4, some 5, some 6, some 7, some 8, some 9, some 10, some 11] (rV C0 (tX5_number l D cI cS F a0 a1 a2 a3 a4 a5 a6 a7 a8 a9 a10 a11 nw kp ad fd tp kn it wd sz nm mv ik td z_46.2.1 z_46.2.2.1 z_46.2.2.2.1 z_46.2.2.2.2.1 z_46.2.2.2.2.2 im st ht 1 5 z_51.1 z_51.2.1 z_51.2.2.1 z_51.2.2.2.1 z_51.2.2.2.2.1 z_51.2.2.2.2.2 e_52 (((hD (wX5 cI cS a0 a1 a2 a3 a4 a5 a6 a7 a8 a9 a10 a11 nw kp ad fd tp kn it wd sz nm mv ik td z_46.2.1 z_46.2.2.1 z_46.2.2.2.1 z_46.2.2.2.2.1 z_46.2.2.2.2.2 im st ht) rfl).sub [0, 1, 2, 3, 4, 5, 6, 7, 8, 9, 10, 11] (by decide) rfl).weaken (fun _ _ _ _ => trivial))) RX5 gX5_readShip_X5_number rfl ⟨rfl, rfl⟩ pdX5_number rfl ⟨Nat.le_of_ble_eq_true rfl, Nat.le_of_ble_eq_true rfl⟩ (fun _ _ _ _ q => q) (va_recv hE.1 hPc (ci := 4) (q0 := 0) rfl rfl) (fun U hU _ _ => by rw [hU]; exact hPc) hl.1 rfl (Nat.le_of_ble_eq_true rfl) dX5_readShip_81 ⟨Nat.zero_le _, Nat.zero_le _⟩) hP (hD _ rfl) hS rfl rfl rfl (fun H locs hP hS => ?_)
          refine lv_goto (tgt := 88) hx hb dX5_readShip_84 (by decide) ?_
          refine lv_iconst (v := 0) hx hb dX5_readShip_88 (by decide) ?_
          obtain ⟨z_53, e_54, h⟩ := bds h
          have hPc := hP.sub (ws' := (wX5 cI cS a0 a1 a2 a3 a4 a5 a6 a7 a8 a9 a10 a11 nw kp ad fd tp kn it wd sz nm mv ik td z_51.2.1 z_51.2.2.1 z_51.2.2.2.1 z_51.2.2.2.2.1 z_51.2.2.2.2.2 im st ht)) [0, 1, 2, 3, 4, 5, 6, 7, 8, 9, 10, 11] rfl
          refine kMv (wf' := (wX5 cI cS a0 a1 a2 a3 a4 a5 a6 a7 a8 a9 a10 a11 nw kp ad fd tp kn z_53.1 wd sz nm mv ik td z_51.2.1 z_51.2.2.1 z_51.2.2.2.1 z_51.2.2.2.2.1 z_51.2.2.2.2.2 z_53.2 st ht)) [0, 1, 2, 3, 4, 5, 6, 7, 8, 9, 10, 11] [some 0, some 1, some 2, some 3, some 4, some 5, some 6, some 7, some 8, some 9, some 10, some 11] (rV C0 (tX5_addItem l D cI cS a0 a1 a2 a3 a4 a5 a6 a7 a8 a9 a10 a11 nw kp ad fd tp kn it wd sz nm mv ik td z_51.2.1 z_51.2.2.1 z_51.2.2.2.1 z_51.2.2.2.2.1 z_51.2.2.2.2.2 im st ht 10 z_30.1 z_44.1 z_51.1 0 z_53.1 z_53.2 e_54 (((hD (wX5 cI cS a0 a1 a2 a3 a4 a5 a6 a7 a8 a9 a10 a11 nw kp ad fd tp kn it wd sz nm mv ik td z_51.2.1 z_51.2.2.1 z_51.2.2.2.1 z_51.2.2.2.2.1 z_51.2.2.2.2.2 im st ht) rfl).sub [0, 1, 2, 3, 4, 5, 6, 7, 8, 9, 10, 11] (by decide) rfl).weaken (fun _ _ _ _ => trivial))) RX5 gX5_readShip_X5_addItem rfl ⟨rfl, rfl⟩ pdX5_addItem rfl ⟨Nat.le_of_ble_eq_true rfl, Nat.le_of_ble_eq_true rfl⟩ (fun _ _ _ _ q => q) (va_recv hE.1 hPc (ci := 4) (q0 := 0) rfl rfl) (fun U hU _ _ => by rw [hU]; exact hPc) hl.1 rfl (Nat.le_of_ble_eq_true rfl) dX5_readShip_89 ⟨Nat.zero_le _, Nat.zero_le _⟩) hP (hD _ rfl) hS rfl rfl rfl (fun H locs hP hS => ?_)
          refine lv_aload_n hx hb dX5_readShip_92 rfl (lv_at hl 2 rfl) ?_
          refine lv_dup hx hb dX5_readShip_93 rfl ?_
          refine va_get (D := D) (ci := 4) (v := .int ht) (C := RX5) (T := TX5) (N := 21) hx hb hts hinX5 hown hE.1 hP 0 rfl rfl 16 (by decide) (hts _ (List.mem_of_getElem? (i := 1) rfl)) (fun _ h9 => h9) rfl dX5_readShip_94 ?_
          refine lv_iconst (v := 1) hx hb dX5_readShip_97 (by decide) ?_
          refine lv_iadd hx hb dX5_readShip_98 ?_
          refine va_put (D := D) (ci := 4) (v := .int (ht + 1)) (ty := .int) (C := RX5) (T := TX5) (N := 21) hx hb hts hinX5 tyX5 tyX5_ok nmX5 hown hE.1 hP (hD _ rfl) hS 0 rfl rfl 16 (by decide) (hts _ (List.mem_of_getElem? (i := 1) rfl)) (fun _ h9 => h9) rfl (by decide +kernel) rfl rfl (Nat.le_of_ble_eq_true rfl) dX5_readShip_99 (fun H locs hP _ hS => ?_)
          have hP : va_P D vwCl (wX5 cI cS a0 a1 a2 a3 a4 a5 a6 a7 a8 a9 a10 a11 nw kp ad fd tp kn z_53.1 wd sz nm mv ik td z_51.2.1 z_51.2.2.1 z_51.2.2.2.1 z_51.2.2.2.2.1 z_51.2.2.2.2.2 z_53.2 st (ht + 1)) H := hP
          obtain ⟨q0, g0⟩ := Prod.mk.inj (Option.some.inj h)
          obtain ⟨q1, g1⟩ := Prod.mk.inj g0
          obtain ⟨q2, g2⟩ := Prod.mk.inj g1
          obtain ⟨q3, g3⟩ := Prod.mk.inj g2
          obtain ⟨q4, g4⟩ := Prod.mk.inj g3
          obtain ⟨q5, g5⟩ := Prod.mk.inj g4
          obtain ⟨q6, q7⟩ := Prod.mk.inj g5
          subst q0 q1 q2 q3 q4 q5 q6 q7
          exact eMv C0 hP hS rfl dX5_readShip_102
  · have h := ifn c_1 h
    refine lv_iconst (v := 1) hx hb dX5_readShip_10 (by decide) ?_
    refine lv_goto (tgt := 15) hx hb dX5_readShip_11 (by decide) ?_
    obtain ⟨z_55, e_56, h⟩ := bds h
    have hPc := hP.sub (ws' := (wX5 cI cS a0 a1 a2 a3 a4 a5 a6 a7 a8 a9 a10 a11 nw kp ad fd tp kn it wd sz nm mv ik td bg en so va iw im st ht)) [0, 1, 2, 3, 4, 5, 6, 7, 8, 9, 10, 11] rfl
    refine kMv (wf' := (wX5 cI cS a0 a1 a2 a3 a4 a5 a6 a7 a8 a9 a10 a11 nw kp ad fd tp kn it wd sz nm mv ik td z_55.1 z_55.2.1 z_55.2.2.1 z_55.2.2.2.1 z_55.2.2.2.2 im st ht)) [0, 1, 2, 3, 4, 5, 6, 7, 8, 9, 10, 11] [some 0, some 1, some 2, some 3, some 4, some 5, some 6, some 7, some 8, some 9, some 10, some 11] (rV C0 (tX5_must l D cI cS F a0 a1 a2 a3 a4 a5 a6 a7 a8 a9 a10 a11 nw kp ad fd tp kn it wd sz nm mv ik td bg en so va iw im st ht 1 z_55.1 z_55.2.1 z_55.2.2.1 z_55.2.2.2.1 z_55.2.2.2.2 e_56 (((hD (wX5 cI cS a0 a1 a2 a3 a4 a5 a6 a7 a8 a9 a10 a11 nw kp ad fd tp kn it wd sz nm mv ik td bg en so va iw im st ht) rfl).sub [0, 1, 2, 3, 4, 5, 6, 7, 8, 9, 10, 11] (by decide) rfl).weaken (fun _ _ _ _ => trivial))) RX5 gX5_readShip_X5_must rfl ⟨rfl, rfl⟩ pdX5_must rfl ⟨Nat.le_of_ble_eq_true rfl, Nat.le_of_ble_eq_true rfl⟩ (fun _ _ _ _ q => q) (va_recv hE.1 hPc (ci := 4) (q0 := 0) rfl rfl) (fun U hU _ _ => by rw [hU]; exact hPc) hl.1 rfl (Nat.le_of_ble_eq_true rfl) dX5_readShip_15 ⟨Nat.zero_le _, Nat.zero_le _⟩) hP (hD _ rfl) hS rfl rfl rfl (fun H locs hP hS => ?_)
    refine lv_aload_n hx hb dX5_readShip_18 rfl (lv_at hl 0 rfl) ?_
    refine ldwS hx hb hown (show vk_R RX5 303 "at" (cs.1 9) s from hCS.2.2.2.1 ("VaguePortModel", 303, "at", 9) (List.mem_of_getElem? (i := 16) rfl)) dX5_readShip_19 ?_
    obtain ⟨z_57, e_58, h⟩ := bds h
    have hPc := hP.sub (ws' := (wX5 cI cS a0 a1 a2 a3 a4 a5 a6 a7 a8 a9 a10 a11 nw kp ad fd tp kn it wd sz nm mv ik td z_55.1 z_55.2.1 z_55.2.2.1 z_55.2.2.2.1 z_55.2.2.2.2 im st ht)) [0, 1, 2, 3, 4, 5, 6, 7, 8, 9, 10, 11] rfl
    refine kMi (wf' := (wX5 cI cS a0 a1 a2 a3 a4 a5 a6 a7 a8 a9 a10 a11 nw kp ad fd tp kn it wd sz nm mv ik td z_57.2.1 z_57.2.2.1 z_57.2.2.2.1 z_57.2.2.2.2.1 z_57.2.2.2.2.2 im st ht)) [0, 1, 2, 3, 4, 5, 6, 7, 8, 9, 10, 11] [some 0, some 1, some 2, some 3, some 4, some 5, some 6, some 7, some 8, some 9, some 10, some 11] (rV C0 (tX5_takesWord l D cI cS cs F a0 a1 a2 a3 a4 a5 a6 a7 a8 a9 a10 a11 nw kp ad fd tp kn it wd sz nm mv ik td z_55.1 z_55.2.1 z_55.2.2.1 z_55.2.2.2.1 z_55.2.2.2.2 im st ht 9 z_57.1 z_57.2.1 z_57.2.2.1 z_57.2.2.2.1 z_57.2.2.2.2.1 z_57.2.2.2.2.2 e_58 (by decide) (((hD (wX5 cI cS a0 a1 a2 a3 a4 a5 a6 a7 a8 a9 a10 a11 nw kp ad fd tp kn it wd sz nm mv ik td z_55.1 z_55.2.1 z_55.2.2.1 z_55.2.2.2.1 z_55.2.2.2.2 im st ht) rfl).sub [0, 1, 2, 3, 4, 5, 6, 7, 8, 9, 10, 11] (by decide) rfl).weaken (fun _ _ _ _ => trivial))) RX5 gX5_readShip_X5_takesWord rfl ⟨rfl, rfl⟩ pdX5_takesWord rfl ⟨Nat.le_of_ble_eq_true rfl, Nat.le_of_ble_eq_true rfl⟩ (fun _ _ _ _ q => ⟨q.1, q.2.call⟩) (va_recv hE.1 hPc (ci := 4) (q0 := 0) rfl rfl) (fun U hU hW _ => ⟨by rw [hU]; exact hPc, by rw [hU]; exact ((hCS.kept hS.2.1).narrow (fun q h => va_D.inA (hD (wX5 cI cS a0 a1 a2 a3 a4 a5 a6 a7 a8 a9 a10 a11 nw kp ad fd tp kn it wd sz nm mv ik td z_55.1 z_55.2.1 z_55.2.2.1 z_55.2.2.2.1 z_55.2.2.2.2 im st ht) rfl) [0, 1, 2, 3, 4, 5, 6, 7, 8, 9, 10, 11] rfl h)).warm hW⟩) hl.1 rfl (Nat.le_of_ble_eq_true rfl) dX5_readShip_22 ⟨Nat.zero_le _, Nat.zero_le _⟩) hP (hD _ rfl) hS rfl rfl rfl (fun H locs hP hS => ?_)
    refine lv_if_eq (tgt := 38) hx hb dX5_readShip_25 (by decide) (fun c_59 => ?_) (fun c_59 => ?_)
    · have h := ifp c_59 h
      refine lv_iconst (v := 0) hx hb dX5_readShip_38 (by decide) ?_
      refine lv_istore_n (lv' := [(1, .int 0), (0, .ref a0)]) hx hb dX5_readShip_39 rfl hl (by decide) rfl (fun ls hl => ?_)
      refine lv_aload_n hx hb dX5_readShip_40 rfl (lv_at hl 1 rfl) ?_
      refine ldwS hx hb hown (show vk_R RX5 319 "sees" (cs.1 12) s from hCS.2.2.2.1 ("VaguePortModel", 319, "sees", 12) (List.mem_of_getElem? (i := 20) rfl)) dX5_readShip_41 ?_
      obtain ⟨z_60, e_61, h⟩ := bds h
      have hPc := hP.sub (ws' := (wX5 cI cS a0 a1 a2 a3 a4 a5 a6 a7 a8 a9 a10 a11 nw kp ad fd tp kn it wd sz nm mv ik td z_57.2.1 z_57.2.2.1 z_57.2.2.2.1 z_57.2.2.2.2.1 z_57.2.2.2.2.2 im st ht)) [0, 1, 2, 3, 4, 5, 6, 7, 8, 9, 10, 11] rfl
      refine kMi (wf' := (wX5 cI cS a0 a1 a2 a3 a4 a5 a6 a7 a8 a9 a10 a11 nw kp ad fd tp kn it wd sz nm mv ik td z_60.2.1 z_60.2.2.1 z_60.2.2.2.1 z_60.2.2.2.2.1 z_60.2.2.2.2.2 im st ht)) [0, 1, 2, 3, 4, 5, 6, 7, 8, 9, 10, 11] [some 0, some 1, some 2, some 3, some 4, some 5, some 6, some 7, some 8, some 9, some 10, some 11] (rV C0 (tX5_takesWord l D cI cS cs F a0 a1 a2 a3 a4 a5 a6 a7 a8 a9 a10 a11 nw kp ad fd tp kn it wd sz nm mv ik td z_57.2.1 z_57.2.2.1 z_57.2.2.2.1 z_57.2.2.2.2.1 z_57.2.2.2.2.2 im st ht 12 z_60.1 z_60.2.1 z_60.2.2.1 z_60.2.2.2.1 z_60.2.2.2.2.1 z_60.2.2.2.2.2 e_61 (by decide) (((hD (wX5 cI cS a0 a1 a2 a3 a4 a5 a6 a7 a8 a9 a10 a11 nw kp ad fd tp kn it wd sz nm mv ik td z_57.2.1 z_57.2.2.1 z_57.2.2.2.1 z_57.2.2.2.2.1 z_57.2.2.2.2.2 im st ht) rfl).sub [0, 1, 2, 3, 4, 5, 6, 7, 8, 9, 10, 11] (by decide) rfl).weaken (fun _ _ _ _ => trivial))) RX5 gX5_readShip_X5_takesWord rfl ⟨rfl, rfl⟩ pdX5_takesWord rfl ⟨Nat.le_of_ble_eq_true rfl, Nat.le_of_ble_eq_true rfl⟩ (fun _ _ _ _ q => ⟨q.1, q.2.call⟩) (va_recv hE.1 hPc (ci := 4) (q0 := 0) rfl rfl) (fun U hU hW _ => ⟨by rw [hU]; exact hPc, by rw [hU]; exact ((hCS.kept hS.2.1).narrow (fun q h => va_D.inA (hD (wX5 cI cS a0 a1 a2 a3 a4 a5 a6 a7 a8 a9 a10 a11 nw kp ad fd tp kn it wd sz nm mv ik td z_57.2.1 z_57.2.2.1 z_57.2.2.2.1 z_57.2.2.2.2.1 z_57.2.2.2.2.2 im st ht) rfl) [0, 1, 2, 3, 4, 5, 6, 7, 8, 9, 10, 11] rfl h)).warm hW⟩) hl.1 rfl (Nat.le_of_ble_eq_true rfl) dX5_readShip_44 ⟨Nat.zero_le _, Nat.zero_le _⟩) hP (hD _ rfl) hS rfl rfl rfl (fun H locs hP hS => ?_)
      refine lv_if_eq (tgt := 60) hx hb dX5_readShip_47 (by decide) (fun c_62 => ?_) (fun c_62 => ?_)
      · have h := ifp c_62 h
        refine lv_bipush (v := 30) hx hb dX5_readShip_60 (by decide) ?_
        refine lv_istore_n (lv' := [(2, .int 30), (1, .int 0), (0, .ref a0)]) hx hb dX5_readShip_62 rfl hl (by decide) rfl (fun ls hl => ?_)
        refine lv_aload_n hx hb dX5_readShip_63 rfl (lv_at hl 2 rfl) ?_
        refine lv_bipush (v := 10) hx hb dX5_readShip_64 (by decide) ?_
        refine lv_iload_n hx hb dX5_readShip_66 rfl (lv_at hl 1 rfl) ?_
        refine lv_iload_n hx hb dX5_readShip_67 rfl (lv_at hl 0 rfl) ?_
        refine lv_aload_n hx hb dX5_readShip_68 rfl (lv_at hl 2 rfl) ?_
        refine ldwS hx hb hown (show vk_R RX5 321 "fast" (cs.1 13) s from hCS.2.2.2.1 ("VaguePortModel", 321, "fast", 13) (List.mem_of_getElem? (i := 21) rfl)) dX5_readShip_69 ?_
        obtain ⟨z_63, e_64, h⟩ := bds h
        have hPc := hP.sub (ws' := (wX5 cI cS a0 a1 a2 a3 a4 a5 a6 a7 a8 a9 a10 a11 nw kp ad fd tp kn it wd sz nm mv ik td z_60.2.1 z_60.2.2.1 z_60.2.2.2.1 z_60.2.2.2.2.1 z_60.2.2.2.2.2 im st ht)) [0, 1, 2, 3, 4, 5, 6, 7, 8, 9, 10, 11] rfl
        refine kMi (wf' := (wX5 cI cS a0 a1 a2 a3 a4 a5 a6 a7 a8 a9 a10 a11 nw kp ad fd tp kn it wd sz nm mv ik td z_63.2.1 z_63.2.2.1 z_63.2.2.2.1 z_63.2.2.2.2.1 z_63.2.2.2.2.2 im st ht)) [0, 1, 2, 3, 4, 5, 6, 7, 8, 9, 10, 11] [some 0, some 1, some 2, some 3, some 4, some 5, some 6, some 7, some 8, some 9, some 10, some 11] (rV C0 (tX5_takesWord l D cI cS cs F a0 a1 a2 a3 a4 a5 a6 a7 a8 a9 a10 a11 nw kp ad fd tp kn it wd sz nm mv ik td z_60.2.1 z_60.2.2.1 z_60.2.2.2.1 z_60.2.2.2.2.1 z_60.2.2.2.2.2 im st ht 13 z_63.1 z_63.2.1 z_63.2.2.1 z_63.2.2.2.1 z_63.2.2.2.2.1 z_63.2.2.2.2.2 e_64 (by decide) (((hD (wX5 cI cS a0 a1 a2 a3 a4 a5 a6 a7 a8 a9 a10 a11 nw kp ad fd tp kn it wd sz nm mv ik td z_60.2.1 z_60.2.2.1 z_60.2.2.2.1 z_60.2.2.2.2.1 z_60.2.2.2.2.2 im st ht) rfl).sub [0, 1, 2, 3, 4, 5, 6, 7, 8, 9, 10, 11] (by decide) rfl).weaken (fun _ _ _ _ => trivial))) RX5 gX5_readShip_X5_takesWord rfl ⟨rfl, rfl⟩ pdX5_takesWord rfl ⟨Nat.le_of_ble_eq_true rfl, Nat.le_of_ble_eq_true rfl⟩ (fun _ _ _ _ q => ⟨q.1, q.2.call⟩) (va_recv hE.1 hPc (ci := 4) (q0 := 0) rfl rfl) (fun U hU hW _ => ⟨by rw [hU]; exact hPc, by rw [hU]; exact ((hCS.kept hS.2.1).narrow (fun q h => va_D.inA (hD (wX5 cI cS a0 a1 a2 a3 a4 a5 a6 a7 a8 a9 a10 a11 nw kp ad fd tp kn it wd sz nm mv ik td z_60.2.1 z_60.2.2.1 z_60.2.2.2.1 z_60.2.2.2.2.1 z_60.2.2.2.2.2 im st ht) rfl) [0, 1, 2, 3, 4, 5, 6, 7, 8, 9, 10, 11] rfl h)).warm hW⟩) hl.1 rfl (Nat.le_of_ble_eq_true rfl) dX5_readShip_72 ⟨Nat.zero_le _, Nat.zero_le _⟩) hP (hD _ rfl) hS rfl rfl rfl (fun H locs hP hS => ?_)
        refine lv_if_eq (tgt := 87) hx hb dX5_readShip_75 (by decide) (fun c_65 => ?_) (fun c_65 => ?_)
        · have h := ifp c_65 h
          refine lv_iconst (v := 2) hx hb dX5_readShip_87 (by decide) ?_
          refine lv_iconst (v := 0) hx hb dX5_readShip_88 (by decide) ?_
          obtain ⟨z_66, e_67, h⟩ := bds h
          have hPc := hP.sub (ws' := (wX5 cI cS a0 a1 a2 a3 a4 a5 a6 a7 a8 a9 a10 a11 nw kp ad fd tp kn it wd sz nm mv ik td z_63.2.1 z_63.2.2.1 z_63.2.2.2.1 z_63.2.2.2.2.1 z_63.2.2.2.2.2 im st ht)) [0, 1, 2, 3, 4, 5, 6, 7, 8, 9, 10, 11] rfl
          refine kMv (wf' := (wX5 cI cS a0 a1 a2 a3 a4 a5 a6 a7 a8 a9 a10 a11 nw kp ad fd tp kn z_66.1 wd sz nm mv ik td z_63.2.1 z_63.2.2.1 z_63.2.2.2.1 z_63.2.2.2.2.1 z_63.2.2.2.2.2 z_66.2 st ht)) [0, 1, 2, 3, 4, 5, 6, 7, 8, 9, 10, 11] [some 0, some 1, some 2, some 3, some 4, some 5, some 6, some 7, some 8, some 9, some 10, some 11] (rV C0 (tX5_addItem l D cI cS a0 a1 a2 a3 a4 a5 a6 a7 a8 a9 a10 a11 nw kp ad fd tp kn it wd sz nm mv ik td z_63.2.1 z_63.2.2.1 z_63.2.2.2.1 z_63.2.2.2.2.1 z_63.2.2.2.2.2 im st ht 10 0 30 2 0 z_66.1 z_66.2 e_67 (((hD (wX5 cI cS a0 a1 a2 a3 a4 a5 a6 a7 a8 a9 a10 a11 nw kp ad fd tp kn it wd sz nm mv ik td z_63.2.1 z_63.2.2.1 z_63.2.2.2.1 z_63.2.2.2.2.1 z_63.2.2.2.2.2 im st ht) rfl).sub [0, 1, 2, 3, 4, 5, 6, 7, 8, 9, 10, 11] (by decide) rfl).weaken (fun _ _ _ _ => trivial))) RX5 gX5_readShip_X5_addItem rfl ⟨rfl, rfl⟩ pdX5_addItem rfl ⟨Nat.le_of_ble_eq_true rfl, Nat.le_of_ble_eq_true rfl⟩ (fun _ _ _ _ q => q) (va_recv hE.1 hPc (ci := 4) (q0 := 0) rfl rfl) (fun U hU _ _ => by rw [hU]; exact hPc) hl.1 rfl (Nat.le_of_ble_eq_true rfl) dX5_readShip_89 ⟨Nat.zero_le _, Nat.zero_le _⟩) hP (hD _ rfl) hS rfl rfl rfl (fun H locs hP hS => ?_)
          refine lv_aload_n hx hb dX5_readShip_92 rfl (lv_at hl 2 rfl) ?_
          refine lv_dup hx hb dX5_readShip_93 rfl ?_
          refine va_get (D := D) (ci := 4) (v := .int ht) (C := RX5) (T := TX5) (N := 21) hx hb hts hinX5 hown hE.1 hP 0 rfl rfl 16 (by decide) (hts _ (List.mem_of_getElem? (i := 1) rfl)) (fun _ h9 => h9) rfl dX5_readShip_94 ?_
          refine lv_iconst (v := 1) hx hb dX5_readShip_97 (by decide) ?_
          refine lv_iadd hx hb dX5_readShip_98 ?_
          refine va_put (D := D) (ci := 4) (v := .int (ht + 1)) (ty := .int) (C := RX5) (T := TX5) (N := 21) hx hb hts hinX5 tyX5 tyX5_ok nmX5 hown hE.1 hP (hD _ rfl) hS 0 rfl rfl 16 (by decide) (hts _ (List.mem_of_getElem? (i := 1) rfl)) (fun _ h9 => h9) rfl (by decide +kernel) rfl rfl (Nat.le_of_ble_eq_true rfl) dX5_readShip_99 (fun H locs hP _ hS => ?_)
          have hP : va_P D vwCl (wX5 cI cS a0 a1 a2 a3 a4 a5 a6 a7 a8 a9 a10 a11 nw kp ad fd tp kn z_66.1 wd sz nm mv ik td z_63.2.1 z_63.2.2.1 z_63.2.2.2.1 z_63.2.2.2.2.1 z_63.2.2.2.2.2 z_66.2 st (ht + 1)) H := hP
          obtain ⟨q0, g0⟩ := Prod.mk.inj (Option.some.inj h)
          obtain ⟨q1, g1⟩ := Prod.mk.inj g0
          obtain ⟨q2, g2⟩ := Prod.mk.inj g1
          obtain ⟨q3, g3⟩ := Prod.mk.inj g2
          obtain ⟨q4, g4⟩ := Prod.mk.inj g3
          obtain ⟨q5, g5⟩ := Prod.mk.inj g4
          obtain ⟨q6, q7⟩ := Prod.mk.inj g5
          subst q0 q1 q2 q3 q4 q5 q6 q7
          exact eMv C0 hP hS rfl dX5_readShip_102
        · have h := ifn c_65 h
          refine lv_aload_n hx hb dX5_readShip_78 rfl (lv_at hl 2 rfl) ?_
          refine lv_iconst (v := 1) hx hb dX5_readShip_79 (by decide) ?_
          refine lv_iconst (v := 5) hx hb dX5_readShip_80 (by decide) ?_
          obtain ⟨z_68, e_69, h⟩ := bds h
          have hPc := hP.sub (ws' := (wX5 cI cS a0 a1 a2 a3 a4 a5 a6 a7 a8 a9 a10 a11 nw kp ad fd tp kn it wd sz nm mv ik td z_63.2.1 z_63.2.2.1 z_63.2.2.2.1 z_63.2.2.2.2.1 z_63.2.2.2.2.2 im st ht)) [0, 1, 2, 3, 4, 5, 6, 7, 8, 9, 10, 11] rfl
          refine kMi (wf' := (wX5 cI cS a0 a1 a2 a3 a4 a5 a6 a7 a8 a9 a10 a11 nw kp ad fd tp kn it wd sz nm mv ik td z_68.2.1 z_68.2.2.1 z_68.2.2.2.1 z_68.2.2.2.2.1 z_68.2.2.2.2.2 im st ht)) [0, 1, 2, 3, 4, 5, 6, 7, 8, 9, 10, 11] [some 0, some 1, some 2, some 3, some 4, some 5, some 6, some 7, some 8, some 9, some 10, some 11] (rV C0 (tX5_number l D cI cS F a0 a1 a2 a3 a4 a5 a6 a7 a8 a9 a10 a11 nw kp ad fd tp kn it wd sz nm mv ik td z_63.2.1 z_63.2.2.1 z_63.2.2.2.1 z_63.2.2.2.2.1 z_63.2.2.2.2.2 im st ht 1 5 z_68.1 z_68.2.1 z_68.2.2.1 z_68.2.2.2.1 z_68.2.2.2.2.1 z_68.2.2.2.2.2 e_69 (((hD (wX5 cI cS a0 a1 a2 a3 a4 a5 a6 a7 a8 a9 a10 a11 nw kp ad fd tp kn it wd sz nm mv ik td z_63.2.1 z_63.2.2.1 z_63.2.2.2.1 z_63.2.2.2.2.1 z_63.2.2.2.2.2 im st ht) rfl).sub [0, 1, 2, 3, 4, 5, 6, 7, 8, 9, 10, 11] (by decide) rfl).weaken (fun _ _ _ _ => trivial))) RX5 gX5_readShip_X5_number rfl ⟨rfl, rfl⟩ pdX5_number rfl ⟨Nat.le_of_ble_eq_true rfl, Nat.le_of_ble_eq_true rfl⟩ (fun _ _ _ _ q => q) (va_recv hE.1 hPc (ci := 4) (q0 := 0) rfl rfl) (fun U hU _ _ => by rw [hU]; exact hPc) hl.1 rfl (Nat.le_of_ble_eq_true rfl) dX5_readShip_81 ⟨Nat.zero_le _, Nat.zero_le _⟩) hP (hD _ rfl) hS rfl rfl rfl (fun H locs hP hS => ?_)
          refine lv_goto (tgt := 88) hx hb dX5_readShip_84 (by decide) ?_
          refine lv_iconst (v := 0) hx hb dX5_readShip_88 (by decide) ?_
          obtain ⟨z_70, e_71, h⟩ := bds h
          have hPc := hP.sub (ws' := (wX5 cI cS a0 a1 a2 a3 a4 a5 a6 a7 a8 a9 a10 a11 nw kp ad fd tp kn it wd sz nm mv ik td z_68.2.1 z_68.2.2.1 z_68.2.2.2.1 z_68.2.2.2.2.1 z_68.2.2.2.2.2 im st ht)) [0, 1, 2, 3, 4, 5, 6, 7, 8, 9, 10, 11] rfl
          refine kMv (wf' := (wX5 cI cS a0 a1 a2 a3 a4 a5 a6 a7 a8 a9 a10 a11 nw kp ad fd tp kn z_70.1 wd sz nm mv ik td z_68.2.1 z_68.2.2.1 z_68.2.2.2.1 z_68.2.2.2.2.1 z_68.2.2.2.2.2 z_70.2 st ht)) [0, 1, 2, 3, 4, 5, 6, 7, 8, 9, 10, 11] [some 0, some 1, some 2, some 3, some 4, some 5, some 6, some 7, some 8, some 9, some 10, some 11] (rV C0 (tX5_addItem l D cI cS a0 a1 a2 a3 a4 a5 a6 a7 a8 a9 a10 a11 nw kp ad fd tp kn it wd sz nm mv ik td z_68.2.1 z_68.2.2.1 z_68.2.2.2.1 z_68.2.2.2.2.1 z_68.2.2.2.2.2 im st ht 10 0 30 z_68.1 0 z_70.1 z_70.2 e_71 (((hD (wX5 cI cS a0 a1 a2 a3 a4 a5 a6 a7 a8 a9 a10 a11 nw kp ad fd tp kn it wd sz nm mv ik td z_68.2.1 z_68.2.2.1 z_68.2.2.2.1 z_68.2.2.2.2.1 z_68.2.2.2.2.2 im st ht) rfl).sub [0, 1, 2, 3, 4, 5, 6, 7, 8, 9, 10, 11] (by decide) rfl).weaken (fun _ _ _ _ => trivial))) RX5 gX5_readShip_X5_addItem rfl ⟨rfl, rfl⟩ pdX5_addItem rfl ⟨Nat.le_of_ble_eq_true rfl, Nat.le_of_ble_eq_true rfl⟩ (fun _ _ _ _ q => q) (va_recv hE.1 hPc (ci := 4) (q0 := 0) rfl rfl) (fun U hU _ _ => by rw [hU]; exact hPc) hl.1 rfl (Nat.le_of_ble_eq_true rfl) dX5_readShip_89 ⟨Nat.zero_le _, Nat.zero_le _⟩) hP (hD _ rfl) hS rfl rfl rfl (fun H locs hP hS => ?_)
          refine lv_aload_n hx hb dX5_readShip_92 rfl (lv_at hl 2 rfl) ?_
          refine lv_dup hx hb dX5_readShip_93 rfl ?_
          refine va_get (D := D) (ci := 4) (v := .int ht) (C := RX5) (T := TX5) (N := 21) hx hb hts hinX5 hown hE.1 hP 0 rfl rfl 16 (by decide) (hts _ (List.mem_of_getElem? (i := 1) rfl)) (fun _ h9 => h9) rfl dX5_readShip_94 ?_
          refine lv_iconst (v := 1) hx hb dX5_readShip_97 (by decide) ?_
          refine lv_iadd hx hb dX5_readShip_98 ?_
          refine va_put (D := D) (ci := 4) (v := .int (ht + 1)) (ty := .int) (C := RX5) (T := TX5) (N := 21) hx hb hts hinX5 tyX5 tyX5_ok nmX5 hown hE.1 hP (hD _ rfl) hS 0 rfl rfl 16 (by decide) (hts _ (List.mem_of_getElem? (i := 1) rfl)) (fun _ h9 => h9) rfl (by decide +kernel) rfl rfl (Nat.le_of_ble_eq_true rfl) dX5_readShip_99 (fun H locs hP _ hS => ?_)
          have hP : va_P D vwCl (wX5 cI cS a0 a1 a2 a3 a4 a5 a6 a7 a8 a9 a10 a11 nw kp ad fd tp kn z_70.1 wd sz nm mv ik td z_68.2.1 z_68.2.2.1 z_68.2.2.2.1 z_68.2.2.2.2.1 z_68.2.2.2.2.2 z_70.2 st (ht + 1)) H := hP
          obtain ⟨q0, g0⟩ := Prod.mk.inj (Option.some.inj h)
          obtain ⟨q1, g1⟩ := Prod.mk.inj g0
          obtain ⟨q2, g2⟩ := Prod.mk.inj g1
          obtain ⟨q3, g3⟩ := Prod.mk.inj g2
          obtain ⟨q4, g4⟩ := Prod.mk.inj g3
          obtain ⟨q5, g5⟩ := Prod.mk.inj g4
          obtain ⟨q6, q7⟩ := Prod.mk.inj g5
          subst q0 q1 q2 q3 q4 q5 q6 q7
          exact eMv C0 hP hS rfl dX5_readShip_102
      · have h := ifn c_62 h
        refine lv_aload_n hx hb dX5_readShip_50 rfl (lv_at hl 1 rfl) ?_
        refine lv_iconst (v := 0) hx hb dX5_readShip_51 (by decide) ?_
        refine lv_bipush (v := 99) hx hb dX5_readShip_52 (by decide) ?_
        obtain ⟨z_72, e_73, h⟩ := bds h
        have hPc := hP.sub (ws' := (wX5 cI cS a0 a1 a2 a3 a4 a5 a6 a7 a8 a9 a10 a11 nw kp ad fd tp kn it wd sz nm mv ik td z_60.2.1 z_60.2.2.1 z_60.2.2.2.1 z_60.2.2.2.2.1 z_60.2.2.2.2.2 im st ht)) [0, 1, 2, 3, 4, 5, 6, 7, 8, 9, 10, 11] rfl
        refine kMi (wf' := (wX5 cI cS a0 a1 a2 a3 a4 a5 a6 a7 a8 a9 a10 a11 nw kp ad fd tp kn it wd sz nm mv ik td z_72.2.1 z_72.2.2.1 z_72.2.2.2.1 z_72.2.2.2.2.1 z_72.2.2.2.2.2 im st ht)) [0, 1, 2, 3, 4, 5, 6, 7, 8, 9, 10, 11] [some 0, some 1, some 2, some 3, some 4, some 5, some 6, some 7, some 8, some 9, some 10, some 11] (rV C0 (tX5_number l D cI cS F a0 a1 a2 a3 a4 a5 a6 a7 a8 a9 a10 a11 nw kp ad fd tp kn it wd sz nm mv ik td z_60.2.1 z_60.2.2.1 z_60.2.2.2.1 z_60.2.2.2.2.1 z_60.2.2.2.2.2 im st ht 0 99 z_72.1 z_72.2.1 z_72.2.2.1 z_72.2.2.2.1 z_72.2.2.2.2.1 z_72.2.2.2.2.2 e_73 (((hD (wX5 cI cS a0 a1 a2 a3 a4 a5 a6 a7 a8 a9 a10 a11 nw kp ad fd tp kn it wd sz nm mv ik td z_60.2.1 z_60.2.2.1 z_60.2.2.2.1 z_60.2.2.2.2.1 z_60.2.2.2.2.2 im st ht) rfl).sub [0, 1, 2, 3, 4, 5, 6, 7, 8, 9, 10, 11] (by decide) rfl).weaken (fun _ _ _ _ => trivial))) RX5 gX5_readShip_X5_number rfl ⟨rfl, rfl⟩ pdX5_number rfl ⟨Nat.le_of_ble_eq_true rfl, Nat.le_of_ble_eq_true rfl⟩ (fun _ _ _ _ q => q) (va_recv hE.1 hPc (ci := 4) (q0 := 0) rfl rfl) (fun U hU _ _ => by rw [hU]; exact hPc) hl.1 rfl (Nat.le_of_ble_eq_true rfl) dX5_readShip_54 ⟨Nat.zero_le _, Nat.zero_le _⟩) hP (hD _ rfl) hS rfl rfl rfl (fun H locs hP hS => ?_)
        refine lv_goto (tgt := 62) hx hb dX5_readShip_57 (by decide) ?_
        refine lv_istore_n (lv' := [(2, .int z_72.1), (1, .int 0), (0, .ref a0)]) hx hb dX5_readShip_62 rfl hl (by decide) rfl (fun ls hl => ?_)
        refine lv_aload_n hx hb dX5_readShip_63 rfl (lv_at hl 2 rfl) ?_
        refine lv_bipush (v := 10) hx hb dX5_readShip_64 (by decide) ?_
        refine lv_iload_n hx hb dX5_readShip_66 rfl (lv_at hl 1 rfl) ?_
        refine lv_iload_n hx hb dX5_readShip_67 rfl (lv_at hl 0 rfl) ?_
        refine lv_aload_n hx hb dX5_readShip_68 rfl (lv_at hl 2 rfl) ?_
        refine ldwS hx hb hown (show vk_R RX5 321 "fast" (cs.1 13) s from hCS.2.2.2.1 ("VaguePortModel", 321, "fast", 13) (List.mem_of_getElem? (i := 21) rfl)) dX5_readShip_69 ?_
        obtain ⟨z_74, e_75, h⟩ := bds h
        have hPc := hP.sub (ws' := (wX5 cI cS a0 a1 a2 a3 a4 a5 a6 a7 a8 a9 a10 a11 nw kp ad fd tp kn it wd sz nm mv ik td z_72.2.1 z_72.2.2.1 z_72.2.2.2.1 z_72.2.2.2.2.1 z_72.2.2.2.2.2 im st ht)) [0, 1, 2, 3, 4, 5, 6, 7, 8, 9, 10, 11] rfl
        refine kMi (wf' := (wX5 cI cS a0 a1 a2 a3 a4 a5 a6 a7 a8 a9 a10 a11 nw kp ad fd tp kn it wd sz nm mv ik td z_74.2.1 z_74.2.2.1 z_74.2.2.2.1 z_74.2.2.2.2.1 z_74.2.2.2.2.2 im st ht)) [0, 1, 2, 3, 4, 5, 6, 7, 8, 9, 10, 11] [some 0, some 1, some 2, some 3, some 4, some 5, some 6, some 7, some 8, some 9, some 10, some 11] (rV C0 (tX5_takesWord l D cI cS cs F a0 a1 a2 a3 a4 a5 a6 a7 a8 a9 a10 a11 nw kp ad fd tp kn it wd sz nm mv ik td z_72.2.1 z_72.2.2.1 z_72.2.2.2.1 z_72.2.2.2.2.1 z_72.2.2.2.2.2 im st ht 13 z_74.1 z_74.2.1 z_74.2.2.1 z_74.2.2.2.1 z_74.2.2.2.2.1 z_74.2.2.2.2.2 e_75 (by decide) (((hD (wX5 cI cS a0 a1 a2 a3 a4 a5 a6 a7 a8 a9 a10 a11 nw kp ad fd tp kn it wd sz nm mv ik td z_72.2.1 z_72.2.2.1 z_72.2.2.2.1 z_72.2.2.2.2.1 z_72.2.2.2.2.2 im st ht) rfl).sub [0, 1, 2, 3, 4, 5, 6, 7, 8, 9, 10, 11] (by decide) rfl).weaken (fun _ _ _ _ => trivial))) RX5 gX5_readShip_X5_takesWord rfl ⟨rfl, rfl⟩ pdX5_takesWord rfl ⟨Nat.le_of_ble_eq_true rfl, Nat.le_of_ble_eq_true rfl⟩ (fun _ _ _ _ q => ⟨q.1, q.2.call⟩) (va_recv hE.1 hPc (ci := 4) (q0 := 0) rfl rfl) (fun U hU hW _ => ⟨by rw [hU]; exact hPc, by rw [hU]; exact ((hCS.kept hS.2.1).narrow (fun q h => va_D.inA (hD (wX5 cI cS a0 a1 a2 a3 a4 a5 a6 a7 a8 a9 a10 a11 nw kp ad fd tp kn it wd sz nm mv ik td z_72.2.1 z_72.2.2.1 z_72.2.2.2.1 z_72.2.2.2.2.1 z_72.2.2.2.2.2 im st ht) rfl) [0, 1, 2, 3, 4, 5, 6, 7, 8, 9, 10, 11] rfl h)).warm hW⟩) hl.1 rfl (Nat.le_of_ble_eq_true rfl) dX5_readShip_72 ⟨Nat.zero_le _, Nat.zero_le _⟩) hP (hD _ rfl) hS rfl rfl rfl (fun H locs hP hS => ?_)
        refine lv_if_eq (tgt := 87) hx hb dX5_readShip_75 (by decide) (fun c_76 => ?_) (fun c_76 => ?_)
        · have h := ifp c_76 h
          refine lv_iconst (v := 2) hx hb dX5_readShip_87 (by decide) ?_
          refine lv_iconst (v := 0) hx hb dX5_readShip_88 (by decide) ?_
          obtain ⟨z_77, e_78, h⟩ := bds h
          have hPc := hP.sub (ws' := (wX5 cI cS a0 a1 a2 a3 a4 a5 a6 a7 a8 a9 a10 a11 nw kp ad fd tp kn it wd sz nm mv ik td z_74.2.1 z_74.2.2.1 z_74.2.2.2.1 z_74.2.2.2.2.1 z_74.2.2.2.2.2 im st ht)) [0, 1, 2, 3, 4, 5, 6, 7, 8, 9, 10, 11] rfl
          refine kMv (wf' := (wX5 cI cS a0 a1 a2 a3 a4 a5 a6 a7 a8 a9 a10 a11 nw kp ad fd tp kn z_77.1 wd sz nm mv ik td z_74.2.1 z_74.2.2.1 z_74.2.2.2.1 z_74.2.2.2.2.1 z_74.2.2.2.2.2 z_77.2 st ht)) [0, 1, 2, 3, 4, 5, 6, 7, 8, 9, 10, 11] [some 0, some 1, some 2, some 3, some 4, some 5, some 6, some 7, some 8, some 9, some 10, some 11] (rV C0 (tX5_addItem l D cI cS a0 a1 a2 a3 a4 a5 a6 a7 a8 a9 a10 a11 nw kp ad fd tp kn it wd sz nm mv ik td z_74.2.1 z_74.2.2.1 z_74.2.2.2.1 z_74.2.2.2.2.1 z_74.2.2.2.2.2 im st ht 10 0 z_72.1 2 0 z_77.1 z_77.2 e_78 (((hD (wX5 cI cS a0 a1 a2 a3 a4 a5 a6 a7 a8 a9 a10 a11 nw kp ad fd tp kn it wd sz nm mv ik td z_74.2.1 z_74.2.2.1 z_74.2.2.2.1 z_74.2.2.2.2.1 z_74.2.2.2.2.2 im st ht) rfl).sub [0, 1, 2, 3, 4, 5, 6, 7, 8, 9, 10, 11] (by decide) rfl).weaken (fun _ _ _ _ => trivial))) RX5 gX5_readShip_X5_addItem rfl ⟨rfl, rfl⟩ pdX5_addItem rfl ⟨Nat.le_of_ble_eq_true rfl, Nat.le_of_ble_eq_true rfl⟩ (fun _ _ _ _ q => q) (va_recv hE.1 hPc (ci := 4) (q0 := 0) rfl rfl) (fun U hU _ _ => by rw [hU]; exact hPc) hl.1 rfl (Nat.le_of_ble_eq_true rfl) dX5_readShip_89 ⟨Nat.zero_le _, Nat.zero_le _⟩) hP (hD _ rfl) hS rfl rfl rfl (fun H locs hP hS => ?_)
          refine lv_aload_n hx hb dX5_readShip_92 rfl (lv_at hl 2 rfl) ?_
          refine lv_dup hx hb dX5_readShip_93 rfl ?_
          refine va_get (D := D) (ci := 4) (v := .int ht) (C := RX5) (T := TX5) (N := 21) hx hb hts hinX5 hown hE.1 hP 0 rfl rfl 16 (by decide) (hts _ (List.mem_of_getElem? (i := 1) rfl)) (fun _ h9 => h9) rfl dX5_readShip_94 ?_
          refine lv_iconst (v := 1) hx hb dX5_readShip_97 (by decide) ?_
          refine lv_iadd hx hb dX5_readShip_98 ?_
          refine va_put (D := D) (ci := 4) (v := .int (ht + 1)) (ty := .int) (C := RX5) (T := TX5) (N := 21) hx hb hts hinX5 tyX5 tyX5_ok nmX5 hown hE.1 hP (hD _ rfl) hS 0 rfl rfl 16 (by decide) (hts _ (List.mem_of_getElem? (i := 1) rfl)) (fun _ h9 => h9) rfl (by decide +kernel) rfl rfl (Nat.le_of_ble_eq_true rfl) dX5_readShip_99 (fun H locs hP _ hS => ?_)
          have hP : va_P D vwCl (wX5 cI cS a0 a1 a2 a3 a4 a5 a6 a7 a8 a9 a10 a11 nw kp ad fd tp kn z_77.1 wd sz nm mv ik td z_74.2.1 z_74.2.2.1 z_74.2.2.2.1 z_74.2.2.2.2.1 z_74.2.2.2.2.2 z_77.2 st (ht + 1)) H := hP
          obtain ⟨q0, g0⟩ := Prod.mk.inj (Option.some.inj h)
          obtain ⟨q1, g1⟩ := Prod.mk.inj g0
          obtain ⟨q2, g2⟩ := Prod.mk.inj g1
          obtain ⟨q3, g3⟩ := Prod.mk.inj g2
          obtain ⟨q4, g4⟩ := Prod.mk.inj g3
          obtain ⟨q5, g5⟩ := Prod.mk.inj g4
          obtain ⟨q6, q7⟩ := Prod.mk.inj g5
          subst q0 q1 q2 q3 q4 q5 q6 q7
          exact eMv C0 hP hS rfl dX5_readShip_102
        · have h := ifn c_76 h
          refine lv_aload_n hx hb dX5_readShip_78 rfl (lv_at hl 2 rfl) ?_
          refine lv_iconst (v := 1) hx hb dX5_readShip_79 (by decide) ?_
          refine lv_iconst (v := 5) hx hb dX5_readShip_80 (by decide) ?_
          obtain ⟨z_79, e_80, h⟩ := bds h
          have hPc := hP.sub (ws' := (wX5 cI cS a0 a1 a2 a3 a4 a5 a6 a7 a8 a9 a10 a11 nw kp ad fd tp kn it wd sz nm mv ik td z_74.2.1 z_74.2.2.1 z_74.2.2.2.1 z_74.2.2.2.2.1 z_74.2.2.2.2.2 im st ht)) [0, 1, 2, 3, 4, 5, 6, 7, 8, 9, 10, 11] rfl
          refine kMi (wf' := (wX5 cI cS a0 a1 a2 a3 a4 a5 a6 a7 a8 a9 a10 a11 nw kp ad fd tp kn it wd sz nm mv ik td z_79.2.1 z_79.2.2.1 z_79.2.2.2.1 z_79.2.2.2.2.1 z_79.2.2.2.2.2 im st ht)) [0, 1, 2, 3, 4, 5, 6, 7, 8, 9, 10, 11] [some 0, some 1, some 2, some 3, some 4, some 5, some 6, some 7, some 8, some 9, some 10, some 11] (rV C0 (tX5_number l D cI cS F a0 a1 a2 a3 a4 a5 a6 a7 a8 a9 a10 a11 nw kp ad fd tp kn it wd sz nm mv ik td z_74.2.1 z_74.2.2.1 z_74.2.2.2.1 z_74.2.2.2.2.1 z_74.2.2.2.2.2 im st ht 1 5 z_79.1 z_79.2.1 z_79.2.2.1 z_79.2.2.2.1 z_79.2.2.2.2.1 z_79.2.2.2.2.2 e_80 (((hD (wX5 cI cS a0 a1 a2 a3 a4 a5 a6 a7 a8 a9 a10 a11 nw kp ad fd tp kn it wd sz nm mv ik td z_74.2.1 z_74.2.2.1 z_74.2.2.2.1 z_74.2.2.2.2.1 z_74.2.2.2.2.2 im st ht) rfl).sub [0, 1, 2, 3, 4, 5, 6, 7, 8, 9, 10, 11] (by decide) rfl).weaken (fun _ _ _ _ => trivial))) RX5 gX5_readShip_X5_number rfl ⟨rfl, rfl⟩ pdX5_number rfl ⟨Nat.le_of_ble_eq_true rfl, Nat.le_of_ble_eq_true rfl⟩ (fun _ _ _ _ q => q) (va_recv hE.1 hPc (ci := 4) (q0 := 0) rfl rfl) (fun U hU _ _ => by rw [hU]; exact hPc) hl.1 rfl (Nat.le_of_ble_eq_true rfl) dX5_readShip_81 ⟨Nat.zero_le _, Nat.zero_le _⟩) hP (hD _ rfl) hS rfl rfl rfl (fun H locs hP hS => ?_)
          refine lv_goto (tgt := 88) hx hb dX5_readShip_84 (by decide) ?_
          refine lv_iconst (v := 0) hx hb dX5_readShip_88 (by decide) ?_
          obtain ⟨z_81, e_82, h⟩ := bds h
          have hPc := hP.sub (ws' := (wX5 cI cS a0 a1 a2 a3 a4 a5 a6 a7 a8 a9 a10 a11 nw kp ad fd tp kn it wd sz nm mv ik td z_79.2.1 z_79.2.2.1 z_79.2.2.2.1 z_79.2.2.2.2.1 z_79.2.2.2.2.2 im st ht)) [0, 1, 2, 3, 4, 5, 6, 7, 8, 9, 10, 11] rfl
          refine kMv (wf' := (wX5 cI cS a0 a1 a2 a3 a4 a5 a6 a7 a8 a9 a10 a11 nw kp ad fd tp kn z_81.1 wd sz nm mv ik td z_79.2.1 z_79.2.2.1 z_79.2.2.2.1 z_79.2.2.2.2.1 z_79.2.2.2.2.2 z_81.2 st ht)) [0, 1, 2, 3, 4, 5, 6, 7, 8, 9, 10, 11] [some 0, some 1, some 2, some 3, some 4, some 5, some 6, some 7, some 8, some 9, some 10, some 11] (rV C0 (tX5_addItem l D cI cS a0 a1 a2 a3 a4 a5 a6 a7 a8 a9 a10 a11 nw kp ad fd tp kn it wd sz nm mv ik td z_79.2.1 z_79.2.2.1 z_79.2.2.2.1 z_79.2.2.2.2.1 z_79.2.2.2.2.2 im st ht 10 0 z_72.1 z_79.1 0 z_81.1 z_81.2 e_82 (((hD (wX5 cI cS a0 a1 a2 a3 a4 a5 a6 a7 a8 a9 a10 a11 nw kp ad fd tp kn it wd sz nm mv ik td z_79.2.1 z_79.2.2.1 z_79.2.2.2.1 z_79.2.2.2.2.1 z_79.2.2.2.2.2 im st ht) rfl).sub [0, 1, 2, 3, 4, 5, 6, 7, 8, 9, 10, 11] (by decide) rfl).weaken (fun _ _ _ _ => trivial))) RX5 gX5_readShip_X5_addItem rfl ⟨rfl, rfl⟩ pdX5_addItem rfl ⟨Nat.le_of_ble_eq_true rfl, Nat.le_of_ble_eq_true rfl⟩ (fun _ _ _ _ q => q) (va_recv hE.1 hPc (ci := 4) (q0 := 0) rfl rfl) (fun U hU _ _ => by rw [hU]; exact hPc) hl.1 rfl (Nat.le_of_ble_eq_true rfl) dX5_readShip_89 ⟨Nat.zero_le _, Nat.zero_le _⟩) hP (hD _ rfl) hS rfl rfl rfl (fun H locs hP hS => ?_)
          refine lv_aload_n hx hb dX5_readShip_92 rfl (lv_at hl 2 rfl) ?_
          refine lv_dup hx hb dX5_readShip_93 rfl ?_
          refine va_get (D := D) (ci := 4) (v := .int ht) (C := RX5) (T := TX5) (N := 21) hx hb hts hinX5 hown hE.1 hP 0 rfl rfl 16 (by decide) (hts _ (List.mem_of_getElem? (i := 1) rfl)) (fun _ h9 => h9) rfl dX5_readShip_94 ?_
          refine lv_iconst (v := 1) hx hb dX5_readShip_97 (by decide) ?_
          refine lv_iadd hx hb dX5_readShip_98 ?_
          refine va_put (D := D) (ci := 4) (v := .int (ht + 1)) (ty := .int) (C := RX5) (T := TX5) (N := 21) hx hb hts hinX5 tyX5 tyX5_ok nmX5 hown hE.1 hP (hD _ rfl) hS 0 rfl rfl 16 (by decide) (hts _ (List.mem_of_getElem? (i := 1) rfl)) (fun _ h9 => h9) rfl (by decide +kernel) rfl rfl (Nat.le_of_ble_eq_true rfl) dX5_readShip_99 (fun H locs hP _ hS => ?_)
          have hP : va_P D vwCl (wX5 cI cS a0 a1 a2 a3 a4 a5 a6 a7 a8 a9 a10 a11 nw kp ad fd tp kn z_81.1 wd sz nm mv ik td z_79.2.1 z_79.2.2.1 z_79.2.2.2.1 z_79.2.2.2.2.1 z_79.2.2.2.2.2 z_81.2 st (ht + 1)) H := hP
          obtain ⟨q0, g0⟩ := Prod.mk.inj (Option.some.inj h)
          obtain ⟨q1, g1⟩ := Prod.mk.inj g0
          obtain ⟨q2, g2⟩ := Prod.mk.inj g1
          obtain ⟨q3, g3⟩ := Prod.mk.inj g2
          obtain ⟨q4, g4⟩ := Prod.mk.inj g3
          obtain ⟨q5, g5⟩ := Prod.mk.inj g4
          obtain ⟨q6, q7⟩ := Prod.mk.inj g5
          subst q0 q1 q2 q3 q4 q5 q6 q7
          exact eMv C0 hP hS rfl dX5_readShip_102
    · have h := ifn c_59 h
      refine lv_aload_n hx hb dX5_readShip_28 rfl (lv_at hl 0 rfl) ?_
      refine lv_iconst (v := 0) hx hb dX5_readShip_29 (by decide) ?_
      refine lv_bipush (v := 15) hx hb dX5_readShip_30 (by decide) ?_
      obtain ⟨z_83, e_84, h⟩ := bds h
      have hPc := hP.sub (ws' := (wX5 cI cS a0 a1 a2 a3 a4 a5 a6 a7 a8 a9 a10 a11 nw kp ad fd tp kn it wd sz nm mv ik td z_57.2.1 z_57.2.2.1 z_57.2.2.2.1 z_57.2.2.2.2.1 z_57.2.2.2.2.2 im st ht)) [0, 1, 2, 3, 4, 5, 6, 7, 8, 9, 10, 11] rfl
      refine kMi (wf' := (wX5 cI cS a0 a1 a2 a3 a4 a5 a6 a7 a8 a9 a10 a11 nw kp ad fd tp kn it wd sz nm mv ik td z_83.2.1 z_83.2.2.1 z_83.2.2.2.1 z_83.2.2.2.2.1 z_83.2.2.2.2.2 im st ht)) [0, 1, 2, 3, 4, 5, 6, 7, 8, 9, 10, 11] [some 0, some 1, some 2, some 3, some 4, some 5, some 6, some 7, some 8, some 9, some 10, some 11] (rV C0 (tX5_number l D cI cS F a0 a1 a2 a3 a4 a5 a6 a7 a8 a9 a10 a11 nw kp ad fd tp kn it wd sz nm mv ik td z_57.2.1 z_57.2.2.1 z_57.2.2.2.1 z_57.2.2.2.2.1 z_57.2.2.2.2.2 im st ht 0 15 z_83.1 z_83.2.1 z_83.2.2.1 z_83.2.2.2.1 z_83.2.2.2.2.1 z_83.2.2.2.2.2 e_84 (((hD (wX5 cI cS a0 a1 a2 a3 a4 a5 a6 a7 a8 a9 a10 a11 nw kp ad fd tp kn it wd sz nm mv ik td z_57.2.1 z_57.2.2.1 z_57.2.2.2.1 z_57.2.2.2.2.1 z_57.2.2.2.2.2 im st ht) rfl).sub [0, 1, 2, 3, 4, 5, 6, 7, 8, 9, 10, 11] (by decide) rfl).weaken (fun _ _ _ _ => trivial))) RX5 gX5_readShip_X5_number rfl ⟨rfl, rfl⟩ pdX5_number rfl ⟨Nat.le_of_ble_eq_true rfl, Nat.le_of_ble_eq_true rfl⟩ (fun _ _ _ _ q => q) (va_recv hE.1 hPc (ci := 4) (q0 := 0) rfl rfl) (fun U hU _ _ => by rw [hU]; exact hPc) hl.1 rfl (Nat.le_of_ble_eq_true rfl) dX5_readShip_32 ⟨Nat.zero_le _, Nat.zero_le _⟩) hP (hD _ rfl) hS rfl rfl rfl (fun H locs hP hS => ?_)
      refine lv_goto (tgt := 39) hx hb dX5_readShip_35 (by decide) ?_
      refine lv_istore_n (lv' := [(1, .int z_83.1), (0, .ref a0)]) hx hb dX5_readShip_39 rfl hl (by decide) rfl (fun ls hl => ?_)
      refine lv_aload_n hx hb dX5_readShip_40 rfl (lv_at hl 1 rfl) ?_
      refine ldwS hx hb hown (show vk_R RX5 319 "sees" (cs.1 12) s from hCS.2.2.2.1 ("VaguePortModel", 319, "sees", 12) (List.mem_of_getElem? (i := 20) rfl)) dX5_readShip_41 ?_
      obtain ⟨z_85, e_86, h⟩ := bds h
      have hPc := hP.sub (ws' := (wX5 cI cS a0 a1 a2 a3 a4 a5 a6 a7 a8 a9 a10 a11 nw kp ad fd tp kn it wd sz nm mv ik td z_83.2.1 z_83.2.2.1 z_83.2.2.2.1 z_83.2.2.2.2.1 z_83.2.2.2.2.2 im st ht)) [0, 1, 2, 3, 4, 5, 6, 7, 8, 9, 10, 11] rfl
      refine kMi (wf' := (wX5 cI cS a0 a1 a2 a3 a4 a5 a6 a7 a8 a9 a10 a11 nw kp ad fd tp kn it wd sz nm mv ik td z_85.2.1 z_85.2.2.1 z_85.2.2.2.1 z_85.2.2.2.2.1 z_85.2.2.2.2.2 im st ht)) [0, 1, 2, 3, 4, 5, 6, 7, 8, 9, 10, 11] [some 0, some 1, some 2, some 3, some 4, some 5, some 6, some 7, some 8, some 9, some 10, some 11] (rV C0 (tX5_takesWord l D cI cS cs F a0 a1 a2 a3 a4 a5 a6 a7 a8 a9 a10 a11 nw kp ad fd tp kn it wd sz nm mv ik td z_83.2.1 z_83.2.2.1 z_83.2.2.2.1 z_83.2.2.2.2.1 z_83.2.2.2.2.2 im st ht 12 z_85.1 z_85.2.1 z_85.2.2.1 z_85.2.2.2.1 z_85.2.2.2.2.1 z_85.2.2.2.2.2 e_86 (by decide) (((hD (wX5 cI cS a0 a1 a2 a3 a4 a5 a6 a7 a8 a9 a10 a11 nw kp ad fd tp kn it wd sz nm mv ik td z_83.2.1 z_83.2.2.1 z_83.2.2.2.1 z_83.2.2.2.2.1 z_83.2.2.2.2.2 im st ht) rfl).sub [0, 1, 2, 3, 4, 5, 6, 7, 8, 9, 10, 11] (by decide) rfl).weaken (fun _ _ _ _ => trivial))) RX5 gX5_readShip_X5_takesWord rfl ⟨rfl, rfl⟩ pdX5_takesWord rfl ⟨Nat.le_of_ble_eq_true rfl, Nat.le_of_ble_eq_true rfl⟩ (fun _ _ _ _ q => ⟨q.1, q.2.call⟩) (va_recv hE.1 hPc (ci := 4) (q0 := 0) rfl rfl) (fun U hU hW _ => ⟨by rw [hU]; exact hPc, by rw [hU]; exact ((hCS.kept hS.2.1).narrow (fun q h => va_D.inA (hD (wX5 cI cS a0 a1 a2 a3 a4 a5 a6 a7 a8 a9 a10 a11 nw kp ad fd tp kn it wd sz nm mv ik td z_83.2.1 z_83.2.2.1 z_83.2.2.2.1 z_83.2.2.2.2.1 z_83.2.2.2.2.2 im st ht) rfl) [0, 1, 2, 3, 4, 5, 6, 7, 8, 9, 10, 11] rfl h)).warm hW⟩) hl.1 rfl (Nat.le_of_ble_eq_true rfl) dX5_readShip_44 ⟨Nat.zero_le _, Nat.zero_le _⟩) hP (hD _ rfl) hS rfl rfl rfl (fun H locs hP hS => ?_)
      refine lv_if_eq (tgt := 60) hx hb dX5_readShip_47 (by decide) (fun c_87 => ?_) (fun c_87 => ?_)
      · have h := ifp c_87 h
        refine lv_bipush (v := 30) hx hb dX5_readShip_60 (by decide) ?_
        refine lv_istore_n (lv' := [(2, .int 30), (1, .int z_83.1), (0, .ref a0)]) hx hb dX5_readShip_62 rfl hl (by decide) rfl (fun ls hl => ?_)
        refine lv_aload_n hx hb dX5_readShip_63 rfl (lv_at hl 2 rfl) ?_
        refine lv_bipush (v := 10) hx hb dX5_readShip_64 (by decide) ?_
        refine lv_iload_n hx hb dX5_readShip_66 rfl (lv_at hl 1 rfl) ?_
        refine lv_iload_n hx hb dX5_readShip_67 rfl (lv_at hl 0 rfl) ?_
        refine lv_aload_n hx hb dX5_readShip_68 rfl (lv_at hl 2 rfl) ?_
        refine ldwS hx hb hown (show vk_R RX5 321 "fast" (cs.1 13) s from hCS.2.2.2.1 ("VaguePortModel", 321, "fast", 13) (List.mem_of_getElem? (i := 21) rfl)) dX5_readShip_69 ?_
        obtain ⟨z_88, e_89, h⟩ := bds h
        have hPc := hP.sub (ws' := (wX5 cI cS a0 a1 a2 a3 a4 a5 a6 a7 a8 a9 a10 a11 nw kp ad fd tp kn it wd sz nm mv ik td z_85.2.1 z_85.2.2.1 z_85.2.2.2.1 z_85.2.2.2.2.1 z_85.2.2.2.2.2 im st ht)) [0, 1, 2, 3, 4, 5, 6, 7, 8, 9, 10, 11] rfl
        refine kMi (wf' := (wX5 cI cS a0 a1 a2 a3 a4 a5 a6 a7 a8 a9 a10 a11 nw kp ad fd tp kn it wd sz nm mv ik td z_88.2.1 z_88.2.2.1 z_88.2.2.2.1 z_88.2.2.2.2.1 z_88.2.2.2.2.2 im st ht)) [0, 1, 2, 3, 4, 5, 6, 7, 8, 9, 10, 11] [some 0, some 1, some 2, some 3, some 4, some 5, some 6, some 7, some 8, some 9, some 10, some 11] (rV C0 (tX5_takesWord l D cI cS cs F a0 a1 a2 a3 a4 a5 a6 a7 a8 a9 a10 a11 nw kp ad fd tp kn it wd sz nm mv ik td z_85.2.1 z_85.2.2.1 z_85.2.2.2.1 z_85.2.2.2.2.1 z_85.2.2.2.2.2 im st ht 13 z_88.1 z_88.2.1 z_88.2.2.1 z_88.2.2.2.1 z_88.2.2.2.2.1 z_88.2.2.2.2.2 e_89 (by decide) (((hD (wX5 cI cS a0 a1 a2 a3 a4 a5 a6 a7 a8 a9 a10 a11 nw kp ad fd tp kn it wd sz nm mv ik td z_85.2.1 z_85.2.2.1 z_85.2.2.2.1 z_85.2.2.2.2.1 z_85.2.2.2.2.2 im st ht) rfl).sub [0, 1, 2, 3, 4, 5, 6, 7, 8, 9, 10, 11] (by decide) rfl).weaken (fun _ _ _ _ => trivial))) RX5 gX5_readShip_X5_takesWord rfl ⟨rfl, rfl⟩ pdX5_takesWord rfl ⟨Nat.le_of_ble_eq_true rfl, Nat.le_of_ble_eq_true rfl⟩ (fun _ _ _ _ q => ⟨q.1, q.2.call⟩) (va_recv hE.1 hPc (ci := 4) (q0 := 0) rfl rfl) (fun U hU hW _ => ⟨by rw [hU]; exact hPc, by rw [hU]; exact ((hCS.kept hS.2.1).narrow (fun q h => va_D.inA (hD (wX5 cI cS a0 a1 a2 a3 a4 a5 a6 a7 a8 a9 a10 a11 nw kp ad fd tp kn it wd sz nm mv ik td z_85.2.1 z_85.2.2.1 z_85.2.2.2.1 z_85.2.2.2.2.1 z_85.2.2.2.2.2 im st ht) rfl) [0, 1, 2, 3, 4, 5, 6, 7, 8, 9, 10, 11] rfl h)).warm hW⟩) hl.1 rfl (Nat.le_of_ble_eq_true rfl) dX5_readShip_72 ⟨Nat.zero_le _, Nat.zero_le _⟩) hP (hD _ rfl) hS rfl rfl rfl (fun H locs hP hS => ?_)
        refine lv_if_eq (tgt := 87) hx hb dX5_readShip_75 (by decide) (fun c_90 => ?_) (fun c_90 => ?_)
        · have h := ifp c_90 h
          refine lv_iconst (v := 2) hx hb dX5_readShip_87 (by decide) ?_
          refine lv_iconst (v := 0) hx hb dX5_readShip_88 (by decide) ?_
          obtain ⟨z_91, e_92, h⟩ := bds h
          have hPc := hP.sub (ws' := (wX5 cI cS a0 a1 a2 a3 a4 a5 a6 a7 a8 a9 a10 a11 nw kp ad fd tp kn it wd sz nm mv ik td z_88.2.1 z_88.2.2.1 z_88.2.2.2.1 z_88.2.2.2.2.1 z_88.2.2.2.2.2 im st ht)) [0, 1, 2, 3, 4, 5, 6, 7, 8, 9, 10, 11] rfl
          refine kMv (wf' := (wX5 cI cS a0 a1 a2 a3 a4 a5 a6 a7 a8 a9 a10 a11 nw kp ad fd tp kn z_91.1 wd sz nm mv ik td z_88.2.1 z_88.2.2.1 z_88.2.2.2.1 z_88.2.2.2.2.1 z_88.2.2.2.2.2 z_91.2 st ht)) [0, 1, 2, 3, 4, 5, 6, 7, 8, 9, 10, 11] [some 0, some 1, some 2, some 3, some 4, some 5, some 6, some 7, some 8, some 9, some 10, some 11] (rV C0 (tX5_addItem l D cI cS a0 a1 a2 a3 a4 a5 a6 a7 a8 a9 a10 a11 nw kp ad fd tp kn it wd sz nm mv ik td z_88.2.1 z_88.2.2.1 z_88.2.2.2.1 z_88.2.2.2.2.1 z_88.2.2.2.2.2 im st ht 10 z_83.1 30 2 0 z_91.1 z_91.2 e_92 (((hD (wX5 cI cS a0 a1 a2 a3 a4 a5 a6 a7 a8 a9 a10 a11 nw kp ad fd tp kn it wd sz nm mv ik td z_88.2.1 z_88.2.2.1 z_88.2.2.2.1 z_88.2.2.2.2.1 z_88.2.2.2.2.2 im st ht) rfl).sub [0, 1, 2, 3, 4, 5, 6, 7, 8, 9, 10, 11] (by decide) rfl).weaken (fun _ _ _ _ => trivial))) RX5 gX5_readShip_X5_addItem rfl ⟨rfl, rfl⟩ pdX5_addItem rfl ⟨Nat.le_of_ble_eq_true rfl, Nat.le_of_ble_eq_true rfl⟩ (fun _ _ _ _ q => q) (va_recv hE.1 hPc (ci := 4) (q0 := 0) rfl rfl) (fun U hU _ _ => by rw [hU]; exact hPc) hl.1 rfl (Nat.le_of_ble_eq_true rfl) dX5_readShip_89 ⟨Nat.zero_le _, Nat.zero_le _⟩) hP (hD _ rfl) hS rfl rfl rfl (fun H locs hP hS => ?_)
          refine lv_aload_n hx hb dX5_readShip_92 rfl (lv_at hl 2 rfl) ?_
          refine lv_dup hx hb dX5_readShip_93 rfl ?_
          refine va_get (D := D) (ci := 4) (v := .int ht) (C := RX5) (T := TX5) (N := 21) hx hb hts hinX5 hown hE.1 hP 0 rfl rfl 16 (by decide) (hts _ (List.mem_of_getElem? (i := 1) rfl)) (fun _ h9 => h9) rfl dX5_readShip_94 ?_
          refine lv_iconst (v := 1) hx hb dX5_readShip_97 (by decide) ?_
          refine lv_iadd hx hb dX5_readShip_98 ?_
          refine va_put (D := D) (ci := 4) (v := .int (ht + 1)) (ty := .int) (C := RX5) (T := TX5) (N := 21) hx hb hts hinX5 tyX5 tyX5_ok nmX5 hown hE.1 hP (hD _ rfl) hS 0 rfl rfl 16 (by decide) (hts _ (List.mem_of_getElem? (i := 1) rfl)) (fun _ h9 => h9) rfl (by decide +kernel) rfl rfl (Nat.le_of_ble_eq_true rfl) dX5_readShip_99 (fun H locs hP _ hS => ?_)
          have hP : va_P D vwCl (wX5 cI cS a0 a1 a2 a3 a4 a5 a6 a7 a8 a9 a10 a11 nw kp ad fd tp kn z_91.1 wd sz nm mv ik td z_88.2.1 z_88.2.2.1 z_88.2.2.2.1 z_88.2.2.2.2.1 z_88.2.2.2.2.2 z_91.2 st (ht + 1)) H := hP
          obtain ⟨q0, g0⟩ := Prod.mk.inj (Option.some.inj h)
          obtain ⟨q1, g1⟩ := Prod.mk.inj g0
          obtain ⟨q2, g2⟩ := Prod.mk.inj g1
          obtain ⟨q3, g3⟩ := Prod.mk.inj g2
          obtain ⟨q4, g4⟩ := Prod.mk.inj g3
          obtain ⟨q5, g5⟩ := Prod.mk.inj g4
          obtain ⟨q6, q7⟩ := Prod.mk.inj g5
          subst q0 q1 q2 q3 q4 q5 q6 q7
          exact eMv C0 hP hS rfl dX5_readShip_102
        · have h := ifn c_90 h
          refine lv_aload_n hx hb dX5_readShip_78 rfl (lv_at hl 2 rfl) ?_
          refine lv_iconst (v := 1) hx hb dX5_readShip_79 (by decide) ?_
          refine lv_iconst (v := 5) hx hb dX5_readShip_80 (by decide) ?_
          obtain ⟨z_93, e_94, h⟩ := bds h
          have hPc := hP.sub (ws' := (wX5 cI cS a0 a1 a2 a3 a4 a5 a6 a7 a8 a9 a10 a11 nw kp ad fd tp kn it wd sz nm mv ik td z_88.2.1 z_88.2.2.1 z_88.2.2.2.1 z_88.2.2.2.2.1 z_88.2.2.2.2.2 im st ht)) [0, 1, 2, 3, 4, 5, 6, 7, 8, 9, 10, 11] rfl
          refine kMi (wf' := (wX5 cI cS a0 a1 a2 a3 a4 a5 a6 a7 a8 a9 a10 a11 nw kp ad fd tp kn it wd sz nm mv ik td z_93.2.1 z_93.2.2.1 z_93.2.2.2.1 z_93.2.2.2.2.1 z_93.2.2.2.2.2 im st ht)) [0, 1, 2, 3, 4, 5, 6, 7, 8, 9, 10, 11] [some 0, some 1, some 2, some 3, some 4, some 5, some 6, some 7, some 8, some 9, some 10, some 11] (rV C0 (tX5_number l D cI cS F a0 a1 a2 a3 a4 a5 a6 a7 a8 a9 a10 a11 nw kp ad fd tp kn it wd sz nm mv ik td z_88.2.1 z_88.2.2.1 z_88.2.2.2.1 z_88.2.2.2.2.1 z_88.2.2.2.2.2 im st ht 1 5 z_93.1 z_93.2.1 z_93.2.2.1 z_93.2.2.2.1 z_93.2.2.2.2.1 z_93.2.2.2.2.2 e_94 (((hD (wX5 cI cS a0 a1 a2 a3 a4 a5 a6 a7 a8 a9 a10 a11 nw kp ad fd tp kn it wd sz nm mv ik td z_88.2.1 z_88.2.2.1 z_88.2.2.2.1 z_88.2.2.2.2.1 z_88.2.2.2.2.2 im st ht) rfl).sub [0, 1, 2, 3, 4, 5, 6, 7, 8, 9, 10, 11] (by decide) rfl).weaken (fun _ _ _ _ => trivial))) RX5 gX5_readShip_X5_number rfl ⟨rfl, rfl⟩ pdX5_number rfl ⟨Nat.le_of_ble_eq_true rfl, Nat.le_of_ble_eq_true rfl⟩ (fun _ _ _ _ q => q) (va_recv hE.1 hPc (ci := 4) (q0 := 0) rfl rfl) (fun U hU _ _ => by rw [hU]; exact hPc) hl.1 rfl (Nat.le_of_ble_eq_true rfl) dX5_readShip_81 ⟨Nat.zero_le _, Nat.zero_le _⟩) hP (hD _ rfl) hS rfl rfl rfl (fun H locs hP hS => ?_)
          refine lv_goto (tgt := 88) hx hb dX5_readShip_84 (by decide) ?_
          refine lv_iconst (v := 0) hx hb dX5_readShip_88 (by decide) ?_
          obtain ⟨z_95, e_96, h⟩ := bds h
          have hPc := hP.sub (ws' := (wX5 cI cS a0 a1 a2 a3 a4 a5 a6 a7 a8 a9 a10 a11 nw kp ad fd tp kn it wd sz nm mv ik td z_93.2.1 z_93.2.2.1 z_93.2.2.2.1 z_93.2.2.2.2.1 z_93.2.2.2.2.2 im st ht)) [0, 1, 2, 3, 4, 5, 6, 7, 8, 9, 10, 11] rfl
          refine kMv (wf' := (wX5 cI cS a0 a1 a2 a3 a4 a5 a6 a7 a8 a9 a10 a11 nw kp ad fd tp kn z_95.1 wd sz nm mv ik td z_93.2.1 z_93.2.2.1 z_93.2.2.2.1 z_93.2.2.2.2.1 z_93.2.2.2.2.2 z_95.2 st ht)) [0, 1, 2, 3, 4, 5, 6, 7, 8, 9, 10, 11] [some 0, some 1, some 2, some 3, some 4, some 5, some 6, some 7, some 8, some 9, some 10, some 11] (rV C0 (tX5_addItem l D cI cS a0 a1 a2 a3 a4 a5 a6 a7 a8 a9 a10 a11 nw kp ad fd tp kn it wd sz nm mv ik td z_93.2.1 z_93.2.2.1 z_93.2.2.2.1 z_93.2.2.2.2.1 z_93.2.2.2.2.2 im st ht 10 z_83.1 30 z_93.1 0 z_95.1 z_95.2 e_96 (((hD (wX5 cI cS a0 a1 a2 a3 a4 a5 a6 a7 a8 a9 a10 a11 nw kp ad fd tp kn it wd sz nm mv ik td z_93.2.1 z_93.2.2.1 z_93.2.2.2.1 z_93.2.2.2.2.1 z_93.2.2.2.2.2 im st ht) rfl).sub [0, 1, 2, 3, 4, 5, 6, 7, 8, 9, 10, 11] (by decide) rfl).weaken (fun _ _ _ _ => trivial))) RX5 gX5_readShip_X5_addItem rfl ⟨rfl, rfl⟩ pdX5_addItem rfl ⟨Nat.le_of_ble_eq_true rfl, Nat.le_of_ble_eq_true rfl⟩ (fun _ _ _ _ q => q) (va_recv hE.1 hPc (ci := 4) (q0 := 0) rfl rfl) (fun U hU _ _ => by rw [hU]; exact hPc) hl.1 rfl (Nat.le_of_ble_eq_true rfl) dX5_readShip_89 ⟨Nat.zero_le _, Nat.zero_le _⟩) hP (hD _ rfl) hS rfl rfl rfl (fun H locs hP hS => ?_)
          refine lv_aload_n hx hb dX5_readShip_92 rfl (lv_at hl 2 rfl) ?_
          refine lv_dup hx hb dX5_readShip_93 rfl ?_
          refine va_get (D := D) (ci := 4) (v := .int ht) (C := RX5) (T := TX5) (N := 21) hx hb hts hinX5 hown hE.1 hP 0 rfl rfl 16 (by decide) (hts _ (List.mem_of_getElem? (i := 1) rfl)) (fun _ h9 => h9) rfl dX5_readShip_94 ?_
          refine lv_iconst (v := 1) hx hb dX5_readShip_97 (by decide) ?_
          refine lv_iadd hx hb dX5_readShip_98 ?_
          refine va_put (D := D) (ci := 4) (v := .int (ht + 1)) (ty := .int) (C := RX5) (T := TX5) (N := 21) hx hb hts hinX5 tyX5 tyX5_ok nmX5 hown hE.1 hP (hD _ rfl) hS 0 rfl rfl 16 (by decide) (hts _ (List.mem_of_getElem? (i := 1) rfl)) (fun _ h9 => h9) rfl (by decide +kernel) rfl rfl (Nat.le_of_ble_eq_true rfl) dX5_readShip_99 (fun H locs hP _ hS => ?_)
          have hP : va_P D vwCl (wX5 cI cS a0 a1 a2 a3 a4 a5 a6 a7 a8 a9 a10 a11 nw kp ad fd tp kn z_95.1 wd sz nm mv ik td z_93.2.1 z_93.2.2.1 z_93.2.2.2.1 z_93.2.2.2.2.1 z_93.2.2.2.2.2 z_95.2 st (ht + 1)) H := hP
          obtain ⟨q0, g0⟩ := Prod.mk.inj (Option.some.inj h)
          obtain ⟨q1, g1⟩ := Prod.mk.inj g0
          obtain ⟨q2, g2⟩ := Prod.mk.inj g1
          obtain ⟨q3, g3⟩ := Prod.mk.inj g2
          obtain ⟨q4, g4⟩ := Prod.mk.inj g3
          obtain ⟨q5, g5⟩ := Prod.mk.inj g4
          obtain ⟨q6, q7⟩ := Prod.mk.inj g5
          subst q0 q1 q2 q3 q4 q5 q6 q7
          exact eMv C0 hP hS rfl dX5_readShip_102
      · have h := ifn c_87 h
        refine lv_aload_n hx hb dX5_readShip_50 rfl (lv_at hl 1 rfl) ?_
        refine lv_iconst (v := 0) hx hb dX5_readShip_51 (by decide) ?_
        refine lv_bipush (v := 99) hx hb dX5_readShip_52 (by decide) ?_
        obtain ⟨z_97, e_98, h⟩ := bds h
        have hPc := hP.sub (ws' := (wX5 cI cS a0 a1 a2 a3 a4 a5 a6 a7 a8 a9 a10 a11 nw kp ad fd tp kn it wd sz nm mv ik td z_85.2.1 z_85.2.2.1 z_85.2.2.2.1 z_85.2.2.2.2.1 z_85.2.2.2.2.2 im st ht)) [0, 1, 2, 3, 4, 5, 6, 7, 8, 9, 10, 11] rfl
        refine kMi (wf' := (wX5 cI cS a0 a1 a2 a3 a4 a5 a6 a7 a8 a9 a10 a11 nw kp ad fd tp kn it wd sz nm mv ik td z_97.2.1 z_97.2.2.1 z_97.2.2.2.1 z_97.2.2.2.2.1 z_97.2.2.2.2.2 im st ht)) [0, 1, 2, 3, 4, 5, 6, 7, 8, 9, 10, 11] [some 0, some 1, some 2, some 3, some 4, some 5, some 6, some 7, some 8, some 9, some 10, some 11] (rV C0 (tX5_number l D cI cS F a0 a1 a2 a3 a4 a5 a6 a7 a8 a9 a10 a11 nw kp ad fd tp kn it wd sz nm mv ik td z_85.2.1 z_85.2.2.1 z_85.2.2.2.1 z_85.2.2.2.2.1 z_85.2.2.2.2.2 im st ht 0 99 z_97.1 z_97.2.1 z_97.2.2.1 z_97.2.2.2.1 z_97.2.2.2.2.1 z_97.2.2.2.2.2 e_98 (((hD (wX5 cI cS a0 a1 a2 a3 a4 a5 a6 a7 a8 a9 a10 a11 nw kp ad fd tp kn it wd sz nm mv ik td z_85.2.1 z_85.2.2.1 z_85.2.2.2.1 z_85.2.2.2.2.1 z_85.2.2.2.2.2 im st ht) rfl).sub [0, 1, 2, 3, 4, 5, 6, 7, 8, 9, 10, 11] (by decide) rfl).weaken (fun _ _ _ _ => trivial))) RX5 gX5_readShip_X5_number rfl ⟨rfl, rfl⟩ pdX5_number rfl ⟨Nat.le_of_ble_eq_true rfl, Nat.le_of_ble_eq_true rfl⟩ (fun _ _ _ _ q => q) (va_recv hE.1 hPc (ci := 4) (q0 := 0) rfl rfl) (fun U hU _ _ => by rw [hU]; exact hPc) hl.1 rfl (Nat.le_of_ble_eq_true rfl) dX5_readShip_54 ⟨Nat.zero_le _, Nat.zero_le _⟩) hP (hD _ rfl) hS rfl rfl rfl (fun H locs hP hS => ?_)
        refine lv_goto (tgt := 62) hx hb dX5_readShip_57 (by decide) ?_
        refine lv_istore_n (lv' := [(2, .int z_97.1), (1, .int z_83.1), (0, .ref a0)]) hx hb dX5_readShip_62 rfl hl (by decide) rfl (fun ls hl => ?_)
        refine lv_aload_n hx hb dX5_readShip_63 rfl (lv_at hl 2 rfl) ?_
        refine lv_bipush (v := 10) hx hb dX5_readShip_64 (by decide) ?_
        refine lv_iload_n hx hb dX5_readShip_66 rfl (lv_at hl 1 rfl) ?_
        refine lv_iload_n hx hb dX5_readShip_67 rfl (lv_at hl 0 rfl) ?_
        refine lv_aload_n hx hb dX5_readShip_68 rfl (lv_at hl 2 rfl) ?_
        refine ldwS hx hb hown (show vk_R RX5 321 "fast" (cs.1 13) s from hCS.2.2.2.1 ("VaguePortModel", 321, "fast", 13) (List.mem_of_getElem? (i := 21) rfl)) dX5_readShip_69 ?_
        obtain ⟨z_99, e_100, h⟩ := bds h
        have hPc := hP.sub (ws' := (wX5 cI cS a0 a1 a2 a3 a4 a5 a6 a7 a8 a9 a10 a11 nw kp ad fd tp kn it wd sz nm mv ik td z_97.2.1 z_97.2.2.1 z_97.2.2.2.1 z_97.2.2.2.2.1 z_97.2.2.2.2.2 im st ht)) [0, 1, 2, 3, 4, 5, 6, 7, 8, 9, 10, 11] rfl
        refine kMi (wf' := (wX5 cI cS a0 a1 a2 a3 a4 a5 a6 a7 a8 a9 a10 a11 nw kp ad fd tp kn it wd sz nm mv ik td z_99.2.1 z_99.2.2.1 z_99.2.2.2.1 z_99.2.2.2.2.1 z_99.2.2.2.2.2 im st ht)) [0, 1, 2, 3, 4, 5, 6, 7, 8, 9, 10, 11] [some 0, some 1, some 2, some 3, some 4, some 5, some 6, some 7, some 8, some 9, some 10, some 11] (rV C0 (tX5_takesWord l D cI cS cs F a0 a1 a2 a3 a4 a5 a6 a7 a8 a9 a10 a11 nw kp ad fd tp kn it wd sz nm mv ik td z_97.2.1 z_97.2.2.1 z_97.2.2.2.1 z_97.2.2.2.2.1 z_97.2.2.2.2.2 im st ht 13 z_99.1 z_99.2.1 z_99.2.2.1 z_99.2.2.2.1 z_99.2.2.2.2.1 z_99.2.2.2.2.2 e_100 (by decide) (((hD (wX5 cI cS a0 a1 a2 a3 a4 a5 a6 a7 a8 a9 a10 a11 nw kp ad fd tp kn it wd sz nm mv ik td z_97.2.1 z_97.2.2.1 z_97.2.2.2.1 z_97.2.2.2.2.1 z_97.2.2.2.2.2 im st ht) rfl).sub [0, 1, 2, 3, 4, 5, 6, 7, 8, 9, 10, 11] (by decide) rfl).weaken (fun _ _ _ _ => trivial))) RX5 gX5_readShip_X5_takesWord rfl ⟨rfl, rfl⟩ pdX5_takesWord rfl ⟨Nat.le_of_ble_eq_true rfl, Nat.le_of_ble_eq_true rfl⟩ (fun _ _ _ _ q => ⟨q.1, q.2.call⟩) (va_recv hE.1 hPc (ci := 4) (q0 := 0) rfl rfl) (fun U hU hW _ => ⟨by rw [hU]; exact hPc, by rw [hU]; exact ((hCS.kept hS.2.1).narrow (fun q h => va_D.inA (hD (wX5 cI cS a0 a1 a2 a3 a4 a5 a6 a7 a8 a9 a10 a11 nw kp ad fd tp kn it wd sz nm mv ik td z_97.2.1 z_97.2.2.1 z_97.2.2.2.1 z_97.2.2.2.2.1 z_97.2.2.2.2.2 im st ht) rfl) [0, 1, 2, 3, 4, 5, 6, 7, 8, 9, 10, 11] rfl h)).warm hW⟩) hl.1 rfl (Nat.le_of_ble_eq_true rfl) dX5_readShip_72 ⟨Nat.zero_le _, Nat.zero_le _⟩) hP (hD _ rfl) hS rfl rfl rfl (fun H locs hP hS => ?_)
        refine lv_if_eq (tgt := 87) hx hb dX5_readShip_75 (by decide) (fun c_101 => ?_) (fun c_101 => ?_)
        · have h := ifp c_101 h
          refine lv_iconst (v := 2) hx hb dX5_readShip_87 (by decide) ?_
          refine lv_iconst (v := 0) hx hb dX5_readShip_88 (by decide) ?_
          obtain ⟨z_102, e_103, h⟩ := bds h
          have hPc := hP.sub (ws' := (wX5 cI cS a0 a1 a2 a3 a4 a5 a6 a7 a8 a9 a10 a11 nw kp ad fd tp kn it wd sz nm mv ik td z_99.2.1 z_99.2.2.1 z_99.2.2.2.1 z_99.2.2.2.2.1 z_99.2.2.2.2.2 im st ht)) [0, 1, 2, 3, 4, 5, 6, 7, 8, 9, 10, 11] rfl
          refine kMv (wf' := (wX5 cI cS a0 a1 a2 a3 a4 a5 a6 a7 a8 a9 a10 a11 nw kp ad fd tp kn z_102.1 wd sz nm mv ik td z_99.2.1 z_99.2.2.1 z_99.2.2.2.1 z_99.2.2.2.2.1 z_99.2.2.2.2.2 z_102.2 st ht)) [0, 1, 2, 3, 4, 5, 6, 7, 8, 9, 10, 11] [some 0, some 1, some 2, some 3, some 4, some 5, some 6, some 7, some 8, some 9, some 10, some 11] (rV C0 (tX5_addItem l D cI cS a0 a1 a2 a3 a4 a5 a6 a7 a8 a9 a10 a11 nw kp ad fd tp kn it wd sz nm mv ik td z_99.2.1 z_99.2.2.1 z_99.2.2.2.1 z_99.2.2.2.2.1 z_99.2.2.2.2.2 im st ht 10 z_83.1 z_97.1 2 0 z_102.1 z_102.2 e_103 (((hD (wX5 cI cS a0 a1 a2 a3 a4 a5 a6 a7 a8 a9 a10 a11 nw kp ad fd tp kn it wd sz nm mv ik td z_99.2.1 z_99.2.2.1 z_99.2.2.2.1 z_99.2.2.2.2.1 z_99.2.2.2.2.2 im st ht) rfl).sub [0, 1, 2, 3, 4, 5, 6, 7, 8, 9, 10, 11] (by decide) rfl).weaken (fun _ _ _ _ => trivial))) RX5 gX5_readShip_X5_addItem rfl ⟨rfl, rfl⟩ pdX5_addItem rfl ⟨Nat.le_of_ble_eq_true rfl, Nat.le_of_ble_eq_true rfl⟩ (fun _ _ _ _ q => q) (va_recv hE.1 hPc (ci := 4) (q0 := 0) rfl rfl) (fun U hU _ _ => by rw [hU]; exact hPc) hl.1 rfl (Nat.le_of_ble_eq_true rfl) dX5_readShip_89 ⟨Nat.zero_le _, Nat.zero_le _⟩) hP (hD _ rfl) hS rfl rfl rfl (fun H locs hP hS => ?_)
          refine lv_aload_n hx hb dX5_readShip_92 rfl (lv_at hl 2 rfl) ?_
          refine lv_dup hx hb dX5_readShip_93 rfl ?_
          refine va_get (D := D) (ci := 4) (v := .int ht) (C := RX5) (T := TX5) (N := 21) hx hb hts hinX5 hown hE.1 hP 0 rfl rfl 16 (by decide) (hts _ (List.mem_of_getElem? (i := 1) rfl)) (fun _ h9 => h9) rfl dX5_readShip_94 ?_
          refine lv_iconst (v := 1) hx hb dX5_readShip_97 (by decide) ?_
          refine lv_iadd hx hb dX5_readShip_98 ?_
          refine va_put (D := D) (ci := 4) (v := .int (ht + 1)) (ty := .int) (C := RX5) (T := TX5) (N := 21) hx hb hts hinX5 tyX5 tyX5_ok nmX5 hown hE.1 hP (hD _ rfl) hS 0 rfl rfl 16 (by decide) (hts _ (List.mem_of_getElem? (i := 1) rfl)) (fun _ h9 => h9) rfl (by decide +kernel) rfl rfl (Nat.le_of_ble_eq_true rfl) dX5_readShip_99 (fun H locs hP _ hS => ?_)
          have hP : va_P D vwCl (wX5 cI cS a0 a1 a2 a3 a4 a5 a6 a7 a8 a9 a10 a11 nw kp ad fd tp kn z_102.1 wd sz nm mv ik td z_99.2.1 z_99.2.2.1 z_99.2.2.2.1 z_99.2.2.2.2.1 z_99.2.2.2.2.2 z_102.2 st (ht + 1)) H := hP
          obtain ⟨q0, g0⟩ := Prod.mk.inj (Option.some.inj h)
          obtain ⟨q1, g1⟩ := Prod.mk.inj g0
          obtain ⟨q2, g2⟩ := Prod.mk.inj g1
          obtain ⟨q3, g3⟩ := Prod.mk.inj g2
          obtain ⟨q4, g4⟩ := Prod.mk.inj g3
          obtain ⟨q5, g5⟩ := Prod.mk.inj g4
          obtain ⟨q6, q7⟩ := Prod.mk.inj g5
          subst q0 q1 q2 q3 q4 q5 q6 q7
          exact eMv C0 hP hS rfl dX5_readShip_102
        · have h := ifn c_101 h
          refine lv_aload_n hx hb dX5_readShip_78 rfl (lv_at hl 2 rfl) ?_
          refine lv_iconst (v := 1) hx hb dX5_readShip_79 (by decide) ?_
          refine lv_iconst (v := 5) hx hb dX5_readShip_80 (by decide) ?_
          obtain ⟨z_104, e_105, h⟩ := bds h
          have hPc := hP.sub (ws' := (wX5 cI cS a0 a1 a2 a3 a4 a5 a6 a7 a8 a9 a10 a11 nw kp ad fd tp kn it wd sz nm mv ik td z_99.2.1 z_99.2.2.1 z_99.2.2.2.1 z_99.2.2.2.2.1 z_99.2.2.2.2.2 im st ht)) [0, 1, 2, 3, 4, 5, 6, 7, 8, 9, 10, 11] rfl
          refine kMi (wf' := (wX5 cI cS a0 a1 a2 a3 a4 a5 a6 a7 a8 a9 a10 a11 nw kp ad fd tp kn it wd sz nm mv ik td z_104.2.1 z_104.2.2.1 z_104.2.2.2.1 z_104.2.2.2.2.1 z_104.2.2.2.2.2 im st ht)) [0, 1, 2, 3, 4, 5, 6, 7, 8, 9, 10, 11] [some 0, some 1, some 2, some 3, some 4, some 5, some 6, some 7, some 8, some 9, some 10, some 11] (rV C0 (tX5_number l D cI cS F a0 a1 a2 a3 a4 a5 a6 a7 a8 a9 a10 a11 nw kp ad fd tp kn it wd sz nm mv ik td z_99.2.1 z_99.2.2.1 z_99.2.2.2.1 z_99.2.2.2.2.1 z_99.2.2.2.2.2 im st ht 1 5 z_104.1 z_104.2.1 z_104.2.2.1 z_104.2.2.2.1 z_104.2.2.2.2.1 z_104.2.2.2.2.2 e_105 (((hD (wX5 cI cS a0 a1 a2 a3 a4 a5 a6 a7 a8 a9 a10 a11 nw kp ad fd tp kn it wd sz nm mv ik td z_99.2.1 z_99.2.2.1 z_99.2.2.2.1 z_99.2.2.2.2.1 z_99.2.2.2.2.2 im st ht) rfl).sub [0, 1, 2, 3, 4, 5, 6, 7, 8, 9, 10, 11] (by decide) rfl).weaken (fun _ _ _ _ => trivial))) RX5 gX5_readShip_X5_number rfl ⟨rfl, rfl⟩ pdX5_number rfl ⟨Nat.le_of_ble_eq_true rfl, Nat.le_of_ble_eq_true rfl⟩ (fun _ _ _ _ q => q) (va_recv hE.1 hPc (ci := 4) (q0 := 0) rfl rfl) (fun U hU _ _ => by rw [hU]; exact hPc) hl.1 rfl (Nat.le_of_ble_eq_true rfl) dX5_readShip_81 ⟨Nat.zero_le _, Nat.zero_le _⟩) hP (hD _ rfl) hS rfl rfl rfl (fun H locs hP hS => ?_)
          refine lv_goto (tgt := 88) hx hb dX5_readShip_84 (by decide) ?_
          refine lv_iconst (v := 0) hx hb dX5_readShip_88 (by decide) ?_
          obtain ⟨z_106, e_107, h⟩ := bds h
          have hPc := hP.sub (ws' := (wX5 cI cS a0 a1 a2 a3 a4 a5 a6 a7 a8 a9 a10 a11 nw kp ad fd tp kn it wd sz nm mv ik td z_104.2.1 z_104.2.2.1 z_104.2.2.2.1 z_104.2.2.2.2.1 z_104.2.2.2.2.2 im st ht)) [0, 1, 2, 3, 4, 5, 6, 7, 8, 9, 10, 11] rfl
          refine kMv (wf' := (wX5 cI cS a0 a1 a2 a3 a4 a5 a6 a7 a8 a9 a10 a11 nw kp ad fd tp kn z_106.1 wd sz nm mv ik td z_104.2.1 z_104.2.2.1 z_104.2.2.2.1 z_104.2.2.2.2.1 z_104.2.2.2.2.2 z_106.2 st ht)) [0, 1, 2, 3, 4, 5, 6, 7, 8, 9, 10, 11] [some 0, some 1, some 2, some 3, some 4, some 5, some 6, some 7, some 8, some 9, some 10, some 11] (rV C0 (tX5_addItem l D cI cS a0 a1 a2 a3 a4 a5 a6 a7 a8 a9 a10 a11 nw kp ad fd tp kn it wd sz nm mv ik td z_104.2.1 z_104.2.2.1 z_104.2.2.2.1 z_104.2.2.2.2.1 z_104.2.2.2.2.2 im st ht 10 z_83.1 z_97.1 z_104.1 0 z_106.1 z_106.2 e_107 (((hD (wX5 cI cS a0 a1 a2 a3 a4 a5 a6 a7 a8 a9 a10 a11 nw kp ad fd tp kn it wd sz nm mv ik td z_104.2.1 z_104.2.2.1 z_104.2.2.2.1 z_104.2.2.2.2.1 z_104.2.2.2.2.2 im st ht) rfl).sub [0, 1, 2, 3, 4, 5, 6, 7, 8, 9, 10, 11] (by decide) rfl).weaken (fun _ _ _ _ => trivial))) RX5 gX5_readShip_X5_addItem rfl ⟨rfl, rfl⟩ pdX5_addItem rfl ⟨Nat.le_of_ble_eq_true rfl, Nat.le_of_ble_eq_true rfl⟩ (fun _ _ _ _ q => q) (va_recv hE.1 hPc (ci := 4) (q0 := 0) rfl rfl) (fun U hU _ _ => by rw [hU]; exact hPc) hl.1 rfl (Nat.le_of_ble_eq_true rfl) dX5_readShip_89 ⟨Nat.zero_le _, Nat.zero_le _⟩) hP (hD _ rfl) hS rfl rfl rfl (fun H locs hP hS => ?_)
          refine lv_aload_n hx hb dX5_readShip_92 rfl (lv_at hl 2 rfl) ?_
          refine lv_dup hx hb dX5_readShip_93 rfl ?_
          refine va_get (D := D) (ci := 4) (v := .int ht) (C := RX5) (T := TX5) (N := 21) hx hb hts hinX5 hown hE.1 hP 0 rfl rfl 16 (by decide) (hts _ (List.mem_of_getElem? (i := 1) rfl)) (fun _ h9 => h9) rfl dX5_readShip_94 ?_
          refine lv_iconst (v := 1) hx hb dX5_readShip_97 (by decide) ?_
          refine lv_iadd hx hb dX5_readShip_98 ?_
          refine va_put (D := D) (ci := 4) (v := .int (ht + 1)) (ty := .int) (C := RX5) (T := TX5) (N := 21) hx hb hts hinX5 tyX5 tyX5_ok nmX5 hown hE.1 hP (hD _ rfl) hS 0 rfl rfl 16 (by decide) (hts _ (List.mem_of_getElem? (i := 1) rfl)) (fun _ h9 => h9) rfl (by decide +kernel) rfl rfl (Nat.le_of_ble_eq_true rfl) dX5_readShip_99 (fun H locs hP _ hS => ?_)
          have hP : va_P D vwCl (wX5 cI cS a0 a1 a2 a3 a4 a5 a6 a7 a8 a9 a10 a11 nw kp ad fd tp kn z_106.1 wd sz nm mv ik td z_104.2.1 z_104.2.2.1 z_104.2.2.2.1 z_104.2.2.2.2.1 z_104.2.2.2.2.2 z_106.2 st (ht + 1)) H := hP
          obtain ⟨q0, g0⟩ := Prod.mk.inj (Option.some.inj h)
          obtain ⟨q1, g1⟩ := Prod.mk.inj g0
          obtain ⟨q2, g2⟩ := Prod.mk.inj g1
          obtain ⟨q3, g3⟩ := Prod.mk.inj g2
          obtain ⟨q4, g4⟩ := Prod.mk.inj g3
          obtain ⟨q5, g5⟩ := Prod.mk.inj g4
          obtain ⟨q6, q7⟩ := Prod.mk.inj g5
          subst q0 q1 q2 q3 q4 q5 q6 q7
          exact eMv C0 hP hS rfl dX5_readShip_102
def fX5_readItem_4 (F : Nat) (tp : Nat → Int32) (td : Int32) : Nat → Int32 → Int32 → (Nat → Int32) → Int32 → Int32 → Int32 → Int32 → Int32 → Int32 → Int32 → Int32 → Option ((Nat → Int32) × Int32 × Int32 × Int32 × Int32 × Int32 × Int32 × Int32 × Int32)
  | 0, _, _, _, _, _, _, _, _, _, _, _ => none
  | n + 1, v1, v2, it, bg, en, so, va, iw, im, st, ht => (if 7 ≤ v2 then (if v1 < 0 then Option.bind (fX5_isWord F tp bg en so 7) (fun z_3 => (if z_3 = 0 then Option.bind (fX5_takesWord F tp td bg en so va iw 8) (fun z_6 => (if z_6.1 = 0 then Option.bind (fX5_must F tp td z_6.2.1 z_6.2.2.1 z_6.2.2.2.1 z_6.2.2.2.2.1 z_6.2.2.2.2.2 0) (fun z_9 => some (it, z_9.1, z_9.2.1, z_9.2.2.1, z_9.2.2.2.1, z_9.2.2.2.2, im, st, ht)) else Option.bind (fX5_number F tp td z_6.2.1 z_6.2.2.1 z_6.2.2.2.1 z_6.2.2.2.2.1 z_6.2.2.2.2.2 0 5) (fun z_11 => Option.bind (fX5_number F tp td z_11.2.1 z_11.2.2.1 z_11.2.2.2.1 z_11.2.2.2.2.1 z_11.2.2.2.2.2 0 8) (fun z_13 => Option.bind (fX5_addItem it im 11 z_11.1 z_13.1 0 0) (fun z_15 => some (z_15.1, z_13.2.1, z_13.2.2.1, z_13.2.2.2.1, z_13.2.2.2.2.1, z_13.2.2.2.2.2, z_15.2, st, ht)))))) else Option.bind (fX5_readShip F tp it td bg en so va iw im ht) (fun z_17 => some (z_17.1, z_17.2.1, z_17.2.2.1, z_17.2.2.2.1, z_17.2.2.2.2.1, z_17.2.2.2.2.2.1, z_17.2.2.2.2.2.2.1, st, z_17.2.2.2.2.2.2.2)))) else Option.bind (fX5_readSaying F tp it td bg en so va iw im st v1) (fun z_19 => some (z_19.1, z_19.2.1, z_19.2.2.1, z_19.2.2.2.1, z_19.2.2.2.2.1, z_19.2.2.2.2.2.1, z_19.2.2.2.2.2.2.1, z_19.2.2.2.2.2.2.2, ht))) else if ¬ (v2 < 0 ∨ 7 ≤ v2.toNatClampNeg) then Option.bind (fX5_isWord F tp bg en so v2.toNatClampNeg) (fun z_22 => (if z_22 = 0 then fX5_readItem_4 F tp td n v1 (v2 + 1) it bg en so va iw im st ht else fX5_readItem_4 F tp td n v2 (v2 + 1) it bg en so va iw im st ht)) else none)
def fX5_readItem (F : Nat) (tp : Nat → Int32) (it : Nat → Int32) (td : Int32) (bg : Int32) (en : Int32) (so : Int32) (va : Int32) (iw : Int32) (im : Int32) (st : Int32) (ht : Int32) : Option ((Nat → Int32) × Int32 × Int32 × Int32 × Int32 × Int32 × Int32 × Int32 × Int32) := fX5_readItem_4 F tp td F (-1) 0 it bg en so va iw im st ht
abbrev rmX5_readItem : Room := { frames := 7, cells := 0, slots := 0, locals := 154 }
theorem pdX5_readItem : (yX5_readItem.cls = RX5 ∧ yX5_readItem.cls ≠ "java/lang/invoke/MethodHandle" ∧ yX5_readItem.cls ≠ "java/lang/invoke/VarHandle" ∧ (parseMethodDescriptor yX5_readItem.desc).map (fun d => d.parameters.length) = some 0) := by decide +kernel
set_option maxHeartbeats 4000000 in
set_option maxRecDepth 100000 in
theorem lX5_readItem_4 {p : Program} {l : Launch} {e : Env} {s : State} {m : MethodId} {av : Array Value} {below : List Frame} {meth : Method} {c : Code} {D : va_G} {cI cS : ClassId} {a0 a1 a2 a3 a4 a5 a6 a7 a8 a9 a10 a11 : Nat} {W0 : va_W} (C0 : CX p s m av meth c RX5 cX5_readItem 3 none wsX5_readItem D cI cS) (F : Nat) (nw : Nat → Int32) (kp : Nat → Int32) (ad : Nat → Int32) (fd : Nat → Int32) (tp : Nat → Int32) (kn : Nat → Option Nat) (wd : Nat → Int32) (sz : Nat → Int32) (nm : Nat → Int32) (mv : Nat → Int32) (ik : Int32) (td : Int32) (z0 : Nat → Int32) (z1 : Int32) (z2 : Int32) (z3 : Int32) (z4 : Int32) (z5 : Int32) (z6 : Int32) (z7 : Int32) (z8 : Int32) (cs : CSt) (hCS : CST cs (wA W0) s s.heap) (hkn : ∀ k : Nat, k < 7 → kn k = some (cs.1 k)) (hD : ∀ W : va_W, W.map Prod.fst = [a0, a1, a2, a3, a4, a5, a6, a7, a8, a9, a10, a11] → va_D (wA W0) W) : ∀ (n : Nat) (v1 : Int32) (v2 : Int32) (it : Nat → Int32) (bg : Int32) (en : Int32) (so : Int32) (va : Int32) (iw : Int32) (im : Int32) (st : Int32) (ht : Int32) (H : Heap) (locs : List Loc), va_P D vwCl (wX5 cI cS a0 a1 a2 a3 a4 a5 a6 a7 a8 a9 a10 a11 nw kp ad fd tp kn it wd sz nm mv ik td bg en so va iw im st ht) H → va_S (wA W0) s.heap H locs → ∀ (ls : Array Slot), lv_has ls 3 [(0, .ref a0), (1, .int v1), (2, .int v2)] → fX5_readItem_4 F tp td n v1 v2 it bg en so va iw im st ht = some (z0, z1, z2, z3, z4, z5, z6, z7, z8) → W p l e rmX5_readItem s m av below meth c H locs 0 0 (MQ below (qV D W0 (wX5 cI cS a0 a1 a2 a3 a4 a5 a6 a7 a8 a9 a10 a11 nw kp ad fd tp kn z0 wd sz nm mv ik td z1 z2 z3 z4 z5 z6 z7 z8)) av s 0 0 (wA W0)) (F0 m 4 ls []) := by
  obtain ⟨hx, hb, hr, hml, hown, hts, hlk, hE⟩ := id C0
  have hinX5 : ∀ w ∈ u_ws RX5 TX5 21, w ∈ wsX5_readItem := by decide +kernel
  intro n
  induction n with
  | zero =>
    intro v1 v2 it bg en so va iw im st ht H locs hP hS ls hl h
    cases (show none = some (z0, z1, z2, z3, z4, z5, z6, z7, z8) from h)
  | succ n ih =>
    intro v1 v2 it bg en so va iw im st ht H locs hP hS ls hl h
    rw [fX5_readItem_4] at h
    refine lv_iload_n hx hb dX5_readItem_4 rfl (lv_at hl 2 rfl) ?_
    refine lv_aload_n hx hb dX5_readItem_5 rfl (lv_at hl 0 rfl) ?_
    refine va_get (D := D) (ci := 4) (v := .ref a6) (C := RX5) (T := TX5) (N := 21) hx hb hts hinX5 hown hE.1 hP 0 rfl rfl 12 (by decide) (hts _ (List.mem_of_getElem? (i := 1) rfl)) (fun _ h9 => h9) rfl dX5_readItem_6 ?_
    refine va_alen (v := 7) hx hb hE.1 hP 6 1 rfl rfl rfl dX5_readItem_9 ?_
    refine lv_icmp_ge (tgt := 38) hx hb dX5_readItem_10 (by decide) (fun c_1 => ?_) (fun c_1 => ?_)
    · have h := ifp c_1 h
      refine lv_iload_n hx hb dX5_readItem_38 rfl (lv_at hl 1 rfl) ?_
      refine lv_if_lt (tgt := 50) hx hb dX5_readItem_39 (by decide) (fun c_2 => ?_) (fun c_2 => ?_)
      · have h := ifp c_2 h
        refine lv_aload_n hx hb dX5_readItem_50 rfl (lv_at hl 0 rfl) ?_
        refine ldwS hx hb hown (show vk_R RX5 326 "ship" (cs.1 7) s from hCS.2.2.2.1 ("VaguePortModel", 326, "ship", 7) (List.mem_of_getElem? (i := 22) rfl)) dX5_readItem_51 ?_
        obtain ⟨z_3, e_4, h⟩ := bds h
        have hPc := hP.sub (ws' := (wX5 cI cS a0 a1 a2 a3 a4 a5 a6 a7 a8 a9 a10 a11 nw kp ad fd tp kn it wd sz nm mv ik td bg en so va iw im st ht)) [0, 1, 2, 3, 4, 5, 6, 7, 8, 9, 10, 11] rfl
        refine kRi (rV C0 (tX5_isWord l D cI cS cs F a0 a1 a2 a3 a4 a5 a6 a7 a8 a9 a10 a11 nw kp ad fd tp kn it wd sz nm mv ik td bg en so va iw im st ht 7 z_3 e_4 (by decide)) RX5 gX5_readItem_X5_isWord rfl ⟨rfl, rfl⟩ pdX5_isWord rfl ⟨Nat.le_of_ble_eq_true rfl, Nat.le_of_ble_eq_true rfl⟩ (fun _ _ _ _ q => ⟨q.1, q.2.call⟩) (va_recv hE.1 hPc (ci := 4) (q0 := 0) rfl rfl) (fun U hU hW _ => ⟨by rw [hU]; exact hPc, by rw [hU]; exact ((hCS.kept hS.2.1).narrow (fun _ q => q.elim)).warm hW⟩) hl.1 rfl (Nat.le_of_ble_eq_true rfl) dX5_readItem_54 ⟨Nat.zero_le _, Nat.zero_le _⟩) ?_
        refine lv_if_eq (tgt := 67) hx hb dX5_readItem_57 (by decide) (fun c_5 => ?_) (fun c_5 => ?_)
        · have h := ifp c_5 h
          refine lv_aload_n hx hb dX5_readItem_67 rfl (lv_at hl 0 rfl) ?_
          refine ldwS hx hb hown (show vk_R RX5 331 "finish" (cs.1 8) s from hCS.2.2.2.1 ("VaguePortModel", 331, "finish", 8) (List.mem_of_getElem? (i := 24) rfl)) dX5_readItem_68 ?_
          obtain ⟨z_6, e_7, h⟩ := bds h
          have hPc := hP.sub (ws' := (wX5 cI cS a0 a1 a2 a3 a4 a5 a6 a7 a8 a9 a10 a11 nw kp ad fd tp kn it wd sz nm mv ik td bg en so va iw im st ht)) [0, 1, 2, 3, 4, 5, 6, 7, 8, 9, 10, 11] rfl
          refine kMi (wf' := (wX5 cI cS a0 a1 a2 a3 a4 a5 a6 a7 a8 a9 a10 a11 nw kp ad fd tp kn it wd sz nm mv ik td z_6.2.1 z_6.2.2.1 z_6.2.2.2.1 z_6.2.2.2.2.1 z_6.2.2.2.2.2 im st ht)) [0, 1, 2, 3, 4, 5, 6, 7, 8, 9, 10, 11] [some 0, some 1, some 2, some 3, some 4, some 5, some 6, some 7, some 8, some 9, some 10, some 11] (rV C0 (tX5_takesWord l D cI cS cs F a0 a1 a2 a3 a4 a5 a6 a7 a8 a9 a10 a11 nw kp ad fd tp kn it wd sz nm mv ik td bg en so va iw im st ht 8 z_6.1 z_6.2.1 z_6.2.2.1 z_6.2.2.2.1 z_6.2.2.2.2.1 z_6.2.2.2.2.2 e_7 (by decide) (((hD (wX5 cI cS a0 a1 a2 a3 a4 a5 a6 a7 a8 a9 a10 a11 nw kp ad fd tp kn it wd sz nm mv ik td bg en so va iw im st ht) rfl).sub [0, 1, 2, 3, 4, 5, 6, 7, 8, 9, 10, 11] (by decide) rfl).weaken (fun _ _ _ _ => trivial))) RX5 gX5_readItem_X5_takesWord rfl ⟨rfl, rfl⟩ pdX5_takesWord rfl ⟨Nat.le_of_ble_eq_true rfl, Nat.le_of_ble_eq_true rfl⟩ (fun _ _ _ _ q => ⟨q.1, q.2.call⟩) (va_recv hE.1 hPc (ci := 4) (q0 := 0) rfl rfl) (fun U hU hW _ => ⟨by rw [hU]; exact hPc, by rw [hU]; exact ((hCS.kept hS.2.1).narrow (fun q h => va_D.inA (hD (wX5 cI cS a0 a1 a2 a3 a4 a5 a6 a7 a8 a9 a10 a11 nw kp ad fd tp kn it wd sz nm mv ik td bg en so va iw im st ht) rfl) [0, 1, 2, 3, 4, 5, 6, 7, 8, 9, 10, 11] rfl h)).warm hW⟩) hl.1 rfl (Nat.le_of_ble_eq_true rfl) dX5_readItem_71 ⟨Nat.zero_le _, Nat.zero_le _⟩) hP (hD _ rfl) hS rfl rfl rfl (fun H locs hP hS => ?_)
          refine lv_if_eq (tgt := 103) hx hb dX5_readItem_74 (by decide) (fun c_8 => ?_) (fun c_8 => ?_)
          · have h := ifp c_8 h
            refine lv_aload_n hx hb dX5_readItem_103 rfl (lv_at hl 0 rfl) ?_
            refine lv_iconst (v := 0) hx hb dX5_readItem_104 (by decide) ?_
            obtain ⟨z_9, e_10, h⟩ := bds h
            have hPc := hP.sub (ws' := (wX5 cI cS a0 a1 a2 a3 a4 a5 a6 a7 a8 a9 a10 a11 nw kp ad fd tp kn it wd sz nm mv ik td z_6.2.1 z_6.2.2.1 z_6.2.2.2.1 z_6.2.2.2.2.1 z_6.2.2.2.2.2 im st ht)) [0, 1, 2, 3, 4, 5, 6, 7, 8, 9, 10, 11] rfl
            refine kMv (wf' := (wX5 cI cS a0 a1 a2 a3 a4 a5 a6 a7 a8 a9 a10 a11 nw kp ad fd tp kn it wd sz nm mv ik td z_9.1 z_9.2.1 z_9.2.2.1 z_9.2.2.2.1 z_9.2.2.2.2 im st ht)) [0, 1, 2, 3, 4, 5, 6, 7, 8, 9, 10, 11] [some 0, some 1, some 2, some 3, some 4, some 5, some 6, some 7, some 8, some 9, some 10, some 11] (rV C0 (tX5_must l D cI cS F a0 a1 a2 a3 a4 a5 a6 a7 a8 a9 a10 a11 nw kp ad fd tp kn it wd sz nm mv ik td z_6.2.1 z_6.2.2.1 z_6.2.2.2.1 z_6.2.2.2.2.1 z_6.2.2.2.2.2 im st ht 0 z_9.1 z_9.2.1 z_9.2.2.1 z_9.2.2.2.1 z_9.2.2.2.2 e_10 (((hD (wX5 cI cS a0 a1 a2 a3 a4 a5 a6 a7 a8 a9 a10 a11 nw kp ad fd tp kn it wd sz nm mv ik td z_6.2.1 z_6.2.2.1 z_6.2.2.2.1 z_6.2.2.2.2.1 z_6.2.2.2.2.2 im st ht) rfl).sub [0, 1, 2, 3, 4, 5, 6, 7, 8, 9, 10, 11] (by decide) rfl).weaken (fun _ _ _ _ => trivial))) RX5 gX5_readItem_X5_must rfl ⟨rfl, rfl⟩ pdX5_must rfl ⟨Nat.le_of_ble_eq_true rfl, Nat.le_of_ble_eq_true rfl⟩ (fun _ _ _ _ q => q) (va_recv hE.1 hPc (ci := 4) (q0 := 0) rfl rfl) (fun U hU _ _ => by rw [hU]; exact hPc) hl.1 rfl (Nat.le_of_ble_eq_true rfl) dX5_readItem_105 ⟨Nat.zero_le _, Nat.zero_le _⟩) hP (hD _ rfl) hS rfl rfl rfl (fun H locs hP hS => ?_)
            obtain ⟨q0, g0⟩ := Prod.mk.inj (Option.some.inj h)
            obtain ⟨q1, g1⟩ := Prod.mk.inj g0
            obtain ⟨q2, g2⟩ := Prod.mk.inj g1
            obtain ⟨q3, g3⟩ := Prod.mk.inj g2
            obtain ⟨q4, g4⟩ := Prod.mk.inj g3
            obtain ⟨q5, g5⟩ := Prod.mk.inj g4
            obtain ⟨q6, g6⟩ := Prod.mk.inj g5
            obtain ⟨q7, q8⟩ := Prod.mk.inj g6
            subst q0 q1 q2 q3 q4 q5 q6 q7 q8
            exact eMv C0 hP hS rfl dX5_readItem_108
          · have h := ifn c_8 h
            refine lv_aload_n hx hb dX5_readItem_77 rfl (lv_at hl 0 rfl) ?_
            refine lv_iconst (v := 0) hx hb dX5_readItem_78 (by decide) ?_
            refine lv_iconst (v := 5) hx hb dX5_readItem_79 (by decide) ?_
            obtain ⟨z_11, e_12, h⟩ := bds h
            have hPc := hP.sub (ws' := (wX5 cI cS a0 a1 a2 a3 a4 a5 a6 a7 a8 a9 a10 a11 nw kp ad fd tp kn it wd sz nm mv ik td z_6.2.1 z_6.2.2.1 z_6.2.2.2.1 z_6.2.2.2.2.1 z_6.2.2.2.2.2 im st ht)) [0, 1, 2, 3, 4, 5, 6, 7, 8, 9, 10, 11] rfl
            refine kMi (wf' := (wX5 cI cS a0 a1 a2 a3 a4 a5 a6 a7 a8 a9 a10 a11 nw kp ad fd tp kn it wd sz nm mv ik td z_11.2.1 z_11.2.2.1 z_11.2.2.2.1 z_11.2.2.2.2.1 z_11.2.2.2.2.2 im st ht)) [0, 1, 2, 3, 4, 5, 6, 7, 8, 9, 10, 11] [some 0, some 1, some 2, some 3, some 4, some 5, some 6, some 7, some 8, some 9, some 10, some 11] (rV C0 (tX5_number l D cI cS F a0 a1 a2 a3 a4 a5 a6 a7 a8 a9 a10 a11 nw kp ad fd tp kn it wd sz nm mv ik td z_6.2.1 z_6.2.2.1 z_6.2.2.2.1 z_6.2.2.2.2.1 z_6.2.2.2.2.2 im st ht 0 5 z_11.1 z_11.2.1 z_11.2.2.1 z_11.2.2.2.1 z_11.2.2.2.2.1 z_11.2.2.2.2.2 e_12 (((hD (wX5 cI cS a0 a1 a2 a3 a4 a5 a6 a7 a8 a9 a10 a11 nw kp ad fd tp kn it wd sz nm mv ik td z_6.2.1 z_6.2.2.1 z_6.2.2.2.1 z_6.2.2.2.2.1 z_6.2.2.2.2.2 im st ht) rfl).sub [0, 1, 2, 3, 4, 5, 6, 7, 8, 9, 10, 11] (by decide) rfl).weaken (fun _ _ _ _ => trivial))) RX5 gX5_readItem_X5_number rfl ⟨rfl, rfl⟩ pdX5_number rfl ⟨Nat.le_of_ble_eq_true rfl, Nat.le_of_ble_eq_true rfl⟩ (fun _ _ _ _ q => q) (va_recv hE.1 hPc (ci := 4) (q0 := 0) rfl rfl) (fun U hU _ _ => by rw [hU]; exact hPc) hl.1 rfl (Nat.le_of_ble_eq_true rfl) dX5_readItem_80 ⟨Nat.zero_le _, Nat.zero_le _⟩) hP (hD _ rfl) hS rfl rfl rfl (fun H locs hP hS => ?_)
            refine lv_istore_n (lv' := [(2, .int z_11.1), (0, .ref a0), (1, .int v1)]) hx hb dX5_readItem_83 rfl hl (by decide) rfl (fun ls hl => ?_)
            refine lv_aload_n hx hb dX5_readItem_84 rfl (lv_at hl 1 rfl) ?_
            refine lv_bipush (v := 11) hx hb dX5_readItem_85 (by decide) ?_
            refine lv_iload_n hx hb dX5_readItem_87 rfl (lv_at hl 0 rfl) ?_
            refine lv_aload_n hx hb dX5_readItem_88 rfl (lv_at hl 1 rfl) ?_
            refine lv_iconst (v := 0) hx hb dX5_readItem_89 (by decide) ?_
            refine lv_bipush (v := 8) hx hb dX5_readItem_90 (by decide) ?_
            obtain ⟨z_13, e_14, h⟩ := bds h
            have hPc := hP.sub (ws' := (wX5 cI cS a0 a1 a2 a3 a4 a5 a6 a7 a8 a9 a10 a11 nw kp ad fd tp kn it wd sz nm mv ik td z_11.2.1 z_11.2.2.1 z_11.2.2.2.1 z_11.2.2.2.2.1 z_11.2.2.2.2.2 im st ht)) [0, 1, 2, 3, 4, 5, 6, 7, 8, 9, 10, 11] rfl
            refine kMi (wf' := (wX5 cI cS a0 a1 a2 a3 a4 a5 a6 a7 a8 a9 a10 a11 nw kp ad fd tp kn it wd sz nm mv ik td z_13.2.1 z_13.2.2.1 z_13.2.2.2.1 z_13.2.2.2.2.1 z_13.2.2.2.2.2 im st ht)) [0, 1, 2, 3, 4, 5, 6, 7, 8, 9, 10, 11] [some 0, some 1, some 2, some 3, some 4, some 5, some 6, some 7, some 8, some 9, some 10, some 11] (rV C0 (tX5_number l D cI cS F a0 a1 a2 a3 a4 a5 a6 a7 a8 a9 a10 a11 nw kp ad fd tp kn it wd sz nm mv ik td z_11.2.1 z_11.2.2.1 z_11.2.2.2.1 z_11.2.2.2.2.1 z_11.2.2.2.2.2 im st ht 0 8 z_13.1 z_13.2.1 z_13.2.2.1 z_13.2.2.2.1 z_13.2.2.2.2.1 z_13.2.2.2.2.2 e_14 (((hD (wX5 cI cS a0 a1 a2 a3 a4 a5 a6 a7 a8 a9 a10 a11 nw kp ad fd tp kn it wd sz nm mv ik td z_11.2.1 z_11.2.2.1 z_11.2.2.2.1 z_11.2.2.2.2.1 z_11.2.2.2.2.2 im st ht) rfl).sub [0, 1, 2, 3, 4, 5, 6, 7, 8, 9, 10, 11] (by decide) rfl).weaken (fun _ _ _ _ => trivial))) RX5 gX5_readItem_X5_number rfl ⟨rfl, rfl⟩ pdX5_number rfl ⟨Nat.le_of_ble_eq_true rfl, Nat.le_of_ble_eq_true rfl⟩ (fun _ _ _ _ q => q) (va_recv hE.1 hPc (ci := 4) (q0 := 0) rfl rfl) (fun U hU _ _ => by rw [hU]; exact hPc) hl.1 rfl (Nat.le_of_ble_eq_true rfl) dX5_readItem_92 ⟨Nat.zero_le _, Nat.zero_le _⟩) hP (hD _ rfl) hS rfl rfl rfl (fun H locs hP hS => ?_)
            refine lv_iconst (v := 0) hx hb dX5_readItem_95 (by decide) ?_
            refine lv_iconst (v := 0) hx hb dX5_readItem_96 (by decide) ?_
            obtain ⟨z_15, e_16, h⟩ := bds h
            have hPc := hP.sub (ws' := (wX5 cI cS a0 a1 a2 a3 a4 a5 a6 a7 a8 a9 a10 a11 nw kp ad fd tp kn it wd sz nm mv ik td z_13.2.1 z_13.2.2.1 z_13.2.2.2.1 z_13.2.2.2.2.1 z_13.2.2.2.2.2 im st ht)) [0, 1, 2, 3, 4, 5, 6, 7, 8, 9, 10, 11] rfl
            refine kMv (wf' := (wX5 cI cS a0 a1 a2 a3 a4 a5 a6 a7 a8 a9 a10 a11 nw kp ad fd tp kn z_15.1 wd sz nm mv ik td z_13.2.1 z_13.2.2.1 z_13.2.2.2.1 z_13.2.2.2.2.1 z_13.2.2.2.2.2 z_15.2 st ht)) [0, 1, 2, 3, 4, 5, 6, 7, 8, 9, 10, 11] [some 0, some 1, some 2, some 3, some 4, some 5, some 6, some 7, some 8, some 9, some 10, some 11] (rV C0 (tX5_addItem l D cI cS a0 a1 a2 a3 a4 a5 a6 a7 a8 a9 a10 a11 nw kp ad fd tp kn it wd sz nm mv ik td z_13.2.1 z_13.2.2.1 z_13.2.2.2.1 z_13.2.2.2.2.1 z_13.2.2.2.2.2 im st ht 11 z_11.1 z_13.1 0 0 z_15.1 z_15.2 e_16 (((hD (wX5 cI cS a0 a1 a2 a3 a4 a5 a6 a7 a8 a9 a10 a11 nw kp ad fd tp kn it wd sz nm mv ik td z_13.2.1 z_13.2.2.1 z_13.2.2.2.1 z_13.2.2.2.2.1 z_13.2.2.2.2.2 im st ht) rfl).sub [0, 1, 2, 3, 4, 5, 6, 7, 8, 9, 10, 11] (by decide) rfl).weaken (fun _ _ _ _ => trivial))) RX5 gX5_readItem_X5_addItem rfl ⟨rfl, rfl⟩ pdX5_addItem rfl ⟨Nat.le_of_ble_eq_true rfl, Nat.le_of_ble_eq_true rfl⟩ (fun _ _ _ _ q => q) (va_recv hE.1 hPc (ci := 4) (q0 := 0) rfl rfl) (fun U hU _ _ => by rw [hU]; exact hPc) hl.1 rfl (Nat.le_of_ble_eq_true rfl) dX5_readItem_97 ⟨Nat.zero_le _, Nat.zero_le _⟩) hP (hD _ rfl) hS rfl rfl rfl (fun H locs hP hS => ?_)
            refine lv_goto (tgt := 108) hx hb dX5_readItem_100 (by decide) ?_
            obtain ⟨q0, g0⟩ := Prod.mk.inj (Option.some.inj h)
            obtain ⟨q1, g1⟩ := Prod.mk.inj g0
            obtain ⟨q2, g2⟩ := Prod.mk.inj g1
            obtain ⟨q3, g3⟩ := Prod.mk.inj g2
            obtain ⟨q4, g4⟩ := Prod.mk.inj g3
            obtain ⟨q5, g5⟩ := Prod.mk.inj g4
            obtain ⟨q6, g6⟩ := Prod.mk.inj g5
            obtain ⟨q7, q8⟩ := Prod.mk.inj g6
            subst q0 q1 q2 q3 q4 q5 q6 q7 q8
            exact eMv C0 hP hS rfl dX5_readItem_108
        · have h := ifn c_5 h
          refine lv_aload_n hx hb dX5_readItem_60 rfl (lv_at hl 0 rfl) ?_
          obtain ⟨z_17, e_18, h⟩ := bds h
          have hPc := hP.sub (ws' := (wX5 cI cS a0 a1 a2 a3 a4 a5 a6 a7 a8 a9 a10 a11 nw kp ad fd tp kn it wd sz nm mv ik td bg en so va iw im st ht)) [0, 1, 2, 3, 4, 5, 6, 7, 8, 9, 10, 11] rfl
          refine kMv (wf' := (wX5 cI cS a0 a1 a2 a3 a4 a5 a6 a7 a8 a9 a10 a11 nw kp ad fd tp kn z_17.1 wd sz nm mv ik td z_17.2.1 z_17.2.2.1 z_17.2.2.2.1 z_17.2.2.2.2.1 z_17.2.2.2.2.2.1 z_17.2.2.2.2.2.2.1 st z_17.2.2.2.2.2.2.2)) [0, 1, 2, 3, 4, 5, 6, 7, 8, 9, 10, 11] [some 0, some 1, some 2, some 3, some 4, some 5, some 6, some 7, some 8, some 9, some 10, some 11] (rV C0 (tX5_readShip l D cI cS cs F a0 a1 a2 a3 a4 a5 a6 a7 a8 a9 a10 a11 nw kp ad fd tp kn it wd sz nm mv ik td bg en so va iw im st ht  z_17.1 z_17.2.1 z_17.2.2.1 z_17.2.2.2.1 z_17.2.2.2.2.1 z_17.2.2.2.2.2.1 z_17.2.2.2.2.2.2.1 z_17.2.2.2.2.2.2.2 e_18 (((hD (wX5 cI cS a0 a1 a2 a3 a4 a5 a6 a7 a8 a9 a10 a11 nw kp ad fd tp kn it wd sz nm mv ik td bg en so va iw im st ht) rfl).sub [0, 1, 2, 3, 4, 5, 6, 7, 8, 9, 10, 11] (by decide) rfl).weaken (fun _ _ _ _ => trivial))) RX5 gX5_readItem_X5_readShip rfl ⟨rfl, rfl⟩ pdX5_readShip rfl ⟨Nat.le_of_ble_eq_true rfl, Nat.le_of_ble_eq_true rfl⟩ (fun _ _ _ _ q => ⟨q.1, q.2.call⟩) (va_recv hE.1 hPc (ci := 4) (q0 := 0) rfl rfl) (fun U hU hW _ => ⟨by rw [hU]; exact hPc, by rw [hU]; exact ((hCS.kept hS.2.1).narrow (fun q h => va_D.inA (hD (wX5 cI cS a0 a1 a2 a3 a4 a5 a6 a7 a8 a9 a10 a11 nw kp ad fd tp kn it wd sz nm mv ik td bg en so va iw im st ht) rfl) [0, 1, 2, 3, 4, 5, 6, 7, 8, 9, 10, 11] rfl h)).warm hW⟩) hl.1 rfl (Nat.le_of_ble_eq_true rfl) dX5_readItem_61 ⟨Nat.zero_le _, Nat.zero_le _⟩) hP (hD _ rfl) hS rfl rfl rfl (fun H locs hP hS => ?_)
          refine lv_goto (tgt := 108) hx hb dX5_readItem_64 (by decide) ?_
          obtain ⟨q0, g0⟩ := Prod.mk.inj (Option.some.inj h)
          obtain ⟨q1, g1⟩ := Prod.mk.inj g0
          obtain ⟨q2, g2⟩ := Prod.mk.inj g1
          obtain ⟨q3, g3⟩ := Prod.mk.inj g2
          obtain ⟨q4, g4⟩ := Prod.mk.inj g3
          obtain ⟨q5, g5⟩ := Prod.mk.inj g4
          obtain ⟨q6, g6⟩ := Prod.mk.inj g5
          obtain ⟨q7, q8⟩ := Prod.mk.inj g6
          subst q0 q1 q2 q3 q4 q5 q6 q7 q8
          exact eMv C0 hP hS rfl dX5_readItem_108
      · have h := ifn c_2 h
        refine lv_aload_n hx hb dX5_readItem_42 rfl (lv_at hl 0 rfl) ?_
        refine lv_iload_n hx hb dX5_readItem_43 rfl (lv_at hl 1 rfl) ?_
        obtain ⟨z_19, e_20, h⟩ := bds h
        have hPc := hP.sub (ws' := (wX5 cI cS a0 a1 a2 a3 a4 a5 a6 a7 a8 a9 a10 a11 nw kp ad fd tp kn it wd sz nm mv ik td bg en so va iw im st ht)) [0, 1, 2, 3, 4, 5, 6, 7, 8, 9, 10, 11] rfl
        refine kMv (wf' := (wX5 cI cS a0 a1 a2 a3 a4 a5 a6 a7 a8 a9 a10 a11 nw kp ad fd tp kn z_19.1 wd sz nm mv ik td z_19.2.1 z_19.2.2.1 z_19.2.2.2.1 z_19.2.2.2.2.1 z_19.2.2.2.2.2.1 z_19.2.2.2.2.2.2.1 z_19.2.2.2.2.2.2.2 ht)) [0, 1, 2, 3, 4, 5, 6, 7, 8, 9, 10, 11] [some 0, some 1, some 2, some 3, some 4, some 5, some 6, some 7, some 8, some 9, some 10, some 11] (rV C0 (tX5_readSaying l D cI cS cs F a0 a1 a2 a3 a4 a5 a6 a7 a8 a9 a10 a11 nw kp ad fd tp kn it wd sz nm mv ik td bg en so va iw im st ht v1 z_19.1 z_19.2.1 z_19.2.2.1 z_19.2.2.2.1 z_19.2.2.2.2.1 z_19.2.2.2.2.2.1 z_19.2.2.2.2.2.2.1 z_19.2.2.2.2.2.2.2 e_20 (((hD (wX5 cI cS a0 a1 a2 a3 a4 a5 a6 a7 a8 a9 a10 a11 nw kp ad fd tp kn it wd sz nm mv ik td bg en so va iw im st ht) rfl).sub [0, 1, 2, 3, 4, 5, 6, 7, 8, 9, 10, 11] (by decide) rfl).weaken (fun _ _ _ _ => trivial))) RX5 gX5_readItem_X5_readSaying rfl ⟨rfl, rfl⟩ pdX5_readSaying rfl ⟨Nat.le_of_ble_eq_true rfl, Nat.le_of_ble_eq_true rfl⟩ (fun _ _ _ _ q => ⟨q.1, q.2.call⟩) (va_recv hE.1 hPc (ci := 4) (q0 := 0) rfl rfl) (fun U hU hW _ => ⟨by rw [hU]; exact hPc, by rw [hU]; exact ((hCS.kept hS.2.1).narrow (fun q h => va_D.inA (hD (wX5 cI cS a0 a1 a2 a3 a4 a5 a6 a7 a8 a9 a10 a11 nw kp ad fd tp kn it wd sz nm mv ik td bg en so va iw im st ht) rfl) [0, 1, 2, 3, 4, 5, 6, 7, 8, 9, 10, 11] rfl h)).warm hW⟩) hl.1 rfl (Nat.le_of_ble_eq_true rfl) dX5_readItem_44 ⟨Nat.zero_le _, Nat.zero_le _⟩) hP (hD _ rfl) hS rfl rfl rfl (fun H locs hP hS => ?_)
        refine lv_goto (tgt := 108) hx hb dX5_readItem_47 (by decide) ?_
        obtain ⟨q0, g0⟩ := Prod.mk.inj (Option.some.inj h)
        obtain ⟨q1, g1⟩ := Prod.mk.inj g0
        obtain ⟨q2, g2⟩ := Prod.mk.inj g1
        obtain ⟨q3, g3⟩ := Prod.mk.inj g2
        obtain ⟨q4, g4⟩ := Prod.mk.inj g3
        obtain ⟨q5, g5⟩ := Prod.mk.inj g4
        obtain ⟨q6, g6⟩ := Prod.mk.inj g5
        obtain ⟨q7, q8⟩ := Prod.mk.inj g6
        subst q0 q1 q2 q3 q4 q5 q6 q7 q8
        exact eMv C0 hP hS rfl dX5_readItem_108
    · have h := ifn c_1 h
      refine lv_aload_n hx hb dX5_readItem_13 rfl (lv_at hl 0 rfl) ?_
      refine lv_aload_n hx hb dX5_readItem_14 rfl (lv_at hl 0 rfl) ?_
      refine va_get (D := D) (ci := 4) (v := .ref a6) (C := RX5) (T := TX5) (N := 21) hx hb hts hinX5 hown hE.1 hP 0 rfl rfl 12 (by decide) (hts _ (List.mem_of_getElem? (i := 1) rfl)) (fun _ h9 => h9) rfl dX5_readItem_15 ?_
      refine lv_iload_n hx hb dX5_readItem_18 rfl (lv_at hl 2 rfl) ?_
      obtain ⟨hi_21, h⟩ := ifs h
      refine va_aldq hx hb hE.1 hP 6 1 rfl rfl hi_21 dX5_readItem_19 ?_
      rw [hkn v2.toNatClampNeg (in_n hi_21)]
      refine W.eq (g2 := F0 m 20 ls [.ref (cs.1 v2.toNatClampNeg), .ref a0]) rfl ?_
      obtain ⟨z_22, e_23, h⟩ := bds h
      have hPc := hP.sub (ws' := (wX5 cI cS a0 a1 a2 a3 a4 a5 a6 a7 a8 a9 a10 a11 nw kp ad fd tp kn it wd sz nm mv ik td bg en so va iw im st ht)) [0, 1, 2, 3, 4, 5, 6, 7, 8, 9, 10, 11] rfl
      refine kRi (rV C0 (tX5_isWord l D cI cS cs F a0 a1 a2 a3 a4 a5 a6 a7 a8 a9 a10 a11 nw kp ad fd tp kn it wd sz nm mv ik td bg en so va iw im st ht v2.toNatClampNeg z_22 e_23 (Nat.lt_of_lt_of_le (in_n hi_21) (by decide))) RX5 gX5_readItem_X5_isWord rfl ⟨rfl, rfl⟩ pdX5_isWord rfl ⟨Nat.le_of_ble_eq_true rfl, Nat.le_of_ble_eq_true rfl⟩ (fun _ _ _ _ q => ⟨q.1, q.2.call⟩) (va_recv hE.1 hPc (ci := 4) (q0 := 0) rfl rfl) (fun U hU hW _ => ⟨by rw [hU]; exact hPc, by rw [hU]; exact ((hCS.kept hS.2.1).narrow (fun _ q => q.elim)).warm hW⟩) hl.1 rfl (Nat.le_of_ble_eq_true rfl) dX5_readItem_20 ⟨Nat.zero_le _, Nat.zero_le _⟩) ?_
      refine lv_if_eq (tgt := 30) hx hb dX5_readItem_23 (by decide) (fun c_24 => ?_) (fun c_24 => ?_)
      · have h := ifp c_24 h
        refine lv_iload_n hx hb dX5_readItem_30 rfl (lv_at hl 1 rfl) ?_
        refine lv_istore_n (lv' := [(1, .int v1), (0, .ref a0), (2, .int v2)]) hx hb dX5_readItem_31 rfl hl (by decide) rfl (fun ls hl => ?_)
        refine lv_iinc (v := v2 + 1) (lv' := [(2, .int (v2 + 1)), (1, .int v1), (0, .ref a0)]) hx hb dX5_readItem_32 hl (k := 2) rfl rfl (by decide) rfl (fun ls hl => ?_)
        refine lv_goto (tgt := 4) hx hb dX5_readItem_35 (by decide) ?_
        exact ih v1 (v2 + 1) it bg en so va iw im st ht _ _ hP hS _ (lv_sub hl [2, 1, 0] rfl) h
      · have h := ifn c_24 h
        refine lv_iload_n hx hb dX5_readItem_26 rfl (lv_at hl 2 rfl) ?_
        refine lv_goto (tgt := 31) hx hb dX5_readItem_27 (by decide) ?_
        refine lv_istore_n (lv' := [(1, .int v2), (0, .ref a0), (2, .int v2)]) hx hb dX5_readItem_31 rfl hl (by decide) rfl (fun ls hl => ?_)
        refine lv_iinc (v := v2 + 1) (lv' := [(2, .int (v2 + 1)), (1, .int v2), (0, .ref a0)]) hx hb dX5_readItem_32 hl (k := 2) rfl rfl (by decide) rfl (fun ls hl => ?_)
        refine lv_goto (tgt := 4) hx hb dX5_readItem_35 (by decide) ?_
        exact ih v2 (v2 + 1) it bg en so va iw im st ht _ _ hP hS _ (lv_sub hl [2, 1, 0] rfl) h
set_option maxHeartbeats 4000000 in
set_option maxRecDepth 100000 in
theorem tX5_readItem (l : Launch) (D : va_G) (cI cS : ClassId) (cs : CSt) (F : Nat) (a0 a1 a2 a3 a4 a5 a6 a7 a8 a9 a10 a11 : Nat) (nw : Nat → Int32) (kp : Nat → Int32) (ad : Nat → Int32) (fd : Nat → Int32) (tp : Nat → Int32) (kn : Nat → Option Nat) (it : Nat → Int32) (wd : Nat → Int32) (sz : Nat → Int32) (nm : Nat → Int32) (mv : Nat → Int32) (ik : Int32) (td : Int32) (bg : Int32) (en : Int32) (so : Int32) (va : Int32) (iw : Int32) (im : Int32) (st : Int32) (ht : Int32) (z0 : Nat → Int32) (z1 : Int32) (z2 : Int32) (z3 : Int32) (z4 : Int32) (z5 : Int32) (z6 : Int32) (z7 : Int32) (z8 : Int32) (h : fX5_readItem F tp it td bg en so va iw im st ht = some (z0, z1, z2, z3, z4, z5, z6, z7, z8)) (hkn : ∀ k : Nat, k < 7 → kn k = some (cs.1 k)) (hD0 : va_D (fun _ => True) (wX5 cI cS a0 a1 a2 a3 a4 a5 a6 a7 a8 a9 a10 a11 nw kp ad fd tp kn it wd sz nm mv ik td bg en so va iw im st ht)) : Met l yX5_readItem wsX5_readItem rmX5_readItem (PZ D cI cS [.ref a0] (fun U => va_P D vwCl (wX5 cI cS a0 a1 a2 a3 a4 a5 a6 a7 a8 a9 a10 a11 nw kp ad fd tp kn it wd sz nm mv ik td bg en so va iw im st ht) U.heap ∧ CST cs (wA (wX5 cI cS a0 a1 a2 a3 a4 a5 a6 a7 a8 a9 a10 a11 nw kp ad fd tp kn it wd sz nm mv ik td bg en so va iw im st ht)) U U.heap)) (qV D (wX5 cI cS a0 a1 a2 a3 a4 a5 a6 a7 a8 a9 a10 a11 nw kp ad fd tp kn it wd sz nm mv ik td bg en so va iw im st ht) (wX5 cI cS a0 a1 a2 a3 a4 a5 a6 a7 a8 a9 a10 a11 nw kp ad fd tp kn z0 wd sz nm mv ik td z1 z2 z3 z4 z5 z6 z7 z8)) 0 0 (wA (wX5 cI cS a0 a1 a2 a3 a4 a5 a6 a7 a8 a9 a10 a11 nw kp ad fd tp kn it wd sz nm mv ik td bg en so va iw im st ht)) := by
  refine Met.mk RX5 (by decide) rfl rfl (Nat.le_of_ble_eq_true rfl) ?_
  intro p e s m below meth c ls C0 hP hl
  obtain ⟨hP, hCS⟩ := hP
  have hl : lv_has ls 3 [(0, .ref a0)] := hl
  obtain ⟨hx, hb, hr, hml, hown, hts, hlk, hE⟩ := id C0
  have hinX5 : ∀ w ∈ u_ws RX5 TX5 21, w ∈ wsX5_readItem := by decide +kernel
  have hD : ∀ W : va_W, W.map Prod.fst = [a0, a1, a2, a3, a4, a5, a6, a7, a8, a9, a10, a11] → va_D (wA (wX5 cI cS a0 a1 a2 a3 a4 a5 a6 a7 a8 a9 a10 a11 nw kp ad fd tp kn it wd sz nm mv ik td bg en so va iw im st ht)) W := fun W hW => hD0.own.re hW
  have hS : va_S (wA (wX5 cI cS a0 a1 a2 a3 a4 a5 a6 a7 a8 a9 a10 a11 nw kp ad fd tp kn it wd sz nm mv ik td bg en so va iw im st ht)) s.heap s.heap [] := va_S.rf
  have hP : va_P D vwCl (wX5 cI cS a0 a1 a2 a3 a4 a5 a6 a7 a8 a9 a10 a11 nw kp ad fd tp kn it wd sz nm mv ik td bg en so va iw im st ht) s.heap := hP
  rw [fX5_readItem] at h
  refine lv_iconst (v := (-1)) hx hb dX5_readItem_0 (by decide) ?_
  refine lv_istore_n (lv' := [(1, .int (-1)), (0, .ref a0)]) hx hb dX5_readItem_1 rfl hl (by decide) rfl (fun ls hl => ?_)
  refine lv_iconst (v := 0) hx hb dX5_readItem_2 (by decide) ?_
  refine lv_istore_n (lv' := [(2, .int 0), (1, .int (-1)), (0, .ref a0)]) hx hb dX5_readItem_3 rfl hl (by decide) rfl (fun ls hl => ?_)
  exact lX5_readItem_4 (l := l) (e := e) (below := below) C0 F nw kp ad fd tp kn wd sz nm mv ik td z0 z1 z2 z3 z4 z5 z6 z7 z8 cs hCS hkn hD F (-1) 0 it bg en so va iw im st ht _ _ hP hS _ (lv_sub hl [2, 1, 0] rfl) h
def fX5_isToldSo (nw : Nat → Int32) (it : Nat → Int32) (v1 : Int32) : Option ((Nat → Int32)) := if ¬ ((v1 + 1) < 0 ∨ 600 ≤ (v1 + 1).toNatClampNeg) then if ¬ ((v1 + 2) < 0 ∨ 600 ≤ (v1 + 2).toNatClampNeg) then if ¬ ((v1 + 3) < 0 ∨ 600 ≤ (v1 + 3).toNatClampNeg) then if ¬ (v1 < 0 ∨ 600 ≤ v1.toNatClampNeg) then (if (it v1.toNatClampNeg) = 10 then Option.bind (fX5_sails nw (it (v1 + 1).toNatClampNeg) (it (v1 + 3).toNatClampNeg)) (fun z_6 => if ¬ ((fX5_shipAt z_6.1 1) < 0 ∨ 84 ≤ (fX5_shipAt z_6.1 1).toNatClampNeg) then some (upd z_6.2 (fX5_shipAt z_6.1 1).toNatClampNeg (it (v1 + 2).toNatClampNeg)) else none) else if (it v1.toNatClampNeg) = 11 then if ¬ ((4 + (it (v1 + 1).toNatClampNeg)) < 0 ∨ 84 ≤ (4 + (it (v1 + 1).toNatClampNeg)).toNatClampNeg) then some (upd nw (4 + (it (v1 + 1).toNatClampNeg)).toNatClampNeg (it (v1 + 2).toNatClampNeg)) else none else if ¬ (v1 < 0 ∨ 600 ≤ v1.toNatClampNeg) then Option.bind (fX5_comes nw (it v1.toNatClampNeg) (it (v1 + 1).toNatClampNeg) (it (v1 + 2).toNatClampNeg)) (fun z_12 => if ¬ ((fX5_sayingAt z_12.1 4) < 0 ∨ 84 ≤ (fX5_sayingAt z_12.1 4).toNatClampNeg) then if ¬ ((v1 + 4) < 0 ∨ 600 ≤ (v1 + 4).toNatClampNeg) then if ¬ ((fX5_sayingAt z_12.1 3) < 0 ∨ 84 ≤ (fX5_sayingAt z_12.1 3).toNatClampNeg) then some (upd (upd z_12.2 (fX5_sayingAt z_12.1 4).toNatClampNeg (it (v1 + 3).toNatClampNeg)) (fX5_sayingAt z_12.1 3).toNatClampNeg (it (v1 + 4).toNatClampNeg)) else none else none else none) else none) else none else none else none else none
abbrev rmX5_isToldSo : Room := { frames := 2, cells := 0, slots := 0, locals := 45 }
theorem pdX5_isToldSo : (yX5_isToldSo.cls = RX5 ∧ yX5_isToldSo.cls ≠ "java/lang/invoke/MethodHandle" ∧ yX5_isToldSo.cls ≠ "java/lang/invoke/VarHandle" ∧ (parseMethodDescriptor yX5_isToldSo.desc).map (fun d => d.parameters.length) = some 1) := by decide +kernel
set_option maxHeartbeats 4000000 in
set_option maxRecDepth 100000 in
theorem tX5_isToldSo (l : Launch) (D : va_G) (cI cS : ClassId) (a0 a1 a2 a3 a4 a5 a6 a7 a8 a9 a10 a11 : Nat) (nw : Nat → Int32) (kp : Nat → Int32) (ad : Nat → Int32) (fd : Nat → Int32) (tp : Nat → Int32) (kn : Nat → Option Nat) (it : Nat → Int32) (wd : Nat → Int32) (sz : Nat → Int32) (nm : Nat → Int32) (mv : Nat → Int32) (ik : Int32) (td : Int32) (bg : Int32) (en : Int32) (so : Int32) (va : Int32) (iw : Int32) (im : Int32) (st : Int32) (ht : Int32) (v1 : Int32) (z0 : Nat → Int32) (h : fX5_isToldSo nw it v1 = some z0) (hD0 : va_D (fun _ => True) (wX5 cI cS a0 a1 a2 a3 a4 a5 a6 a7 a8 a9 a10 a11 nw kp ad fd tp kn it wd sz nm mv ik td bg en so va iw im st ht)) : Met l yX5_isToldSo wsX5_isToldSo rmX5_isToldSo (PZ D cI cS [.ref a0, .int v1] (fun U => va_P D vwCl (wX5 cI cS a0 a1 a2 a3 a4 a5 a6 a7 a8 a9 a10 a11 nw kp ad fd tp kn it wd sz nm mv ik td bg en so va iw im st ht) U.heap)) (qV D (wX5 cI cS a0 a1 a2 a3 a4 a5 a6 a7 a8 a9 a10 a11 nw kp ad fd tp kn it wd sz nm mv ik td bg en so va iw im st ht) (wX5 cI cS a0 a1 a2 a3 a4 a5 a6 a7 a8 a9 a10 a11 z0 kp ad fd tp kn it wd sz nm mv ik td bg en so va iw im st ht)) 0 0 (wA (wX5 cI cS a0 a1 a2 a3 a4 a5 a6 a7 a8 a9 a10 a11 nw kp ad fd tp kn it wd sz nm mv ik td bg en so va iw im st ht)) := by
  refine Met.mk RX5 (by decide) rfl rfl (Nat.le_of_ble_eq_true rfl) ?_
  intro p e s m below meth c ls C0 hP hl
  have hl : lv_has ls 6 [(0, .ref a0), (1, .int v1)] := hl
  obtain ⟨hx, hb, hr, hml, hown, hts, hlk, hE⟩ := id C0
  have hinX5 : ∀ w ∈ u_ws RX5 TX5 21, w ∈ wsX5_isToldSo := by decide +kernel
  have hD : ∀ W : va_W, W.map Prod.fst = [a0, a1, a2, a3, a4, a5, a6, a7, a8, a9, a10, a11] → va_D (wA (wX5 cI cS a0 a1 a2 a3 a4 a5 a6 a7 a8 a9 a10 a11 nw kp ad fd tp kn it wd sz nm mv ik td bg en so va iw im st ht)) W := fun W hW => hD0.own.re hW
  have hS : va_S (wA (wX5 cI cS a0 a1 a2 a3 a4 a5 a6 a7 a8 a9 a10 a11 nw kp ad fd tp kn it wd sz nm mv ik td bg en so va iw im st ht)) s.heap s.heap [] := va_S.rf
  have hP : va_P D vwCl (wX5 cI cS a0 a1 a2 a3 a4 a5 a6 a7 a8 a9 a10 a11 nw kp ad fd tp kn it wd sz nm mv ik td bg en so va iw im st ht) s.heap := hP
  rw [fX5_isToldSo] at h
  refine lv_aload_n hx hb dX5_isToldSo_0 rfl (lv_at hl 0 rfl) ?_
  refine va_get (D := D) (ci := 4) (v := .ref a7) (C := RX5) (T := TX5) (N := 21) hx hb hts hinX5 hown hE.1 hP 0 rfl rfl 13 (by decide) (hts _ (List.mem_of_getElem? (i := 1) rfl)) (fun _ h9 => h9) rfl dX5_isToldSo_1 ?_
  refine lv_iload_n hx hb dX5_isToldSo_4 rfl (lv_at hl 1 rfl) ?_
  refine lv_iconst (v := 1) hx hb dX5_isToldSo_5 (by decide) ?_
  refine lv_iadd hx hb dX5_isToldSo_6 ?_
  obtain ⟨hi_1, h⟩ := ifs h
  refine va_iald hx hb hE.1 hP 7 0 rfl rfl hi_1 dX5_isToldSo_7 ?_
  refine lv_istore_n (lv' := [(2, .int (it (v1 + 1).toNatClampNeg)), (0, .ref a0), (1, .int v1)]) hx hb dX5_isToldSo_8 rfl hl (by decide) rfl (fun ls hl => ?_)
  refine lv_aload_n hx hb dX5_isToldSo_9 rfl (lv_at hl 1 rfl) ?_
  refine va_get (D := D) (ci := 4) (v := .ref a7) (C := RX5) (T := TX5) (N := 21) hx hb hts hinX5 hown hE.1 hP 0 rfl rfl 13 (by decide) (hts _ (List.mem_of_getElem? (i := 1) rfl)) (fun _ h9 => h9) rfl dX5_isToldSo_10 ?_
  refine lv_iload_n hx hb dX5_isToldSo_13 rfl (lv_at hl 2 rfl) ?_
  refine lv_iconst (v := 2) hx hb dX5_isToldSo_14 (by decide) ?_
  refine lv_iadd hx hb dX5_isToldSo_15 ?_
  obtain ⟨hi_2, h⟩ := ifs h
  refine va_iald hx hb hE.1 hP 7 0 rfl rfl hi_2 dX5_isToldSo_16 ?_
  refine lv_istore_n (lv' := [(3, .int (it (v1 + 2).toNatClampNeg)), (2, .int (it (v1 + 1).toNatClampNeg)), (0, .ref a0), (1, .int v1)]) hx hb dX5_isToldSo_17 rfl hl (by decide) rfl (fun ls hl => ?_)
  refine lv_aload_n hx hb dX5_isToldSo_18 rfl (lv_at hl 2 rfl) ?_
  refine va_get (D := D) (ci := 4) (v := .ref a7) (C := RX5) (T := TX5) (N := 21) hx hb hts hinX5 hown hE.1 hP 0 rfl rfl 13 (by decide) (hts _ (List.mem_of_getElem? (i := 1) rfl)) (fun _ h9 => h9) rfl dX5_isToldSo_19 ?_
  refine lv_iload_n hx hb dX5_isToldSo_22 rfl (lv_at hl 3 rfl) ?_
  refine lv_iconst (v := 3) hx hb dX5_isToldSo_23 (by decide) ?_
  refine lv_iadd hx hb dX5_isToldSo_24 ?_
  obtain ⟨hi_3, h⟩ := ifs h
  refine va_iald hx hb hE.1 hP 7 0 rfl rfl hi_3 dX5_isToldSo_25 ?_
  refine lv_istore (lv' := [(4, .int (it (v1 + 3).toNatClampNeg)), (3, .int (it (v1 + 2).toNatClampNeg)), (2, .int (it (v1 + 1).toNatClampNeg)), (0, .ref a0), (1, .int v1)]) hx hb dX5_isToldSo_26 hl (by decide) rfl (fun ls hl => ?_)
  refine lv_iconst (v := 0) hx hb dX5_isToldSo_28 (by decide) ?_
  refine lv_istore (lv' := [(5, .int 0), (4, .int (it (v1 + 3).toNatClampNeg)), (3, .int (it (v1 + 2).toNatClampNeg)), (2, .int (it (v1 + 1).toNatClampNeg)), (0, .ref a0), (1, .int v1)]) hx hb dX5_isToldSo_29 hl (by decide) rfl (fun ls hl => ?_)
  refine lv_aload_n hx hb dX5_isToldSo_31 rfl (lv_at hl 4 rfl) ?_
  refine va_get (D := D) (ci := 4) (v := .ref a7) (C := RX5) (T := TX5) (N := 21) hx hb hts hinX5 hown hE.1 hP 0 rfl rfl 13 (by decide) (hts _ (List.mem_of_getElem? (i := 1) rfl)) (fun _ h9 => h9) rfl dX5_isToldSo_32 ?_
  refine lv_iload_n hx hb dX5_isToldSo_35 rfl (lv_at hl 5 rfl) ?_
  obtain ⟨hi_4, h⟩ := ifs h
  refine va_iald hx hb hE.1 hP 7 0 rfl rfl hi_4 dX5_isToldSo_36 ?_
  by_cases c_5 : (it v1.toNatClampNeg) = 10
  · have h := ifp c_5 h
    refine lv_lookup (off := 27) (tgt := 64) hx hb dX5_isToldSo_37 (by decide) (by rw [c_5]; decide) (by decide) ?_
    refine lv_aload_n hx hb dX5_isToldSo_64 rfl (lv_at hl 4 rfl) ?_
    refine lv_iload_n hx hb dX5_isToldSo_65 rfl (lv_at hl 3 rfl) ?_
    refine lv_iload hx hb dX5_isToldSo_66 (lv_at hl 1 rfl) ?_
    obtain ⟨z_6, e_7, h⟩ := bds h
    have hPc := hP.sub (ws' := (wX5 cI cS a0 a1 a2 a3 a4 a5 a6 a7 a8 a9 a10 a11 nw kp ad fd tp kn it wd sz nm mv ik td bg en so va iw im st ht)) [0, 1, 2, 3, 4, 5, 6, 7, 8, 9, 10, 11] rfl
    refine kMi (wf' := (wX5 cI cS a0 a1 a2 a3 a4 a5 a6 a7 a8 a9 a10 a11 z_6.2 kp ad fd tp kn it wd sz nm mv ik td bg en so va iw im st ht)) [0, 1, 2, 3, 4, 5, 6, 7, 8, 9, 10, 11] [some 0, some 1, some 2, some 3, some 4, some 5, some 6, some 7, some 8, some 9, some 10, some 11] (rV C0 (tX5_sails l D cI cS a0 a1 a2 a3 a4 a5 a6 a7 a8 a9 a10 a11 nw kp ad fd tp kn it wd sz nm mv ik td bg en so va iw im st ht (it (v1 + 1).toNatClampNeg) (it (v1 + 3).toNatClampNeg) z_6.1 z_6.2 e_7 (((hD (wX5 cI cS a0 a1 a2 a3 a4 a5 a6 a7 a8 a9 a10 a11 nw kp ad fd tp kn it wd sz nm mv ik td bg en so va iw im st ht) rfl).sub [0, 1, 2, 3, 4, 5, 6, 7, 8, 9, 10, 11] (by decide) rfl).weaken (fun _ _ _ _ => trivial))) RX5 gX5_isToldSo_X5_sails rfl ⟨rfl, rfl⟩ pdX5_sails rfl ⟨Nat.le_of_ble_eq_true rfl, Nat.le_of_ble_eq_true rfl⟩ (fun _ _ _ _ q => q) (va_recv hE.1 hPc (ci := 4) (q0 := 0) rfl rfl) (fun U hU _ _ => by rw [hU]; exact hPc) hl.1 rfl (Nat.le_of_ble_eq_true rfl) dX5_isToldSo_68 ⟨Nat.zero_le _, Nat.zero_le _⟩) hP (hD _ rfl) hS rfl rfl rfl (fun H locs hP hS => ?_)
    refine lv_istore (lv' := [(5, .int z_6.1), (4, .int (it (v1 + 3).toNatClampNeg)), (3, .int (it (v1 + 2).toNatClampNeg)), (2, .int (it (v1 + 1).toNatClampNeg)), (0, .ref a0), (1, .int v1)]) hx hb dX5_isToldSo_71 hl (by decide) rfl (fun ls hl => ?_)
    refine lv_aload_n hx hb dX5_isToldSo_73 rfl (lv_at hl 4 rfl) ?_
    refine va_get (D := D) (ci := 4) (v := .ref a1) (C := RX5) (T := TX5) (N := 21) hx hb hts hinX5 hown hE.1 hP 0 rfl rfl 0 (by decide) (hts _ (List.mem_of_getElem? (i := 2) rfl)) (fun _ h9 => h9) rfl dX5_isToldSo_74 ?_
    refine lv_iload hx hb dX5_isToldSo_77 (lv_at hl 0 rfl) ?_
    refine lv_iconst (v := 1) hx hb dX5_isToldSo_79 (by decide) ?_
    refine kRi (rS C0 (tX5_shipAt l D cI cS z_6.1 1 (fX5_shipAt z_6.1 1) rfl) gX5_isToldSo_X5_shipAt rfl ⟨rfl, rfl⟩ pdX5_shipAt rfl ⟨Nat.le_of_ble_eq_true rfl, Nat.le_of_ble_eq_true rfl⟩ (fun _ _ _ _ q => q) (fun _ _ _ _ => vp0) hl.1 rfl (Nat.le_of_ble_eq_true rfl) dX5_isToldSo_80 ⟨Nat.zero_le _, Nat.zero_le _⟩) ?_
    refine lv_iload_n hx hb dX5_isToldSo_83 rfl (lv_at hl 2 rfl) ?_
    obtain ⟨hi_8, h⟩ := ifs h
    refine va_iast hx hb hE.1 hP (hD _ rfl) hS 1 0 rfl rfl hi_8 dX5_isToldSo_84 (fun H locs hP _ hS => ?_)
    have hP : va_P D vwCl (wX5 cI cS a0 a1 a2 a3 a4 a5 a6 a7 a8 a9 a10 a11 (upd z_6.2 (fX5_shipAt z_6.1 1).toNatClampNeg (it (v1 + 2).toNatClampNeg)) kp ad fd tp kn it wd sz nm mv ik td bg en so va iw im st ht) H := hP
    refine lv_goto (tgt := 146) hx hb dX5_isToldSo_85 (by decide) ?_
    obtain rfl := Option.some.inj h
    exact eMv C0 hP hS rfl dX5_isToldSo_146
  have h := ifn c_5 h
  by_cases c_9 : (it v1.toNatClampNeg) = 11
  · have h := ifp c_9 h
    refine lv_lookup (off := 51) (tgt := 88) hx hb dX5_isToldSo_37 (by decide) (by rw [c_9]; decide) (by decide) ?_
    refine lv_aload_n hx hb dX5_isToldSo_88 rfl (lv_at hl 4 rfl) ?_
    refine va_get (D := D) (ci := 4) (v := .ref a1) (C := RX5) (T := TX5) (N := 21) hx hb hts hinX5 hown hE.1 hP 0 rfl rfl 0 (by decide) (hts _ (List.mem_of_getElem? (i := 2) rfl)) (fun _ h9 => h9) rfl dX5_isToldSo_89 ?_
    refine lv_iconst (v := 4) hx hb dX5_isToldSo_92 (by decide) ?_
    refine lv_iload_n hx hb dX5_isToldSo_93 rfl (lv_at hl 3 rfl) ?_
    refine lv_iadd hx hb dX5_isToldSo_94 ?_
    refine lv_iload_n hx hb dX5_isToldSo_95 rfl (lv_at hl 2 rfl) ?_
    obtain ⟨hi_10, h⟩ := ifs h
    refine va_iast hx hb hE.1 hP (hD _ rfl) hS 1 0 rfl rfl hi_10 dX5_isToldSo_96 (fun H locs hP _ hS => ?_)
    have hP : va_P D vwCl (wX5 cI cS a0 a1 a2 a3 a4 a5 a6 a7 a8 a9 a10 a11 (upd nw (4 + (it (v1 + 1).toNatClampNeg)).toNatClampNeg (it (v1 + 2).toNatClampNeg)) kp ad fd tp kn it wd sz nm mv ik td bg en so va iw im st ht) H := hP
    refine lv_goto (tgt := 146) hx hb dX5_isToldSo_97 (by decide) ?_
    obtain rfl := Option.some.inj h
    exact eMv C0 hP hS rfl dX5_isToldSo_146
  have h := ifn c_9 h
  refine lv_lookup (off := 63) (tgt := 100) hx hb dX5_isToldSo_37 (by decide) (by have ec_5 : ¬ 10 = (it v1.toNatClampNeg).toInt := fun e => c_5 (Int32.toInt_inj.mp (e.symm.trans (by decide))); have ec_9 : ¬ 11 = (it v1.toNatClampNeg).toInt := fun e => c_9 (Int32.toInt_inj.mp (e.symm.trans (by decide))); simp [Op.lookupswitch.offset, ec_5, ec_9]) (by decide) ?_
  refine lv_aload_n hx hb dX5_isToldSo_100 rfl (lv_at hl 4 rfl) ?_
  refine lv_aload_n hx hb dX5_isToldSo_101 rfl (lv_at hl 4 rfl) ?_
  refine va_get (D := D) (ci := 4) (v := .ref a7) (C := RX5) (T := TX5) (N := 21) hx hb hts hinX5 hown hE.1 hP 0 rfl rfl 13 (by decide) (hts _ (List.mem_of_getElem? (i := 1) rfl)) (fun _ h9 => h9) rfl dX5_isToldSo_102 ?_
  refine lv_iload_n hx hb dX5_isToldSo_105 rfl (lv_at hl 5 rfl) ?_
  obtain ⟨hi_11, h⟩ := ifs h
  refine va_iald hx hb hE.1 hP 7 0 rfl rfl hi_11 dX5_isToldSo_106 ?_
  refine lv_iload_n hx hb dX5_isToldSo_107 rfl (lv_at hl 3 rfl) ?_
  refine lv_iload_n hx hb dX5_isToldSo_108 rfl (lv_at hl 2 rfl) ?_
  obtain ⟨z_12, e_13, h⟩ := bds h
  have hPc := hP.sub (ws' := (wX5 cI cS a0 a1 a2 a3 a4 a5 a6 a7 a8 a9 a10 a11 nw kp ad fd tp kn it wd sz nm mv ik td bg en so va iw im st ht)) [0, 1, 2, 3, 4, 5, 6, 7, 8, 9, 10, 11] rfl
  refine kMi (wf' := (wX5 cI cS a0 a1 a2 a3 a4 a5 a6 a7 a8 a9 a10 a11 z_12.2 kp ad fd tp kn it wd sz nm mv ik td bg en so va iw im st ht)) [0, 1, 2, 3, 4, 5, 6, 7, 8, 9, 10, 11] [some 0, some 1, some 2, some 3, some 4, some 5, some 6, some 7, some 8, some 9, some 10, some 11] (rV C0 (tX5_comes l D cI cS a0 a1 a2 a3 a4 a5 a6 a7 a8 a9 a10 a11 nw kp ad fd tp kn it wd sz nm mv ik td bg en so va iw im st ht (it v1.toNatClampNeg) (it (v1 + 1).toNatClampNeg) (it (v1 + 2).toNatClampNeg) z_12.1 z_12.2 e_13 (((hD (wX5 cI cS a0 a1 a2 a3 a4 a5 a6 a7 a8 a9 a10 a11 nw kp ad fd tp kn it wd sz nm mv ik td bg en so va iw im st ht) rfl).sub [0, 1, 2, 3, 4, 5, 6, 7, 8, 9, 10, 11] (by decide) rfl).weaken (fun _ _ _ _ => trivial))) RX5 gX5_isToldSo_X5_comes rfl ⟨rfl, rfl⟩ pdX5_comes rfl ⟨Nat.le_of_ble_eq_true rfl, Nat.le_of_ble_eq_true rfl⟩ (fun _ _ _ _ q => q) (va_recv hE.1 hPc (ci := 4) (q0 := 0) rfl rfl) (fun U hU _ _ => by rw [hU]; exact hPc) hl.1 rfl (Nat.le_of_ble_eq_true rfl) dX5_isToldSo_109 ⟨Nat.zero_le _, Nat.zero_le _⟩) hP (hD _ rfl) hS rfl rfl rfl (fun H locs hP hS => ?_)
  refine lv_istore (lv' := [(5, .int z_12.1), (4, .int (it (v1 + 3).toNatClampNeg)), (3, .int (it (v1 + 2).toNatClampNeg)), (2, .int (it (v1 + 1).toNatClampNeg)), (0, .ref a0), (1, .int v1)]) hx hb dX5_isToldSo_112 hl (by decide) rfl (fun ls hl => ?_)
  refine lv_aload_n hx hb dX5_isToldSo_114 rfl (lv_at hl 4 rfl) ?_
  refine va_get (D := D) (ci := 4) (v := .ref a1) (C := RX5) (T := TX5) (N := 21) hx hb hts hinX5 hown hE.1 hP 0 rfl rfl 0 (by decide) (hts _ (List.mem_of_getElem? (i := 2) rfl)) (fun _ h9 => h9) rfl dX5_isToldSo_115 ?_
  refine lv_iload hx hb dX5_isToldSo_118 (lv_at hl 0 rfl) ?_
  refine lv_iconst (v := 4) hx hb dX5_isToldSo_120 (by decide) ?_
  refine kRi (rS C0 (tX5_sayingAt l D cI cS z_12.1 4 (fX5_sayingAt z_12.1 4) rfl) gX5_isToldSo_X5_sayingAt rfl ⟨rfl, rfl⟩ pdX5_sayingAt rfl ⟨Nat.le_of_ble_eq_true rfl, Nat.le_of_ble_eq_true rfl⟩ (fun _ _ _ _ q => q) (fun _ _ _ _ => vp0) hl.1 rfl (Nat.le_of_ble_eq_true rfl) dX5_isToldSo_121 ⟨Nat.zero_le _, Nat.zero_le _⟩) ?_
  refine lv_iload hx hb dX5_isToldSo_124 (lv_at hl 1 rfl) ?_
  obtain ⟨hi_14, h⟩ := ifs h
  refine va_iast hx hb hE.1 hP (hD _ rfl) hS 1 0 rfl rfl hi_14 dX5_isToldSo_126 (fun H locs hP _ hS => ?_)
  have hP : va_P D vwCl (wX5 cI cS a0 a1 a2 a3 a4 a5 a6 a7 a8 a9 a10 a11 (upd z_12.2 (fX5_sayingAt z_12.1 4).toNatClampNeg (it (v1 + 3).toNatClampNeg)) kp ad fd tp kn it wd sz nm mv ik td bg en so va iw im st ht) H := hP
  refine lv_aload_n hx hb dX5_isToldSo_127 rfl (lv_at hl 4 rfl) ?_
  refine va_get (D := D) (ci := 4) (v := .ref a1) (C := RX5) (T := TX5) (N := 21) hx hb hts hinX5 hown hE.1 hP 0 rfl rfl 0 (by decide) (hts _ (List.mem_of_getElem? (i := 2) rfl)) (fun _ h9 => h9) rfl dX5_isToldSo_128 ?_
  refine lv_iload hx hb dX5_isToldSo_131 (lv_at hl 0 rfl) ?_
  refine lv_iconst (v := 3) hx hb dX5_isToldSo_133 (by decide) ?_
  refine kRi (rS C0 (tX5_sayingAt l D cI cS z_12.1 3 (fX5_sayingAt z_12.1 3) rfl) gX5_isToldSo_X5_sayingAt rfl ⟨rfl, rfl⟩ pdX5_sayingAt rfl ⟨Nat.le_of_ble_eq_true rfl, Nat.le_of_ble_eq_true rfl⟩ (fun _ _ _ _ q => q) (fun _ _ _ _ => vp0) hl.1 rfl (Nat.le_of_ble_eq_true rfl) dX5_isToldSo_134 ⟨Nat.zero_le _, Nat.zero_le _⟩) ?_
  refine lv_aload_n hx hb dX5_isToldSo_137 rfl (lv_at hl 4 rfl) ?_
  refine va_get (D := D) (ci := 4) (v := .ref a7) (C := RX5) (T := TX5) (N := 21) hx hb hts hinX5 hown hE.1 hP 0 rfl rfl 13 (by decide) (hts _ (List.mem_of_getElem? (i := 1) rfl)) (fun _ h9 => h9) rfl dX5_isToldSo_138 ?_
  refine lv_iload_n hx hb dX5_isToldSo_141 rfl (lv_at hl 5 rfl) ?_
  refine lv_iconst (v := 4) hx hb dX5_isToldSo_142 (by decide) ?_
  refine lv_iadd hx hb dX5_isToldSo_143 ?_
  obtain ⟨hi_15, h⟩ := ifs h
  refine va_iald hx hb hE.1 hP 7 0 rfl rfl hi_15 dX5_isToldSo_144 ?_
  obtain ⟨hi_16, h⟩ := ifs h
  refine va_iast hx hb hE.1 hP (hD _ rfl) hS 1 0 rfl rfl hi_16 dX5_isToldSo_145 (fun H locs hP _ hS => ?_)
  have hP : va_P D vwCl (wX5 cI cS a0 a1 a2 a3 a4 a5 a6 a7 a8 a9 a10 a11 (upd (upd z_12.2 (fX5_sayingAt z_12.1 4).toNatClampNeg (it (v1 + 3).toNatClampNeg)) (fX5_sayingAt z_12.1 3).toNatClampNeg (it (v1 + 4).toNatClampNeg)) kp ad fd tp kn it wd sz nm mv ik td bg en so va iw im st ht) H := hP
  obtain rfl := Option.some.inj h
  exact eMv C0 hP hS rfl dX5_isToldSo_146
def fX5_text_43 (F : Nat) (k : (Nat → Int32) → Int32 → Int32 → Int32 → Int32 → Int32 → Int32 → Int32 → Int32 → Option (Int32 × (Nat → Int32) × (Nat → Int32) × Int32 × Int32 × Int32 × Int32 × Int32 × Int32 × Int32 × Int32 × Int32)) (tp : Nat → Int32) (td : Int32) : Nat → (Nat → Int32) → Int32 → Int32 → Int32 → Int32 → Int32 → Int32 → Int32 → Int32 → Option (Int32 × (Nat → Int32) × (Nat → Int32) × Int32 × Int32 × Int32 × Int32 × Int32 × Int32 × Int32 × Int32 × Int32)
  | 0, _, _, _, _, _, _, _, _, _ => none
  | n + 1, it, bg, en, so, va, iw, im, st, ht => (if iw = 0 then (if so = 3 then if ¬ (bg < 0 ∨ 120 ≤ bg.toNatClampNeg) then (if (tp bg.toNatClampNeg) = 59 then Option.bind (fX5_must F tp td bg en so va iw 1) (fun z_9 => Option.bind (fX5_readItem F tp it td z_9.1 z_9.2.1 z_9.2.2.1 z_9.2.2.2.1 z_9.2.2.2.2 im st ht) (fun z_11 => fX5_text_43 F k tp td n z_11.1 z_11.2.1 z_11.2.2.1 z_11.2.2.2.1 z_11.2.2.2.2.1 z_11.2.2.2.2.2.1 z_11.2.2.2.2.2.2.1 z_11.2.2.2.2.2.2.2.1 z_11.2.2.2.2.2.2.2.2)) else k it bg en so va iw im st ht) else none else k it bg en so va iw im st ht) else k it bg en so va iw im st ht)
def fX5_text_121 (it : Nat → Int32) (td : Int32) (bg : Int32) (en : Int32) (so : Int32) (va : Int32) (iw : Int32) (im : Int32) (st : Int32) (ht : Int32) : Nat → Int32 → (Nat → Int32) → Option (Int32 × (Nat → Int32) × (Nat → Int32) × Int32 × Int32 × Int32 × Int32 × Int32 × Int32 × Int32 × Int32 × Int32)
  | 0, _, _ => none
  | n + 1, v1, nw => (if im ≤ v1 then some (im, nw, it, td, bg, en, so, va, iw, im, st, ht) else Option.bind (fX5_isToldSo nw it (5 * v1)) (fun z_27 => fX5_text_121 it td bg en so va iw im st ht n (v1 + 1) z_27))
def fX5_text (F : Nat) (nw : Nat → Int32) (tp : Nat → Int32) (it : Nat → Int32) (td : Int32) (bg : Int32) (en : Int32) (so : Int32) (va : Int32) (iw : Int32) (im : Int32) (st : Int32) (ht : Int32) : Option (Int32 × (Nat → Int32) × (Nat → Int32) × Int32 × Int32 × Int32 × Int32 × Int32 × Int32 × Int32 × Int32 × Int32) := Option.bind (fX5_token F tp td bg 0 so va) (fun z_1 => Option.bind (fX5_readItem F tp it td z_1.1 z_1.2.1 z_1.2.2.1 z_1.2.2.2 0 0 (nw 1) (nw 3)) (fun z_3 => fX5_text_43 F (fun it__13 bg__14 en__15 so__16 va__17 iw__18 im__19 st__20 ht__21 => (if so__16 = 0 then Option.bind (fX5_must F tp td bg__14 en__15 so__16 va__17 iw__18 1) (fun z_29 => (if z_29.2.2.2.2 = 0 then fX5_text_121 it__13 0 z_29.1 z_29.2.1 z_29.2.2.1 z_29.2.2.2.1 z_29.2.2.2.2 im__19 st__20 ht__21 F 0 nw else some ((-1) - z_29.1, nw, it__13, 0, z_29.1, z_29.2.1, z_29.2.2.1, z_29.2.2.2.1, z_29.2.2.2.2, im__19, st__20, ht__21))) else Option.bind (fX5_must F tp td bg__14 en__15 so__16 va__17 iw__18 0) (fun z_23 => (if z_23.2.2.2.2 = 0 then fX5_text_121 it__13 0 z_23.1 z_23.2.1 z_23.2.2.1 z_23.2.2.2.1 z_23.2.2.2.2 im__19 st__20 ht__21 F 0 nw else some ((-1) - z_23.1, nw, it__13, 0, z_23.1, z_23.2.1, z_23.2.2.1, z_23.2.2.2.1, z_23.2.2.2.2, im__19, st__20, ht__21))))) tp td F z_3.1 z_3.2.1 z_3.2.2.1 z_3.2.2.2.1 z_3.2.2.2.2.1 z_3.2.2.2.2.2.1 z_3.2.2.2.2.2.2.1 z_3.2.2.2.2.2.2.2.1 z_3.2.2.2.2.2.2.2.2))
abbrev rmX5_text : Room := { frames := 8, cells := 0, slots := 0, locals := 176 }
theorem pdX5_text : (yX5_text.cls = RX5 ∧ yX5_text.cls ≠ "java/lang/invoke/MethodHandle" ∧ yX5_text.cls ≠ "java/lang/invoke/VarHandle" ∧ (parseMethodDescriptor yX5_text.desc).map (fun d => d.parameters.length) = some 0) := by decide +kernel
set_option maxHeartbeats 4000000 in
set_option maxRecDepth 100000 in
theorem lX5_text_43 {p : Program} {l : Launch} {e : Env} {s : State} {m : MethodId} {av : Array Value} {below : List Frame} {meth : Method} {c : Code} {D : va_G} {cI cS : ClassId} {a0 a1 a2 a3 a4 a5 a6 a7 a8 a9 a10 a11 : Nat} {W0 : va_W} (C0 : CX p s m av meth c RX5 cX5_text 2 (some .int) wsX5_text D cI cS) (F : Nat) (k : (Nat → Int32) → Int32 → Int32 → Int32 → Int32 → Int32 → Int32 → Int32 → Int32 → Option (Int32 × (Nat → Int32) × (Nat → Int32) × Int32 × Int32 × Int32 × Int32 × Int32 × Int32 × Int32 × Int32 × Int32)) (nw : Nat → Int32) (kp : Nat → Int32) (ad : Nat → Int32) (fd : Nat → Int32) (tp : Nat → Int32) (kn : Nat → Option Nat) (wd : Nat → Int32) (sz : Nat → Int32) (nm : Nat → Int32) (mv : Nat → Int32) (ik : Int32) (td : Int32) (z0 : Int32) (z1 : Nat → Int32) (z2 : Nat → Int32) (z3 : Int32) (z4 : Int32) (z5 : Int32) (z6 : Int32) (z7 : Int32) (z8 : Int32) (z9 : Int32) (z10 : Int32) (z11 : Int32) (cs : CSt) (hCS : CST cs (wA W0) s s.heap) (hkn : ∀ k : Nat, k < 7 → kn k = some (cs.1 k)) (hD : ∀ W : va_W, W.map Prod.fst = [a0, a1, a2, a3, a4, a5, a6, a7, a8, a9, a10, a11] → va_D (wA W0) W) (kk : ∀ (it : Nat → Int32) (bg : Int32) (en : Int32) (so : Int32) (va : Int32) (iw : Int32) (im : Int32) (st : Int32) (ht : Int32) (H : Heap) (locs : List Loc), va_P D vwCl (wX5 cI cS a0 a1 a2 a3 a4 a5 a6 a7 a8 a9 a10 a11 nw kp ad fd tp kn it wd sz nm mv ik td bg en so va iw im st ht) H → va_S (wA W0) s.heap H locs → ∀ (ls : Array Slot), lv_has ls 2 [(0, .ref a0)] → k it bg en so va iw im st ht = some (z0, z1, z2, z3, z4, z5, z6, z7, z8, z9, z10, z11) → W p l e rmX5_text s m av below meth c H locs 0 0 (MQ below (qI D W0 (wX5 cI cS a0 a1 a2 a3 a4 a5 a6 a7 a8 a9 a10 a11 z1 kp ad fd tp kn z2 wd sz nm mv ik z3 z4 z5 z6 z7 z8 z9 z10 z11) z0) av s 0 0 (wA W0)) (F0 m 84 ls [])) : ∀ (n : Nat) (it : Nat → Int32) (bg : Int32) (en : Int32) (so : Int32) (va : Int32) (iw : Int32) (im : Int32) (st : Int32) (ht : Int32) (H : Heap) (locs : List Loc), va_P D vwCl (wX5 cI cS a0 a1 a2 a3 a4 a5 a6 a7 a8 a9 a10 a11 nw kp ad fd tp kn it wd sz nm mv ik td bg en so va iw im st ht) H → va_S (wA W0) s.heap H locs → ∀ (ls : Array Slot), lv_has ls 2 [(0, .ref a0)] → fX5_text_43 F k tp td n it bg en so va iw im st ht = some (z0, z1, z2, z3, z4, z5, z6, z7, z8, z9, z10, z11) → W p l e rmX5_text s m av below meth c H locs 0 0 (MQ below (qI D W0 (wX5 cI cS a0 a1 a2 a3 a4 a5 a6 a7 a8 a9 a10 a11 z1 kp ad fd tp kn z2 wd sz nm mv ik z3 z4 z5 z6 z7 z8 z9 z10 z11) z0) av s 0 0 (wA W0)) (F0 m 43 ls []) := by
  obtain ⟨hx, hb, hr, hml, hown, hts, hlk, hE⟩ := id C0
  have hinX5 : ∀ w ∈ u_ws RX5 TX5 21, w ∈ wsX5_text := by decide +kernel
  intro n
  induction n with
  | zero =>
    intro it bg en so va iw im st ht H locs hP hS ls hl h
    cases (show none = some (z0, z1, z2, z3, z4, z5, z6, z7, z8, z9, z10, z11) from h)
  | succ n ih =>
    intro it bg en so va iw im st ht H locs hP hS ls hl h
    rw [fX5_text_43] at h
    refine lv_aload_n hx hb dX5_text_43 rfl (lv_at hl 0 rfl) ?_
    refine va_get (D := D) (ci := 4) (v := .int iw) (C := RX5) (T := TX5) (N := 21) hx hb hts hinX5 hown hE.1 hP 0 rfl rfl 11 (by decide) (hts _ (List.mem_of_getElem? (i := 2) rfl)) (fun _ h9 => h9) rfl dX5_text_44 ?_
    refine lv_if_ne (tgt := 84) hx hb dX5_text_47 (by decide) (fun c_5 => ?_) (fun c_5 => ?_)
    · have h := ifn c_5 h
      exact kk it bg en so va iw im st ht _ _ hP hS _ (lv_sub hl [0] rfl) h
    · have h := ifp c_5 h
      refine lv_aload_n hx hb dX5_text_50 rfl (lv_at hl 0 rfl) ?_
      refine va_get (D := D) (ci := 4) (v := .int so) (C := RX5) (T := TX5) (N := 21) hx hb hts hinX5 hown hE.1 hP 0 rfl rfl 9 (by decide) (hts _ (List.mem_of_getElem? (i := 7) rfl)) (fun _ h9 => h9) rfl dX5_text_51 ?_
      refine lv_iconst (v := 3) hx hb dX5_text_54 (by decide) ?_
      refine lv_icmp_ne (tgt := 84) hx hb dX5_text_55 (by decide) (fun c_6 => ?_) (fun c_6 => ?_)
      · have h := ifn c_6 h
        exact kk it bg en so va iw im st ht _ _ hP hS _ (lv_sub hl [0] rfl) h
      · have h := ifp c_6 h
        refine lv_aload_n hx hb dX5_text_58 rfl (lv_at hl 0 rfl) ?_
        refine va_get (D := D) (ci := 4) (v := .ref a5) (C := RX5) (T := TX5) (N := 21) hx hb hts hinX5 hown hE.1 hP 0 rfl rfl 5 (by decide) (hts _ (List.mem_of_getElem? (i := 8) rfl)) (fun _ h9 => h9) rfl dX5_text_59 ?_
        refine lv_aload_n hx hb dX5_text_62 rfl (lv_at hl 0 rfl) ?_
        refine va_get (D := D) (ci := 4) (v := .int bg) (C := RX5) (T := TX5) (N := 21) hx hb hts hinX5 hown hE.1 hP 0 rfl rfl 7 (by decide) (hts _ (List.mem_of_getElem? (i := 9) rfl)) (fun _ h9 => h9) rfl dX5_text_63 ?_
        obtain ⟨hi_7, h⟩ := ifs h
        refine va_iald hx hb hE.1 hP 5 0 rfl rfl hi_7 dX5_text_66 ?_
        refine lv_bipush (v := 59) hx hb dX5_text_67 (by decide) ?_
        refine lv_icmp_ne (tgt := 84) hx hb dX5_text_69 (by decide) (fun c_8 => ?_) (fun c_8 => ?_)
        · have h := ifn c_8 h
          exact kk it bg en so va iw im st ht _ _ hP hS _ (lv_sub hl [0] rfl) h
        · have h := ifp c_8 h
          refine lv_aload_n hx hb dX5_text_72 rfl (lv_at hl 0 rfl) ?_
          refine lv_iconst (v := 1) hx hb dX5_text_73 (by decide) ?_
          obtain ⟨z_9, e_10, h⟩ := bds h
          have hPc := hP.sub (ws' := (wX5 cI cS a0 a1 a2 a3 a4 a5 a6 a7 a8 a9 a10 a11 nw kp ad fd tp kn it wd sz nm mv ik td bg en so va iw im st ht)) [0, 1, 2, 3, 4, 5, 6, 7, 8, 9, 10, 11] rfl
          refine kMv (wf' := (wX5 cI cS a0 a1 a2 a3 a4 a5 a6 a7 a8 a9 a10 a11 nw kp ad fd tp kn it wd sz nm mv ik td z_9.1 z_9.2.1 z_9.2.2.1 z_9.2.2.2.1 z_9.2.2.2.2 im st ht)) [0, 1, 2, 3, 4, 5, 6, 7, 8, 9, 10, 11] [some 0, some 1, some 2, some 3, some 4, some 5, some 6, some 7, some 8, some 9, some 10, some 11] (rV C0 (tX5_must l D cI cS F a0 a1 a2 a3 a4 a5 a6 a7 a8 a9 a10 a11 nw kp ad fd tp kn it wd sz nm mv ik td bg en so va iw im st ht 1 z_9.1 z_9.2.1 z_9.2.2.1 z_9.2.2.2.1 z_9.2.2.2.2 e_10 (((hD (wX5 cI cS a0 a1 a2 a3 a4 a5 a6 a7 a8 a9 a10 a11 nw kp ad fd tp kn it wd sz nm mv ik td bg en so va iw im st ht) rfl).sub [0, 1, 2, 3, 4, 5, 6, 7, 8, 9, 10, 11] (by decide) rfl).weaken (fun _ _ _ _ => trivial))) RX5 gX5_text_X5_must rfl ⟨rfl, rfl⟩ pdX5_must rfl ⟨Nat.le_of_ble_eq_true rfl, Nat.le_of_ble_eq_true rfl⟩ (fun _ _ _ _ q => q) (va_recv hE.1 hPc (ci := 4) (q0 := 0) rfl rfl) (fun U hU _ _ => by rw [hU]; exact hPc) hl.1 rfl (Nat.le_of_ble_eq_true rfl) dX5_text_74 ⟨Nat.zero_le _, Nat.zero_le _⟩) hP (hD _ rfl) hS rfl rfl rfl (fun H locs hP hS => ?_)
          refine lv_aload_n hx hb dX5_text_77 rfl (lv_at hl 0 rfl) ?_
          obtain ⟨z_11, e_12, h⟩ := bds h
          have hPc := hP.sub (ws' := (wX5 cI cS a0 a1 a2 a3 a4 a5 a6 a7 a8 a9 a10 a11 nw kp ad fd tp kn it wd sz nm mv ik td z_9.1 z_9.2.1 z_9.2.2.1 z_9.2.2.2.1 z_9.2.2.2.2 im st ht)) [0, 1, 2, 3, 4, 5, 6, 7, 8, 9, 10, 11] rfl
          refine kMv (wf' := (wX5 cI cS a0 a1 a2 a3 a4 a5 a6 a7 a8 a9 a10 a11 nw kp ad fd tp kn z_11.1 wd sz nm mv ik td z_11.2.1 z_11.2.2.1 z_11.2.2.2.1 z_11.2.2.2.2.1 z_11.2.2.2.2.2.1 z_11.2.2.2.2.2.2.1 z_11.2.2.2.2.2.2.2.1 z_11.2.2.2.2.2.2.2.2)) [0, 1, 2, 3, 4, 5, 6, 7, 8, 9, 10, 11] [some 0, some 1, some 2, some 3, some 4, some 5, some 6, some 7, some 8, some 9, some 10, some 11] (rV C0 (tX5_readItem l D cI cS cs F a0 a1 a2 a3 a4 a5 a6 a7 a8 a9 a10 a11 nw kp ad fd tp kn it wd sz nm mv ik td z_9.1 z_9.2.1 z_9.2.2.1 z_9.2.2.2.1 z_9.2.2.2.2 im st ht  z_11.1 z_11.2.1 z_11.2.2.1 z_11.2.2.2.1 z_11.2.2.2.2.1 z_11.2.2.2.2.2.1 z_11.2.2.2.2.2.2.1 z_11.2.2.2.2.2.2.2.1 z_11.2.2.2.2.2.2.2.2 e_12 hkn (((hD (wX5 cI cS a0 a1 a2 a3 a4 a5 a6 a7 a8 a9 a10 a11 nw kp ad fd tp kn it wd sz nm mv ik td z_9.1 z_9.2.1 z_9.2.2.1 z_9.2.2.2.1 z_9.2.2.2.2 im st ht) rfl).sub [0, 1, 2, 3, 4, 5, 6, 7, 8, 9, 10, 11] (by decide) rfl).weaken (fun _ _ _ _ => trivial))) RX5 gX5_text_X5_readItem rfl ⟨rfl, rfl⟩ pdX5_readItem rfl ⟨Nat.le_of_ble_eq_true rfl, Nat.le_of_ble_eq_true rfl⟩ (fun _ _ _ _ q => ⟨q.1, q.2.call⟩) (va_recv hE.1 hPc (ci := 4) (q0 := 0) rfl rfl) (fun U hU hW _ => ⟨by rw [hU]; exact hPc, by rw [hU]; exact ((hCS.kept hS.2.1).narrow (fun q h => va_D.inA (hD (wX5 cI cS a0 a1 a2 a3 a4 a5 a6 a7 a8 a9 a10 a11 nw kp ad fd tp kn it wd sz nm mv ik td z_9.1 z_9.2.1 z_9.2.2.1 z_9.2.2.2.1 z_9.2.2.2.2 im st ht) rfl) [0, 1, 2, 3, 4, 5, 6, 7, 8, 9, 10, 11] rfl h)).warm hW⟩) hl.1 rfl (Nat.le_of_ble_eq_true rfl) dX5_text_78 ⟨Nat.zero_le _, Nat.zero_le _⟩) hP (hD _ rfl) hS rfl rfl rfl (fun H locs hP hS => ?_)
          refine lv_goto (tgt := 43) hx hb dX5_text_81 (by decide) ?_
          exact ih z_11.1 z_11.2.1 z_11.2.2.1 z_11.2.2.2.1 z_11.2.2.2.2.1 z_11.2.2.2.2.2.1 z_11.2.2.2.2.2.2.1 z_11.2.2.2.2.2.2.2.1 z_11.2.2.2.2.2.2.2.2 _ _ hP hS _ (lv_sub hl [0] rfl) h
set_option maxHeartbeats 4000000 in
set_option maxRecDepth 100000 in
theorem lX5_text_121 {p : Program} {l : Launch} {e : Env} {s : State} {m : MethodId} {av : Array Value} {below : List Frame} {meth : Method} {c : Code} {D : va_G} {cI cS : ClassId} {a0 a1 a2 a3 a4 a5 a6 a7 a8 a9 a10 a11 : Nat} {W0 : va_W} (C0 : CX p s m av meth c RX5 cX5_text 2 (some .int) wsX5_text D cI cS) (F : Nat) (kp : Nat → Int32) (ad : Nat → Int32) (fd : Nat → Int32) (tp : Nat → Int32) (kn : Nat → Option Nat) (it : Nat → Int32) (wd : Nat → Int32) (sz : Nat → Int32) (nm : Nat → Int32) (mv : Nat → Int32) (ik : Int32) (td : Int32) (bg : Int32) (en : Int32) (so : Int32) (va : Int32) (iw : Int32) (im : Int32) (st : Int32) (ht : Int32) (z0 : Int32) (z1 : Nat → Int32) (z2 : Nat → Int32) (z3 : Int32) (z4 : Int32) (z5 : Int32) (z6 : Int32) (z7 : Int32) (z8 : Int32) (z9 : Int32) (z10 : Int32) (z11 : Int32) (cs : CSt) (hCS : CST cs (wA W0) s s.heap) (hkn : ∀ k : Nat, k < 7 → kn k = some (cs.1 k)) (hD : ∀ W : va_W, W.map Prod.fst = [a0, a1, a2, a3, a4, a5, a6, a7, a8, a9, a10, a11] → va_D (wA W0) W) : ∀ (n : Nat) (v1 : Int32) (nw : Nat → Int32) (H : Heap) (locs : List Loc), va_P D vwCl (wX5 cI cS a0 a1 a2 a3 a4 a5 a6 a7 a8 a9 a10 a11 nw kp ad fd tp kn it wd sz nm mv ik td bg en so va iw im st ht) H → va_S (wA W0) s.heap H locs → ∀ (ls : Array Slot), lv_has ls 2 [(0, .ref a0), (1, .int v1)] → fX5_text_121 it td bg en so va iw im st ht n v1 nw = some (z0, z1, z2, z3, z4, z5, z6, z7, z8, z9, z10, z11) → W p l e rmX5_text s m av below meth c H locs 0 0 (MQ below (qI D W0 (wX5 cI cS a0 a1 a2 a3 a4 a5 a6 a7 a8 a9 a10 a11 z1 kp ad fd tp kn z2 wd sz nm mv ik z3 z4 z5 z6 z7 z8 z9 z10 z11) z0) av s 0 0 (wA W0)) (F0 m 121 ls []) := by
  obtain ⟨hx, hb, hr, hml, hown, hts, hlk, hE⟩ := id C0
  have hinX5 : ∀ w ∈ u_ws RX5 TX5 21, w ∈ wsX5_text := by decide +kernel
  intro n
  induction n with
  | zero =>
    intro v1 nw H locs hP hS ls hl h
    cases (show none = some (z0, z1, z2, z3, z4, z5, z6, z7, z8, z9, z10, z11) from h)
  | succ n ih =>
    intro v1 nw H locs hP hS ls hl h
    rw [fX5_text_121] at h
    refine lv_iload_n hx hb dX5_text_121 rfl (lv_at hl 1 rfl) ?_
    refine lv_aload_n hx hb dX5_text_122 rfl (lv_at hl 0 rfl) ?_
    refine va_get (D := D) (ci := 4) (v := .int im) (C := RX5) (T := TX5) (N := 21) hx hb hts hinX5 hown hE.1 hP 0 rfl rfl 14 (by decide) (hts _ (List.mem_of_getElem? (i := 3) rfl)) (fun _ h9 => h9) rfl dX5_text_123 ?_
    refine lv_icmp_ge (tgt := 142) hx hb dX5_text_126 (by decide) (fun c_26 => ?_) (fun c_26 => ?_)
    · have h := ifp c_26 h
      refine lv_aload_n hx hb dX5_text_142 rfl (lv_at hl 0 rfl) ?_
      refine va_get (D := D) (ci := 4) (v := .int im) (C := RX5) (T := TX5) (N := 21) hx hb hts hinX5 hown hE.1 hP 0 rfl rfl 14 (by decide) (hts _ (List.mem_of_getElem? (i := 3) rfl)) (fun _ h9 => h9) rfl dX5_text_143 ?_
      obtain ⟨q0, g0⟩ := Prod.mk.inj (Option.some.inj h)
      obtain ⟨q1, g1⟩ := Prod.mk.inj g0
      obtain ⟨q2, g2⟩ := Prod.mk.inj g1
      obtain ⟨q3, g3⟩ := Prod.mk.inj g2
      obtain ⟨q4, g4⟩ := Prod.mk.inj g3
      obtain ⟨q5, g5⟩ := Prod.mk.inj g4
      obtain ⟨q6, g6⟩ := Prod.mk.inj g5
      obtain ⟨q7, g7⟩ := Prod.mk.inj g6
      obtain ⟨q8, g8⟩ := Prod.mk.inj g7
      obtain ⟨q9, g9⟩ := Prod.mk.inj g8
      obtain ⟨q10, q11⟩ := Prod.mk.inj g9
      subst q0 q1 q2 q3 q4 q5 q6 q7 q8 q9 q10 q11
      exact eMi C0 hP hS rfl rfl dX5_text_146
    · have h := ifn c_26 h
      refine lv_aload_n hx hb dX5_text_129 rfl (lv_at hl 0 rfl) ?_
      refine lv_iconst (v := 5) hx hb dX5_text_130 (by decide) ?_
      refine lv_iload_n hx hb dX5_text_131 rfl (lv_at hl 1 rfl) ?_
      refine lv_imul hx hb dX5_text_132 ?_
      obtain ⟨z_27, e_28, h⟩ := bds h
      have hPc := hP.sub (ws' := (wX5 cI cS a0 a1 a2 a3 a4 a5 a6 a7 a8 a9 a10 a11 nw kp ad fd tp kn it wd sz nm mv ik td bg en so va iw im st ht)) [0, 1, 2, 3, 4, 5, 6, 7, 8, 9, 10, 11] rfl
      refine kMv (wf' := (wX5 cI cS a0 a1 a2 a3 a4 a5 a6 a7 a8 a9 a10 a11 z_27 kp ad fd tp kn it wd sz nm mv ik td bg en so va iw im st ht)) [0, 1, 2, 3, 4, 5, 6, 7, 8, 9, 10, 11] [some 0, some 1, some 2, some 3, some 4, some 5, some 6, some 7, some 8, some 9, some 10, some 11] (rV C0 (tX5_isToldSo l D cI cS a0 a1 a2 a3 a4 a5 a6 a7 a8 a9 a10 a11 nw kp ad fd tp kn it wd sz nm mv ik td bg en so va iw im st ht (5 * v1) z_27 e_28 (((hD (wX5 cI cS a0 a1 a2 a3 a4 a5 a6 a7 a8 a9 a10 a11 nw kp ad fd tp kn it wd sz nm mv ik td bg en so va iw im st ht) rfl).sub [0, 1, 2, 3, 4, 5, 6, 7, 8, 9, 10, 11] (by decide) rfl).weaken (fun _ _ _ _ => trivial))) RX5 gX5_text_X5_isToldSo rfl ⟨rfl, rfl⟩ pdX5_isToldSo rfl ⟨Nat.le_of_ble_eq_true rfl, Nat.le_of_ble_eq_true rfl⟩ (fun _ _ _ _ q => q) (va_recv hE.1 hPc (ci := 4) (q0 := 0) rfl rfl) (fun U hU _ _ => by rw [hU]; exact hPc) hl.1 rfl (Nat.le_of_ble_eq_true rfl) dX5_text_133 ⟨Nat.zero_le _, Nat.zero_le _⟩) hP (hD _ rfl) hS rfl rfl rfl (fun H locs hP hS => ?_)
      refine lv_iinc (v := v1 + 1) (lv' := [(1, .int (v1 + 1)), (0, .ref a0)]) hx hb dX5_text_136 hl (k := 1) rfl rfl (by decide) rfl (fun ls hl => ?_)
      refine lv_goto (tgt := 121) hx hb dX5_text_139 (by decide) ?_
      exact ih (v1 + 1) z_27 _ _ hP hS _ (lv_sub hl [1, 0] rfl) h
set_option maxHeartbeats 4000000 in
set_option maxRecDepth 100000 in
theorem tX5_text (l : Launch) (D : va_G) (cI cS : ClassId) (cs : CSt) (F : Nat) (a0 a1 a2 a3 a4 a5 a6 a7 a8 a9 a10 a11 : Nat) (nw : Nat → Int32) (kp : Nat → Int32) (ad : Nat → Int32) (fd : Nat → Int32) (tp : Nat → Int32) (kn : Nat → Option Nat) (it : Nat → Int32) (wd : Nat → Int32) (sz : Nat → Int32) (nm : Nat → Int32) (mv : Nat → Int32) (ik : Int32) (td : Int32) (bg : Int32) (en : Int32) (so : Int32) (va : Int32) (iw : Int32) (im : Int32) (st : Int32) (ht : Int32) (z0 : Int32) (z1 : Nat → Int32) (z2 : Nat → Int32) (z3 : Int32) (z4 : Int32) (z5 : Int32) (z6 : Int32) (z7 : Int32) (z8 : Int32) (z9 : Int32) (z10 : Int32) (z11 : Int32) (h : fX5_text F nw tp it td bg en so va iw im st ht = some (z0, z1, z2, z3, z4, z5, z6, z7, z8, z9, z10, z11)) (hkn : ∀ k : Nat, k < 7 → kn k = some (cs.1 k)) (hD0 : va_D (fun _ => True) (wX5 cI cS a0 a1 a2 a3 a4 a5 a6 a7 a8 a9 a10 a11 nw kp ad fd tp kn it wd sz nm mv ik td bg en so va iw im st ht)) : Met l yX5_text wsX5_text rmX5_text (PZ D cI cS [.ref a0] (fun U => va_P D vwCl (wX5 cI cS a0 a1 a2 a3 a4 a5 a6 a7 a8 a9 a10 a11 nw kp ad fd tp kn it wd sz nm mv ik td bg en so va iw im st ht) U.heap ∧ CST cs (wA (wX5 cI cS a0 a1 a2 a3 a4 a5 a6 a7 a8 a9 a10 a11 nw kp ad fd tp kn it wd sz nm mv ik td bg en so va iw im st ht)) U U.heap)) (qI D (wX5 cI cS a0 a1 a2 a3 a4 a5 a6 a7 a8 a9 a10 a11 nw kp ad fd tp kn it wd sz nm mv ik td bg en so va iw im st ht) (wX5 cI cS a0 a1 a2 a3 a4 a5 a6 a7 a8 a9 a10 a11 z1 kp ad fd tp kn z2 wd sz nm mv ik z3 z4 z5 z6 z7 z8 z9 z10 z11) z0) 0 0 (wA (wX5 cI cS a0 a1 a2 a3 a4 a5 a6 a7 a8 a9 a10 a11 nw kp ad fd tp kn it wd sz nm mv ik td bg en so va iw im st ht)) := by
  refine Met.mk RX5 (by decide) rfl rfl (Nat.le_of_ble_eq_true rfl) ?_
  intro p e s m below meth c ls C0 hP hl
  obtain ⟨hP, hCS⟩ := hP
  have hl : lv_has ls 2 [(0, .ref a0)] := hl
  obtain ⟨hx, hb, hr, hml, hown, hts, hlk, hE⟩ := id C0
  have hinX5 : ∀ w ∈ u_ws RX5 TX5 21, w ∈ wsX5_text := by decide +kernel
  have hD : ∀ W : va_W, W.map Prod.fst = [a0, a1, a2, a3, a4, a5, a6, a7, a8, a9, a10, a11] → va_D (wA (wX5 cI cS a0 a1 a2 a3 a4 a5 a6 a7 a8 a9 a10 a11 nw kp ad fd tp kn it wd sz nm mv ik td bg en so va iw im st ht)) W := fun W hW => hD0.own.re hW
  have hS : va_S (wA (wX5 cI cS a0 a1 a2 a3 a4 a5 a6 a7 a8 a9 a10 a11 nw kp ad fd tp kn it wd sz nm mv ik td bg en so va iw im st ht)) s.heap s.heap [] := va_S.rf
  have hP : va_P D vwCl (wX5 cI cS a0 a1 a2 a3 a4 a5 a6 a7 a8 a9 a10 a11 nw kp ad fd tp kn it wd sz nm mv ik td bg en so va iw im st ht) s.heap := hP
  rw [fX5_text] at h
  refine lv_aload_n hx hb dX5_text_0 rfl (lv_at hl 0 rfl) ?_
  refine lv_iconst (v := 0) hx hb dX5_text_1 (by decide) ?_
  refine va_put (D := D) (ci := 4) (v := .int 0) (ty := .int) (C := RX5) (T := TX5) (N := 21) hx hb hts hinX5 tyX5 tyX5_ok nmX5 hown hE.1 hP (hD _ rfl) hS 0 rfl rfl 8 (by decide) (hts _ (List.mem_of_getElem? (i := 1) rfl)) (fun _ h9 => h9) rfl (by decide +kernel) rfl rfl (Nat.le_of_ble_eq_true rfl) dX5_text_2 (fun H locs hP _ hS => ?_)
  have hP : va_P D vwCl (wX5 cI cS a0 a1 a2 a3 a4 a5 a6 a7 a8 a9 a10 a11 nw kp ad fd tp kn it wd sz nm mv ik td bg 0 so va iw im st ht) H := hP
  refine lv_aload_n hx hb dX5_text_5 rfl (lv_at hl 0 rfl) ?_
  refine lv_iconst (v := 0) hx hb dX5_text_6 (by decide) ?_
  refine va_put (D := D) (ci := 4) (v := .int 0) (ty := .boolean) (C := RX5) (T := TX5) (N := 21) hx hb hts hinX5 tyX5 tyX5_ok nmX5 hown hE.1 hP (hD _ rfl) hS 0 rfl rfl 11 (by decide) (hts _ (List.mem_of_getElem? (i := 2) rfl)) (fun _ h9 => h9) rfl (by decide +kernel) rfl rfl (Nat.le_of_ble_eq_true rfl) dX5_text_7 (fun H locs hP _ hS => ?_)
  have hP : va_P D vwCl (wX5 cI cS a0 a1 a2 a3 a4 a5 a6 a7 a8 a9 a10 a11 nw kp ad fd tp kn it wd sz nm mv ik td bg 0 so va 0 im st ht) H := hP
  refine lv_aload_n hx hb dX5_text_10 rfl (lv_at hl 0 rfl) ?_
  refine lv_iconst (v := 0) hx hb dX5_text_11 (by decide) ?_
  refine va_put (D := D) (ci := 4) (v := .int 0) (ty := .int) (C := RX5) (T := TX5) (N := 21) hx hb hts hinX5 tyX5 tyX5_ok nmX5 hown hE.1 hP (hD _ rfl) hS 0 rfl rfl 14 (by decide) (hts _ (List.mem_of_getElem? (i := 3) rfl)) (fun _ h9 => h9) rfl (by decide +kernel) rfl rfl (Nat.le_of_ble_eq_true rfl) dX5_text_12 (fun H locs hP _ hS => ?_)
  have hP : va_P D vwCl (wX5 cI cS a0 a1 a2 a3 a4 a5 a6 a7 a8 a9 a10 a11 nw kp ad fd tp kn it wd sz nm mv ik td bg 0 so va 0 0 st ht) H := hP
  refine lv_aload_n hx hb dX5_text_15 rfl (lv_at hl 0 rfl) ?_
  refine lv_aload_n hx hb dX5_text_16 rfl (lv_at hl 0 rfl) ?_
  refine va_get (D := D) (ci := 4) (v := .ref a1) (C := RX5) (T := TX5) (N := 21) hx hb hts hinX5 hown hE.1 hP 0 rfl rfl 0 (by decide) (hts _ (List.mem_of_getElem? (i := 4) rfl)) (fun _ h9 => h9) rfl dX5_text_17 ?_
  refine lv_iconst (v := 1) hx hb dX5_text_20 (by decide) ?_
  refine va_iald hx hb hE.1 hP 1 0 rfl rfl (by unfold vp_in; decide : vp_in 1 84) dX5_text_21 ?_
  refine lv_eqi (y := nw 1) rfl ?_
  refine va_put (D := D) (ci := 4) (v := .int (nw 1)) (ty := .int) (C := RX5) (T := TX5) (N := 21) hx hb hts hinX5 tyX5 tyX5_ok nmX5 hown hE.1 hP (hD _ rfl) hS 0 rfl rfl 15 (by decide) (hts _ (List.mem_of_getElem? (i := 5) rfl)) (fun _ h9 => h9) rfl (by decide +kernel) rfl rfl (Nat.le_of_ble_eq_true rfl) dX5_text_22 (fun H locs hP _ hS => ?_)
  have hP : va_P D vwCl (wX5 cI cS a0 a1 a2 a3 a4 a5 a6 a7 a8 a9 a10 a11 nw kp ad fd tp kn it wd sz nm mv ik td bg 0 so va 0 0 (nw 1) ht) H := hP
  refine lv_aload_n hx hb dX5_text_25 rfl (lv_at hl 0 rfl) ?_
  refine lv_aload_n hx hb dX5_text_26 rfl (lv_at hl 0 rfl) ?_
  refine va_get (D := D) (ci := 4) (v := .ref a1) (C := RX5) (T := TX5) (N := 21) hx hb hts hinX5 hown hE.1 hP 0 rfl rfl 0 (by decide) (hts _ (List.mem_of_getElem? (i := 4) rfl)) (fun _ h9 => h9) rfl dX5_text_27 ?_
  refine lv_iconst (v := 3) hx hb dX5_text_30 (by decide) ?_
  refine va_iald hx hb hE.1 hP 1 0 rfl rfl (by unfold vp_in; decide : vp_in 3 84) dX5_text_31 ?_
  refine lv_eqi (y := nw 3) rfl ?_
  refine va_put (D := D) (ci := 4) (v := .int (nw 3)) (ty := .int) (C := RX5) (T := TX5) (N := 21) hx hb hts hinX5 tyX5 tyX5_ok nmX5 hown hE.1 hP (hD _ rfl) hS 0 rfl rfl 16 (by decide) (hts _ (List.mem_of_getElem? (i := 6) rfl)) (fun _ h9 => h9) rfl (by decide +kernel) rfl rfl (Nat.le_of_ble_eq_true rfl) dX5_text_32 (fun H locs hP _ hS => ?_)
  have hP : va_P D vwCl (wX5 cI cS a0 a1 a2 a3 a4 a5 a6 a7 a8 a9 a10 a11 nw kp ad fd tp kn it wd sz nm mv ik td bg 0 so va 0 0 (nw 1) (nw 3)) H := hP
  refine lv_aload_n hx hb dX5_text_35 rfl (lv_at hl 0 rfl) ?_
  obtain ⟨z_1, e_2, h⟩ := bds h
  have hPc := hP.sub (ws' := (wX5 cI cS a0 a1 a2 a3 a4 a5 a6 a7 a8 a9 a10 a11 nw kp ad fd tp kn it wd sz nm mv ik td bg 0 so va 0 0 (nw 1) (nw 3))) [0, 1, 2, 3, 4, 5, 6, 7, 8, 9, 10, 11] rfl
  refine kMv (wf' := (wX5 cI cS a0 a1 a2 a3 a4 a5 a6 a7 a8 a9 a10 a11 nw kp ad fd tp kn it wd sz nm mv ik td z_1.1 z_1.2.1 z_1.2.2.1 z_1.2.2.2 0 0 (nw 1) (nw 3))) [0, 1, 2, 3, 4, 5, 6, 7, 8, 9, 10, 11] [some 0, some 1, some 2, some 3, some 4, some 5, some 6, some 7, some 8, some 9, some 10, some 11] (rV C0 (tX5_token l D cI cS F a0 a1 a2 a3 a4 a5 a6 a7 a8 a9 a10 a11 nw kp ad fd tp kn it wd sz nm mv ik td bg 0 so va 0 0 (nw 1) (nw 3)  z_1.1 z_1.2.1 z_1.2.2.1 z_1.2.2.2 e_2 (((hD (wX5 cI cS a0 a1 a2 a3 a4 a5 a6 a7 a8 a9 a10 a11 nw kp ad fd tp kn it wd sz nm mv ik td bg 0 so va 0 0 (nw 1) (nw 3)) rfl).sub [0, 1, 2, 3, 4, 5, 6, 7, 8, 9, 10, 11] (by decide) rfl).weaken (fun _ _ _ _ => trivial))) RX5 gX5_text_X5_token rfl ⟨rfl, rfl⟩ pdX5_token rfl ⟨Nat.le_of_ble_eq_true rfl, Nat.le_of_ble_eq_true rfl⟩ (fun _ _ _ _ q => q) (va_recv hE.1 hPc (ci := 4) (q0 := 0) rfl rfl) (fun U hU _ _ => by rw [hU]; exact hPc) hl.1 rfl (Nat.le_of_ble_eq_true rfl) dX5_text_36 ⟨Nat.zero_le _, Nat.zero_le _⟩) hP (hD _ rfl) hS rfl rfl rfl (fun H locs hP hS => ?_)
  refine lv_aload_n hx hb dX5_text_39 rfl (lv_at hl 0 rfl) ?_
  obtain ⟨z_3, e_4, h⟩ := bds h
  have hPc := hP.sub (ws' := (wX5 cI cS a0 a1 a2 a3 a4 a5 a6 a7 a8 a9 a10 a11 nw kp ad fd tp kn it wd sz nm mv ik td z_1.1 z_1.2.1 z_1.2.2.1 z_1.2.2.2 0 0 (nw 1) (nw 3))) [0, 1, 2, 3, 4, 5, 6, 7, 8, 9, 10, 11] rfl
  refine kMv (wf' := (wX5 cI cS a0 a1 a2 a3 a4 a5 a6 a7 a8 a9 a10 a11 nw kp ad fd tp kn z_3.1 wd sz nm mv ik td z_3.2.1 z_3.2.2.1 z_3.2.2.2.1 z_3.2.2.2.2.1 z_3.2.2.2.2.2.1 z_3.2.2.2.2.2.2.1 z_3.2.2.2.2.2.2.2.1 z_3.2.2.2.2.2.2.2.2)) [0, 1, 2, 3, 4, 5, 6, 7, 8, 9, 10, 11] [some 0, some 1, some 2, some 3, some 4, some 5, some 6, some 7, some 8, some 9, some 10, some 11] (rV C0 (tX5_readItem l D cI cS cs F a0 a1 a2 a3 a4 a5 a6 a7 a8 a9 a10 a11 nw kp ad fd tp kn it wd sz nm mv ik td z_1.1 z_1.2.1 z_1.2.2.1 z_1.2.2.2 0 0 (nw 1) (nw 3)  z_3.1 z_3.2.1 z_3.2.2.1 z_3.2.2.2.1 z_3.2.2.2.2.1 z_3.2.2.2.2.2.1 z_3.2.2.2.2.2.2.1 z_3.2.2.2.2.2.2.2.1 z_3.2.2.2.2.2.2.2.2 e_4 hkn (((hD (wX5 cI cS a0 a1 a2 a3 a4 a5 a6 a7 a8 a9 a10 a11 nw kp ad fd tp kn it wd sz nm mv ik td z_1.1 z_1.2.1 z_1.2.2.1 z_1.2.2.2 0 0 (nw 1) (nw 3)) rfl).sub [0, 1, 2, 3, 4, 5, 6, 7, 8, 9, 10, 11] (by decide) rfl).weaken (fun _ _ _ _ => trivial))) RX5 gX5_text_X5_readItem rfl ⟨rfl, rfl⟩ pdX5_readItem rfl ⟨Nat.le_of_ble_eq_true rfl, Nat.le_of_ble_eq_true rfl⟩ (fun _ _ _ _ q => ⟨q.1, q.2.call⟩) (va_recv hE.1 hPc (ci := 4) (q0 := 0) rfl rfl) (fun U hU hW _ => ⟨by rw [hU]; exact hPc, by rw [hU]; exact ((hCS.kept hS.2.1).narrow (fun q h => va_D.inA (hD (wX5 cI cS a0 a1 a2 a3 a4 a5 a6 a7 a8 a9 a10 a11 nw kp ad fd tp kn it wd sz nm mv ik td z_1.1 z_1.2.1 z_1.2.2.1 z_1.2.2.2 0 0 (nw 1) (nw 3)) rfl) [0, 1, 2, 3, 4, 5, 6, 7, 8, 9, 10, 11] rfl h)).warm hW⟩) hl.1 rfl (Nat.le_of_ble_eq_true rfl) dX5_text_40 ⟨Nat.zero_le _, Nat.zero_le _⟩) hP (hD _ rfl) hS rfl rfl rfl (fun H locs hP hS => ?_)
  refine lX5_text_43 (l := l) (e := e) (below := below) C0 F _ nw kp ad fd tp kn wd sz nm mv ik td z0 z1 z2 z3 z4 z5 z6 z7 z8 z9 z10 z11 cs hCS hkn hD (fun it__13 bg__14 en__15 so__16 va__17 iw__18 im__19 st__20 ht__21 H locs hP hS ls hl h => ?_) F z_3.1 z_3.2.1 z_3.2.2.1 z_3.2.2.2.1 z_3.2.2.2.2.1 z_3.2.2.2.2.2.1 z_3.2.2.2.2.2.2.1 z_3.2.2.2.2.2.2.2.1 z_3.2.2.2.2.2.2.2.2 _ _ hP hS _ (lv_sub hl [0] rfl) h
  refine lv_aload_n hx hb dX5_text_84 rfl (lv_at hl 0 rfl) ?_
  refine lv_aload_n hx hb dX5_text_85 rfl (lv_at hl 0 rfl) ?_
  refine va_get (D := D) (ci := 4) (v := .int so__16) (C := RX5) (T := TX5) (N := 21) hx hb hts hinX5 hown hE.1 hP 0 rfl rfl 9 (by decide) (hts _ (List.mem_of_getElem? (i := 7) rfl)) (fun _ h9 => h9) rfl dX5_text_86 ?_
  refine lv_if_ne (tgt := 96) hx hb dX5_text_89 (by decide) (fun c_22 => ?_) (fun c_22 => ?_)
  · have h := ifn c_22 h
    refine lv_iconst (v := 0) hx hb dX5_text_96 (by decide) ?_
    obtain ⟨z_23, e_24, h⟩ := bds h
    have hPc := hP.sub (ws' := (wX5 cI cS a0 a1 a2 a3 a4 a5 a6 a7 a8 a9 a10 a11 nw kp ad fd tp kn it__13 wd sz nm mv ik td bg__14 en__15 so__16 va__17 iw__18 im__19 st__20 ht__21)) [0, 1, 2, 3, 4, 5, 6, 7, 8, 9, 10, 11] rfl
    refine kMv (wf' := (wX5 cI cS a0 a1 a2 a3 a4 a5 a6 a7 a8 a9 a10 a11 nw kp ad fd tp kn it__13 wd sz nm mv ik td z_23.1 z_23.2.1 z_23.2.2.1 z_23.2.2.2.1 z_23.2.2.2.2 im__19 st__20 ht__21)) [0, 1, 2, 3, 4, 5, 6, 7, 8, 9, 10, 11] [some 0, some 1, some 2, some 3, some 4, some 5, some 6, some 7, some 8, some 9, some 10, some 11] (rV C0 (tX5_must l D cI cS F a0 a1 a2 a3 a4 a5 a6 a7 a8 a9 a10 a11 nw kp ad fd tp kn it__13 wd sz nm mv ik td bg__14 en__15 so__16 va__17 iw__18 im__19 st__20 ht__21 0 z_23.1 z_23.2.1 z_23.2.2.1 z_23.2.2.2.1 z_23.2.2.2.2 e_24 (((hD (wX5 cI cS a0 a1 a2 a3 a4 a5 a6 a7 a8 a9 a10 a11 nw kp ad fd tp kn it__13 wd sz nm mv ik td bg__14 en__15 so__16 va__17 iw__18 im__19 st__20 ht__21) rfl).sub [0, 1, 2, 3, 4, 5, 6, 7, 8, 9, 10, 11] (by decide) rfl).weaken (fun _ _ _ _ => trivial))) RX5 gX5_text_X5_must rfl ⟨rfl, rfl⟩ pdX5_must rfl ⟨Nat.le_of_ble_eq_true rfl, Nat.le_of_ble_eq_true rfl⟩ (fun _ _ _ _ q => q) (va_recv hE.1 hPc (ci := 4) (q0 := 0) rfl rfl) (fun U hU _ _ => by rw [hU]; exact hPc) hl.1 rfl (Nat.le_of_ble_eq_true rfl) dX5_text_97 ⟨Nat.zero_le _, Nat.zero_le _⟩) hP (hD _ rfl) hS rfl rfl rfl (fun H locs hP hS => ?_)
    refine lv_aload_n hx hb dX5_text_100 rfl (lv_at hl 0 rfl) ?_
    refine lv_iconst (v := 0) hx hb dX5_text_101 (by decide) ?_
    refine va_put (D := D) (ci := 4) (v := .int 0) (ty := .int) (C := RX5) (T := TX5) (N := 21) hx hb hts hinX5 tyX5 tyX5_ok nmX5 hown hE.1 hP (hD _ rfl) hS 0 rfl rfl 6 (by decide) (hts _ (List.mem_of_getElem? (i := 10) rfl)) (fun _ h9 => h9) rfl (by decide +kernel) rfl rfl (Nat.le_of_ble_eq_true rfl) dX5_text_102 (fun H locs hP _ hS => ?_)
    have hP : va_P D vwCl (wX5 cI cS a0 a1 a2 a3 a4 a5 a6 a7 a8 a9 a10 a11 nw kp ad fd tp kn it__13 wd sz nm mv ik 0 z_23.1 z_23.2.1 z_23.2.2.1 z_23.2.2.2.1 z_23.2.2.2.2 im__19 st__20 ht__21) H := hP
    refine lv_aload_n hx hb dX5_text_105 rfl (lv_at hl 0 rfl) ?_
    refine va_get (D := D) (ci := 4) (v := .int z_23.2.2.2.2) (C := RX5) (T := TX5) (N := 21) hx hb hts hinX5 hown hE.1 hP 0 rfl rfl 11 (by decide) (hts _ (List.mem_of_getElem? (i := 2) rfl)) (fun _ h9 => h9) rfl dX5_text_106 ?_
    refine lv_if_eq (tgt := 119) hx hb dX5_text_109 (by decide) (fun c_25 => ?_) (fun c_25 => ?_)
    · have h := ifp c_25 h
      refine lv_iconst (v := 0) hx hb dX5_text_119 (by decide) ?_
      refine lv_istore_n (lv' := [(1, .int 0), (0, .ref a0)]) hx hb dX5_text_120 rfl hl (by decide) rfl (fun ls hl => ?_)
      exact lX5_text_121 (l := l) (e := e) (below := below) C0 F kp ad fd tp kn it__13 wd sz nm mv ik 0 z_23.1 z_23.2.1 z_23.2.2.1 z_23.2.2.2.1 z_23.2.2.2.2 im__19 st__20 ht__21 z0 z1 z2 z3 z4 z5 z6 z7 z8 z9 z10 z11 cs hCS hkn hD F 0 nw _ _ hP hS _ (lv_sub hl [1, 0] rfl) h
    · have h := ifn c_25 h
      refine lv_iconst (v := (-1)) hx hb dX5_text_112 (by decide) ?_
      refine lv_aload_n hx hb dX5_text_113 rfl (lv_at hl 0 rfl) ?_
      refine va_get (D := D) (ci := 4) (v := .int z_23.1) (C := RX5) (T := TX5) (N := 21) hx hb hts hinX5 hown hE.1 hP 0 rfl rfl 7 (by decide) (hts _ (List.mem_of_getElem? (i := 9) rfl)) (fun _ h9 => h9) rfl dX5_text_114 ?_
      refine lv_isub hx hb dX5_text_117 ?_
      obtain ⟨q0, g0⟩ := Prod.mk.inj (Option.some.inj h)
      obtain ⟨q1, g1⟩ := Prod.mk.inj g0
      obtain ⟨q2, g2⟩ := Prod.mk.inj g1
      obtain ⟨q3, g3⟩ := Prod.mk.inj g2
      obtain ⟨q4, g4⟩ := Prod.mk.inj g3
      obtain ⟨q5, g5⟩ := Prod.mk.inj g4
      obtain ⟨q6, g6⟩ := Prod.mk.inj g5
      obtain ⟨q7, g7⟩ := Prod.mk.inj g6
      obtain ⟨q8, g8⟩ := Prod.mk.inj g7
      obtain ⟨q9, g9⟩ := Prod.mk.inj g8
      obtain ⟨q10, q11⟩ := Prod.mk.inj g9
      subst q0 q1 q2 q3 q4 q5 q6 q7 q8 q9 q10 q11
      exact eMi C0 hP hS rfl rfl dX5_text_118
  · have h := ifp c_22 h
    refine lv_iconst (v := 1) hx hb dX5_text_92 (by decide) ?_
    refine lv_goto (tgt := 97) hx hb dX5_text_93 (by decide) ?_
    obtain ⟨z_29, e_30, h⟩ := bds h
    have hPc := hP.sub (ws' := (wX5 cI cS a0 a1 a2 a3 a4 a5 a6 a7 a8 a9 a10 a11 nw kp ad fd tp kn it__13 wd sz nm mv ik td bg__14 en__15 so__16 va__17 iw__18 im__19 st__20 ht__21)) [0, 1, 2, 3, 4, 5, 6, 7, 8, 9, 10, 11] rfl
    refine kMv (wf' := (wX5 cI cS a0 a1 a2 a3 a4 a5 a6 a7 a8 a9 a10 a11 nw kp ad fd tp kn it__13 wd sz nm mv ik td z_29.1 z_29.2.1 z_29.2.2.1 z_29.2.2.2.1 z_29.2.2.2.2 im__19 st__20 ht__21)) [0, 1, 2, 3, 4, 5, 6, 7, 8, 9, 10, 11] [some 0, some 1, some 2, some 3, some 4, some 5, some 6, some 7, some 8, some 9, some 10, some 11] (rV C0 (tX5_must l D cI cS F a0 a1 a2 a3 a4 a5 a6 a7 a8 a9 a10 a11 nw kp ad fd tp kn it__13 wd sz nm mv ik td bg__14 en__15 so__16 va__17 iw__18 im__19 st__20 ht__21 1 z_29.1 z_29.2.1 z_29.2.2.1 z_29.2.2.2.1 z_29.2.2.2.2 e_30 (((hD (wX5 cI cS a0 a1 a2 a3 a4 a5 a6 a7 a8 a9 a10 a11 nw kp ad fd tp kn it__13 wd sz nm mv ik td bg__14 en__15 so__16 va__17 iw__18 im__19 st__20 ht__21) rfl).sub [0, 1, 2, 3, 4, 5, 6, 7, 8, 9, 10, 11] (by decide) rfl).weaken (fun _ _ _ _ => trivial))) RX5 gX5_text_X5_must rfl ⟨rfl, rfl⟩ pdX5_must rfl ⟨Nat.le_of_ble_eq_true rfl, Nat.le_of_ble_eq_true rfl⟩ (fun _ _ _ _ q => q) (va_recv hE.1 hPc (ci := 4) (q0 := 0) rfl rfl) (fun U hU _ _ => by rw [hU]; exact hPc) hl.1 rfl (Nat.le_of_ble_eq_true rfl) dX5_text_97 ⟨Nat.zero_le _, Nat.zero_le _⟩) hP (hD _ rfl) hS rfl rfl rfl (fun H locs hP hS => ?_)
    refine lv_aload_n hx hb dX5_text_100 rfl (lv_at hl 0 rfl) ?_
    refine lv_iconst (v := 0) hx hb dX5_text_101 (by decide) ?_
    refine va_put (D := D) (ci := 4) (v := .int 0) (ty := .int) (C := RX5) (T := TX5) (N := 21) hx hb hts hinX5 tyX5 tyX5_ok nmX5 hown hE.1 hP (hD _ rfl) hS 0 rfl rfl 6 (by decide) (hts _ (List.mem_of_getElem? (i := 10) rfl)) (fun _ h9 => h9) rfl (by decide +kernel) rfl rfl (Nat.le_of_ble_eq_true rfl) dX5_text_102 (fun H locs hP _ hS => ?_)
    have hP : va_P D vwCl (wX5 cI cS a0 a1 a2 a3 a4 a5 a6 a7 a8 a9 a10 a11 nw kp ad fd tp kn it__13 wd sz nm mv ik 0 z_29.1 z_29.2.1 z_29.2.2.1 z_29.2.2.2.1 z_29.2.2.2.2 im__19 st__20 ht__21) H := hP
    refine lv_aload_n hx hb dX5_text_105 rfl (lv_at hl 0 rfl) ?_
    refine va_get (D := D) (ci := 4) (v := .int z_29.2.2.2.2) (C := RX5) (T := TX5) (N := 21) hx hb hts hinX5 hown hE.1 hP 0 rfl rfl 11 (by decide) (hts _ (List.mem_of_getElem? (i := 2) rfl)) (fun _ h9 => h9) rfl dX5_text_106 ?_
    refine lv_if_eq (tgt := 119) hx hb dX5_text_109 (by decide) (fun c_31 => ?_) (fun c_31 => ?_)
    · have h := ifp c_31 h
      refine lv_iconst (v := 0) hx hb dX5_text_119 (by decide) ?_
      refine lv_istore_n (lv' := [(1, .int 0), (0, .ref a0)]) hx hb dX5_text_120 rfl hl (by decide) rfl (fun ls hl => ?_)
      exact lX5_text_121 (l := l) (e := e) (below := below) C0 F kp ad fd tp kn it__13 wd sz nm mv ik 0 z_29.1 z_29.2.1 z_29.2.2.1 z_29.2.2.2.1 z_29.2.2.2.2 im__19 st__20 ht__21 z0 z1 z2 z3 z4 z5 z6 z7 z8 z9 z10 z11 cs hCS hkn hD F 0 nw _ _ hP hS _ (lv_sub hl [1, 0] rfl) h
    · have h := ifn c_31 h
      refine lv_iconst (v := (-1)) hx hb dX5_text_112 (by decide) ?_
      refine lv_aload_n hx hb dX5_text_113 rfl (lv_at hl 0 rfl) ?_
      refine va_get (D := D) (ci := 4) (v := .int z_29.1) (C := RX5) (T := TX5) (N := 21) hx hb hts hinX5 hown hE.1 hP 0 rfl rfl 7 (by decide) (hts _ (List.mem_of_getElem? (i := 9) rfl)) (fun _ h9 => h9) rfl dX5_text_114 ?_
      refine lv_isub hx hb dX5_text_117 ?_
      obtain ⟨q0, g0⟩ := Prod.mk.inj (Option.some.inj h)
      obtain ⟨q1, g1⟩ := Prod.mk.inj g0
      obtain ⟨q2, g2⟩ := Prod.mk.inj g1
      obtain ⟨q3, g3⟩ := Prod.mk.inj g2
      obtain ⟨q4, g4⟩ := Prod.mk.inj g3
      obtain ⟨q5, g5⟩ := Prod.mk.inj g4
      obtain ⟨q6, g6⟩ := Prod.mk.inj g5
      obtain ⟨q7, g7⟩ := Prod.mk.inj g6
      obtain ⟨q8, g8⟩ := Prod.mk.inj g7
      obtain ⟨q9, g9⟩ := Prod.mk.inj g8
      obtain ⟨q10, q11⟩ := Prod.mk.inj g9
      subst q0 q1 q2 q3 q4 q5 q6 q7 q8 q9 q10 q11
      exact eMi C0 hP hS rfl rfl dX5_text_118
def fX5_isSpot (v0 : Int32) : Int32 := (fX5_within v0 0 9)
abbrev rmX5_isSpot : Room := { frames := 1, cells := 0, slots := 0, locals := 22 }
theorem pdX5_isSpot : (yX5_isSpot.cls ≠ "java/lang/invoke/MethodHandle" ∧ yX5_isSpot.cls ≠ "java/lang/invoke/VarHandle" ∧ (parseMethodDescriptor yX5_isSpot.desc).map (fun d => d.parameters.length) = some 1) := by decide +kernel
set_option maxHeartbeats 4000000 in
set_option maxRecDepth 100000 in
theorem tX5_isSpot (l : Launch) (D : va_G) (cI cS : ClassId) (v0 : Int32) (z0 : Int32) (h : fX5_isSpot v0 = z0) : Met l yX5_isSpot wsX5_isSpot rmX5_isSpot (PZ D cI cS [.int v0] (fun U => va_P D vwCl ([] : va_W) U.heap)) (vp_Si (fun x => x = z0)) 0 0 (fun _ => False) := by
  refine Met.mk RX5 (by decide) rfl rfl (Nat.le_of_ble_eq_true rfl) ?_
  intro p e s m below meth c ls C0 hP hl
  have hl : lv_has ls 1 [(0, .int v0)] := hl
  obtain ⟨hx, hb, hr, hml, hown, hts, hlk, hE⟩ := id C0
  rw [fX5_isSpot] at h
  refine lv_iload_n hx hb dX5_isSpot_0 rfl (lv_at hl 0 rfl) ?_
  refine lv_iconst (v := 0) hx hb dX5_isSpot_1 (by decide) ?_
  refine lv_bipush (v := 9) hx hb dX5_isSpot_2 (by decide) ?_
  refine kRi (rS C0 (tX5_within l D cI cS v0 0 9 (fX5_within v0 0 9) rfl) gX5_isSpot_X5_within rfl ⟨rfl, rfl⟩ pdX5_within rfl ⟨Nat.le_of_ble_eq_true rfl, Nat.le_of_ble_eq_true rfl⟩ (fun _ _ _ _ q => q) (fun _ _ _ _ => vp0) hl.1 rfl (Nat.le_of_ble_eq_true rfl) dX5_isSpot_4 ⟨Nat.zero_le _, Nat.zero_le _⟩) ?_
  exact eRz C0 (zzX5_within ..) h dX5_isSpot_7
theorem zzX5_isSpot (v0 : Int32) : narrow .boolean (.int (fX5_isSpot v0)) = .int (fX5_isSpot v0) := zzX5_within ..
