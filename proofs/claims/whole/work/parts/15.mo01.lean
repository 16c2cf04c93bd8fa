def fX5_finding (fd : Nat → Int32) (v1 : Int32) : Option (Int32 × (Nat → Int32)) := if ¬ ((((-1000001) - v1) + 1) < 0 ∨ 8 ≤ (((-1000001) - v1) + 1).toNatClampNeg) then if ¬ ((((-1000001) - v1) + 1) < 0 ∨ 8 ≤ (((-1000001) - v1) + 1).toNatClampNeg) then some (v1, upd (upd fd (((-1000001) - v1) + 1).toNatClampNeg ((fd (((-1000001) - v1) + 1).toNatClampNeg) + 1)) 0 (((upd fd (((-1000001) - v1) + 1).toNatClampNeg ((fd (((-1000001) - v1) + 1).toNatClampNeg) + 1)) 0) + 1)) else none else none
abbrev rmX5_finding : Room := { frames := 0, cells := 0, slots := 0, locals := 0 }
theorem pdX5_finding : (yX5_finding.cls = RX5 ∧ yX5_finding.cls ≠ "java/lang/invoke/MethodHandle" ∧ yX5_finding.cls ≠ "java/lang/invoke/VarHandle" ∧ (parseMethodDescriptor yX5_finding.desc).map (fun d => d.parameters.length) = some 1) := by decide +kernel
set_option maxHeartbeats 4000000 in
set_option maxRecDepth 100000 in
theorem tX5_finding (l : Launch) (D : va_G) (cI cS : ClassId) (a0 a1 a2 a3 a4 a5 a6 a7 a8 a9 a10 a11 : Nat) (nw : Nat → Int32) (kp : Nat → Int32) (ad : Nat → Int32) (fd : Nat → Int32) (tp : Nat → Int32) (kn : Nat → Option Nat) (it : Nat → Int32) (wd : Nat → Int32) (sz : Nat → Int32) (nm : Nat → Int32) (mv : Nat → Int32) (ik : Int32) (td : Int32) (bg : Int32) (en : Int32) (so : Int32) (va : Int32) (iw : Int32) (im : Int32) (st : Int32) (ht : Int32) (v1 : Int32) (z0 : Int32) (z1 : Nat → Int32) (h : fX5_finding fd v1 = some (z0, z1)) (hD0 : va_D (fun _ => True) (wX5 cI cS a0 a1 a2 a3 a4 a5 a6 a7 a8 a9 a10 a11 nw kp ad fd tp kn it wd sz nm mv ik td bg en so va iw im st ht)) : Met l yX5_finding wsX5_finding rmX5_finding (PZ D cI cS [.ref a0, .int v1] (fun U => va_P D vwCl (wX5 cI cS a0 a1 a2 a3 a4 a5 a6 a7 a8 a9 a10 a11 nw kp ad fd tp kn it wd sz nm mv ik td bg en so va iw im st ht) U.heap)) (qI D (wX5 cI cS a0 a1 a2 a3 a4 a5 a6 a7 a8 a9 a10 a11 nw kp ad fd tp kn it wd sz nm mv ik td bg en so va iw im st ht) (wX5 cI cS a0 a1 a2 a3 a4 a5 a6 a7 a8 a9 a10 a11 nw kp ad z1 tp kn it wd sz nm mv ik td bg en so va iw im st ht) z0) 0 0 (wA (wX5 cI cS a0 a1 a2 a3 a4 a5 a6 a7 a8 a9 a10 a11 nw kp ad fd tp kn it wd sz nm mv ik td bg en so va iw im st ht)) := by
  refine Met.mk RX5 (by decide) rfl rfl (Nat.le_of_ble_eq_true rfl) ?_
  intro p e s m below meth c ls C0 hP hl
  have hl : lv_has ls 2 [(0, .ref a0), (1, .int v1)] := hl
  obtain ⟨hx, hb, hr, hml, hown, hts, hlk, hE⟩ := id C0
  have hinX5 : ∀ w ∈ u_ws RX5 TX5 21, w ∈ wsX5_finding := by decide +kernel
  have hD : ∀ W : va_W, W.map Prod.fst = [a0, a1, a2, a3, a4, a5, a6, a7, a8, a9, a10, a11] → va_D (wA (wX5 cI cS a0 a1 a2 a3 a4 a5 a6 a7 a8 a9 a10 a11 nw kp ad fd tp kn it wd sz nm mv ik td bg en so va iw im st ht)) W := fun W hW => hD0.own.re hW
  have hS : va_S (wA (wX5 cI cS a0 a1 a2 a3 a4 a5 a6 a7 a8 a9 a10 a11 nw kp ad fd tp kn it wd sz nm mv ik td bg en so va iw im st ht)) s.heap s.heap [] := va_S.rf
  have hP : va_P D vwCl (wX5 cI cS a0 a1 a2 a3 a4 a5 a6 a7 a8 a9 a10 a11 nw kp ad fd tp kn it wd sz nm mv ik td bg en so va iw im st ht) s.heap := hP
  rw [fX5_finding] at h
  refine lv_aload_n hx hb dX5_finding_0 rfl (lv_at hl 0 rfl) ?_
  refine va_get (D := D) (ci := 4) (v := .ref a4) (C := RX5) (T := TX5) (N := 21) hx hb hts hinX5 hown hE.1 hP 0 rfl rfl 4 (by decide) (hts _ (List.mem_of_getElem? (i := 1) rfl)) (fun _ h9 => h9) rfl dX5_finding_1 ?_
  refine lv_ldc (v := (-1000001)) hx hb hown (hts _ (List.mem_of_getElem? (i := 2) rfl)) dX5_finding_4 ?_
  refine lv_iload_n hx hb dX5_finding_6 rfl (lv_at hl 1 rfl) ?_
  refine lv_isub hx hb dX5_finding_7 ?_
  refine lv_iconst (v := 1) hx hb dX5_finding_8 (by decide) ?_
  refine lv_iadd hx hb dX5_finding_9 ?_
  refine lv_dup2_11 hx hb dX5_finding_10 rfl rfl ?_
  obtain ⟨hi_1, h⟩ := ifs h
  refine va_iald hx hb hE.1 hP 4 0 rfl rfl hi_1 dX5_finding_11 ?_
  refine lv_iconst (v := 1) hx hb dX5_finding_12 (by decide) ?_
  refine lv_iadd hx hb dX5_finding_13 ?_
  obtain ⟨hi_2, h⟩ := ifs h
  refine va_iast hx hb hE.1 hP (hD _ rfl) hS 4 0 rfl rfl hi_2 dX5_finding_14 (fun H locs hP _ hS => ?_)
  have hP : va_P D vwCl (wX5 cI cS a0 a1 a2 a3 a4 a5 a6 a7 a8 a9 a10 a11 nw kp ad (upd fd (((-1000001) - v1) + 1).toNatClampNeg ((fd (((-1000001) - v1) + 1).toNatClampNeg) + 1)) tp kn it wd sz nm mv ik td bg en so va iw im st ht) H := hP
  refine lv_aload_n hx hb dX5_finding_15 rfl (lv_at hl 0 rfl) ?_
  refine va_get (D := D) (ci := 4) (v := .ref a4) (C := RX5) (T := TX5) (N := 21) hx hb hts hinX5 hown hE.1 hP 0 rfl rfl 4 (by decide) (hts _ (List.mem_of_getElem? (i := 1) rfl)) (fun _ h9 => h9) rfl dX5_finding_16 ?_
  refine lv_iconst (v := 0) hx hb dX5_finding_19 (by decide) ?_
  refine lv_dup2_11 hx hb dX5_finding_20 rfl rfl ?_
  refine va_iald hx hb hE.1 hP 4 0 rfl rfl (by unfold vp_in; decide : vp_in 0 8) dX5_finding_21 ?_
  refine lv_eqi (y := (upd fd (((-1000001) - v1) + 1).toNatClampNeg ((fd (((-1000001) - v1) + 1).toNatClampNeg) + 1)) 0) rfl ?_
  refine lv_iconst (v := 1) hx hb dX5_finding_22 (by decide) ?_
  refine lv_iadd hx hb dX5_finding_23 ?_
  refine va_iast hx hb hE.1 hP (hD _ rfl) hS 4 0 rfl rfl (by unfold vp_in; decide : vp_in 0 8) dX5_finding_24 (fun H locs hP _ hS => ?_)
  have hP : va_P D vwCl (wX5 cI cS a0 a1 a2 a3 a4 a5 a6 a7 a8 a9 a10 a11 nw kp ad (upd (upd fd (((-1000001) - v1) + 1).toNatClampNeg ((fd (((-1000001) - v1) + 1).toNatClampNeg) + 1)) 0 (((upd fd (((-1000001) - v1) + 1).toNatClampNeg ((fd (((-1000001) - v1) + 1).toNatClampNeg) + 1)) 0) + 1)) tp kn it wd sz nm mv ik td bg en so va iw im st ht) H := hP
  refine lv_iload_n hx hb dX5_finding_25 rfl (lv_at hl 1 rfl) ?_
  obtain ⟨q0, q1⟩ := Prod.mk.inj (Option.some.inj h)
  subst q0 q1
  exact eMi C0 hP hS rfl rfl dX5_finding_26
def fX5_within (v0 : Int32) (v1 : Int32) (v2 : Int32) : Int32 := (if v0 < v1 then 0 else (if v2 < v0 then 0 else 1))
abbrev rmX5_within : Room := { frames := 0, cells := 0, slots := 0, locals := 0 }
theorem pdX5_within : (yX5_within.cls ≠ "java/lang/invoke/MethodHandle" ∧ yX5_within.cls ≠ "java/lang/invoke/VarHandle" ∧ (parseMethodDescriptor yX5_within.desc).map (fun d => d.parameters.length) = some 3) := by decide +kernel
set_option maxHeartbeats 4000000 in
set_option maxRecDepth 100000 in
theorem tX5_within (l : Launch) (D : va_G) (cI cS : ClassId) (v0 : Int32) (v1 : Int32) (v2 : Int32) (z0 : Int32) (h : fX5_within v0 v1 v2 = z0) : Met l yX5_within wsX5_within rmX5_within (PZ D cI cS [.int v0, .int v1, .int v2] (fun U => va_P D vwCl ([] : va_W) U.heap)) (vp_Si (fun x => x = z0)) 0 0 (fun _ => False) := by
  refine Met.mk RX5 (by decide) rfl rfl (Nat.le_of_ble_eq_true rfl) ?_
  intro p e s m below meth c ls C0 hP hl
  have hl : lv_has ls 3 [(0, .int v0), (1, .int v1), (2, .int v2)] := hl
  obtain ⟨hx, hb, hr, hml, hown, hts, hlk, hE⟩ := id C0
  rw [fX5_within] at h
  refine lv_iload_n hx hb dX5_within_0 rfl (lv_at hl 0 rfl) ?_
  refine lv_iload_n hx hb dX5_within_1 rfl (lv_at hl 1 rfl) ?_
  refine lv_icmp_lt (tgt := 14) hx hb dX5_within_2 (by decide) (fun c_1 => ?_) (fun c_1 => ?_)
  · have h := ifp c_1 h
    refine lv_iconst (v := 0) hx hb dX5_within_14 (by decide) ?_
    exact eRz C0 rfl h dX5_within_15
  · have h := ifn c_1 h
    refine lv_iload_n hx hb dX5_within_5 rfl (lv_at hl 0 rfl) ?_
    refine lv_iload_n hx hb dX5_within_6 rfl (lv_at hl 2 rfl) ?_
    refine lv_icmp_gt (tgt := 14) hx hb dX5_within_7 (by decide) (fun c_2 => ?_) (fun c_2 => ?_)
    · have h := ifp c_2 h
      refine lv_iconst (v := 0) hx hb dX5_within_14 (by decide) ?_
      exact eRz C0 rfl h dX5_within_15
    · have h := ifn c_2 h
      refine lv_iconst (v := 1) hx hb dX5_within_10 (by decide) ?_
      refine lv_goto (tgt := 15) hx hb dX5_within_11 (by decide) ?_
      exact eRz C0 rfl h dX5_within_15
theorem zzX5_within (v0 : Int32) (v1 : Int32) (v2 : Int32) : narrow .boolean (.int (fX5_within v0 v1 v2)) = .int (fX5_within v0 v1 v2) := by unfold fX5_within; (repeat' split) <;> first | rfl
def fX5_become (nw : Nat → Int32) (v1 : Int32) (v2 : Int32) : Option (Int32 × (Nat → Int32)) := if ¬ (v1 < 0 ∨ 84 ≤ v1.toNatClampNeg) then if ¬ (v1 < 0 ∨ 84 ≤ v1.toNatClampNeg) then some (nw v1.toNatClampNeg, upd nw v1.toNatClampNeg v2) else none else none
abbrev rmX5_become : Room := { frames := 0, cells := 0, slots := 0, locals := 0 }
theorem pdX5_become : (yX5_become.cls = RX5 ∧ yX5_become.cls ≠ "java/lang/invoke/MethodHandle" ∧ yX5_become.cls ≠ "java/lang/invoke/VarHandle" ∧ (parseMethodDescriptor yX5_become.desc).map (fun d => d.parameters.length) = some 2) := by decide +kernel
set_option maxHeartbeats 4000000 in
set_option maxRecDepth 100000 in
theorem tX5_become (l : Launch) (D : va_G) (cI cS : ClassId) (a0 a1 a2 a3 a4 a5 a6 a7 a8 a9 a10 a11 : Nat) (nw : Nat → Int32) (kp : Nat → Int32) (ad : Nat → Int32) (fd : Nat → Int32) (tp : Nat → Int32) (kn : Nat → Option Nat) (it : Nat → Int32) (wd : Nat → Int32) (sz : Nat → Int32) (nm : Nat → Int32) (mv : Nat → Int32) (ik : Int32) (td : Int32) (bg : Int32) (en : Int32) (so : Int32) (va : Int32) (iw : Int32) (im : Int32) (st : Int32) (ht : Int32) (v1 : Int32) (v2 : Int32) (z0 : Int32) (z1 : Nat → Int32) (h : fX5_become nw v1 v2 = some (z0, z1)) (hD0 : va_D (fun _ => True) (wX5 cI cS a0 a1 a2 a3 a4 a5 a6 a7 a8 a9 a10 a11 nw kp ad fd tp kn it wd sz nm mv ik td bg en so va iw im st ht)) : Met l yX5_become wsX5_become rmX5_become (PZ D cI cS [.ref a0, .int v1, .int v2] (fun U => va_P D vwCl (wX5 cI cS a0 a1 a2 a3 a4 a5 a6 a7 a8 a9 a10 a11 nw kp ad fd tp kn it wd sz nm mv ik td bg en so va iw im st ht) U.heap)) (qI D (wX5 cI cS a0 a1 a2 a3 a4 a5 a6 a7 a8 a9 a10 a11 nw kp ad fd tp kn it wd sz nm mv ik td bg en so va iw im st ht) (wX5 cI cS a0 a1 a2 a3 a4 a5 a6 a7 a8 a9 a10 a11 z1 kp ad fd tp kn it wd sz nm mv ik td bg en so va iw im st ht) z0) 0 0 (wA (wX5 cI cS a0 a1 a2 a3 a4 a5 a6 a7 a8 a9 a10 a11 nw kp ad fd tp kn it wd sz nm mv ik td bg en so va iw im st ht)) := by
  refine Met.mk RX5 (by decide) rfl rfl (Nat.le_of_ble_eq_true rfl) ?_
  intro p e s m below meth c ls C0 hP hl
  have hl : lv_has ls 4 [(0, .ref a0), (1, .int v1), (2, .int v2)] := hl
  obtain ⟨hx, hb, hr, hml, hown, hts, hlk, hE⟩ := id C0
  have hinX5 : ∀ w ∈ u_ws RX5 TX5 21, w ∈ wsX5_become := by decide +kernel
  have hD : ∀ W : va_W, W.map Prod.fst = [a0, a1, a2, a3, a4, a5, a6, a7, a8, a9, a10, a11] → va_D (wA (wX5 cI cS a0 a1 a2 a3 a4 a5 a6 a7 a8 a9 a10 a11 nw kp ad fd tp kn it wd sz nm mv ik td bg en so va iw im st ht)) W := fun W hW => hD0.own.re hW
  have hS : va_S (wA (wX5 cI cS a0 a1 a2 a3 a4 a5 a6 a7 a8 a9 a10 a11 nw kp ad fd tp kn it wd sz nm mv ik td bg en so va iw im st ht)) s.heap s.heap [] := va_S.rf
  have hP : va_P D vwCl (wX5 cI cS a0 a1 a2 a3 a4 a5 a6 a7 a8 a9 a10 a11 nw kp ad fd tp kn it wd sz nm mv ik td bg en so va iw im st ht) s.heap := hP
  rw [fX5_become] at h
  refine lv_aload_n hx hb dX5_become_0 rfl (lv_at hl 0 rfl) ?_
  refine va_get (D := D) (ci := 4) (v := .ref a1) (C := RX5) (T := TX5) (N := 21) hx hb hts hinX5 hown hE.1 hP 0 rfl rfl 0 (by decide) (hts _ (List.mem_of_getElem? (i := 1) rfl)) (fun _ h9 => h9) rfl dX5_become_1 ?_
  refine lv_iload_n hx hb dX5_become_4 rfl (lv_at hl 1 rfl) ?_
  obtain ⟨hi_1, h⟩ := ifs h
  refine va_iald hx hb hE.1 hP 1 0 rfl rfl hi_1 dX5_become_5 ?_
  refine lv_istore_n (lv' := [(3, .int (nw v1.toNatClampNeg)), (0, .ref a0), (1, .int v1), (2, .int v2)]) hx hb dX5_become_6 rfl hl (by decide) rfl (fun ls hl => ?_)
  refine lv_aload_n hx hb dX5_become_7 rfl (lv_at hl 1 rfl) ?_
  refine va_get (D := D) (ci := 4) (v := .ref a1) (C := RX5) (T := TX5) (N := 21) hx hb hts hinX5 hown hE.1 hP 0 rfl rfl 0 (by decide) (hts _ (List.mem_of_getElem? (i := 1) rfl)) (fun _ h9 => h9) rfl dX5_become_8 ?_
  refine lv_iload_n hx hb dX5_become_11 rfl (lv_at hl 2 rfl) ?_
  refine lv_iload_n hx hb dX5_become_12 rfl (lv_at hl 3 rfl) ?_
  obtain ⟨hi_2, h⟩ := ifs h
  refine va_iast hx hb hE.1 hP (hD _ rfl) hS 1 0 rfl rfl hi_2 dX5_become_13 (fun H locs hP _ hS => ?_)
  have hP : va_P D vwCl (wX5 cI cS a0 a1 a2 a3 a4 a5 a6 a7 a8 a9 a10 a11 (upd nw v1.toNatClampNeg v2) kp ad fd tp kn it wd sz nm mv ik td bg en so va iw im st ht) H := hP
  refine lv_iload_n hx hb dX5_become_14 rfl (lv_at hl 0 rfl) ?_
  obtain ⟨q0, q1⟩ := Prod.mk.inj (Option.some.inj h)
  subst q0 q1
  exact eMi C0 hP hS rfl rfl dX5_become_15
def fX5_copyRow_2 (ra : Nat → Int32) : Nat → Int32 → (Nat → Int32) → Option ((Nat → Int32))
  | 0, _, _ => none
  | n + 1, v2, rb => (if 84 ≤ v2 then some rb else if ¬ (v2 < 0 ∨ 84 ≤ v2.toNatClampNeg) then if ¬ (v2 < 0 ∨ 84 ≤ v2.toNatClampNeg) then fX5_copyRow_2 ra n (v2 + 1) (upd rb v2.toNatClampNeg (ra v2.toNatClampNeg)) else none else none)
def fX5_copyRow (F : Nat) (ra : Nat → Int32) (rb : Nat → Int32) : Option ((Nat → Int32)) := fX5_copyRow_2 ra F 0 rb
abbrev rmX5_copyRow : Room := { frames := 0, cells := 0, slots := 0, locals := 0 }
theorem pdX5_copyRow : (yX5_copyRow.cls ≠ "java/lang/invoke/MethodHandle" ∧ yX5_copyRow.cls ≠ "java/lang/invoke/VarHandle" ∧ (parseMethodDescriptor yX5_copyRow.desc).map (fun d => d.parameters.length) = some 2) := by decide +kernel
set_option maxHeartbeats 4000000 in
set_option maxRecDepth 100000 in
theorem lX5_copyRow_2 {p : Program} {l : Launch} {e : Env} {s : State} {m : MethodId} {av : Array Value} {below : List Frame} {meth : Method} {c : Code} {D : va_G} {cI cS : ClassId} {a0 a1 : Nat} {W0 : va_W} (C0 : CX p s m av meth c RX5 cX5_copyRow 3 none wsX5_copyRow D cI cS) (F : Nat) (ra : Nat → Int32) (z0 : Nat → Int32) (hD : ∀ W : va_W, W.map Prod.fst = [a0, a1] → va_D (wA W0) W) : ∀ (n : Nat) (v2 : Int32) (rb : Nat → Int32) (H : Heap) (locs : List Loc), va_P D vwCl (wR2 cI cS a0 a1 ra rb) H → va_S (wA W0) s.heap H locs → ∀ (ls : Array Slot), lv_has ls 3 [(0, .ref a0), (1, .ref a1), (2, .int v2)] → fX5_copyRow_2 ra n v2 rb = some z0 → W p l e rmX5_copyRow s m av below meth c H locs 0 0 (MQ below (qV D W0 (wR2 cI cS a0 a1 ra z0)) av s 0 0 (wA W0)) (F0 m 2 ls []) := by
  obtain ⟨hx, hb, hr, hml, hown, hts, hlk, hE⟩ := id C0
  intro n
  induction n with
  | zero =>
    intro v2 rb H locs hP hS ls hl h
    cases (show none = some z0 from h)
  | succ n ih =>
    intro v2 rb H locs hP hS ls hl h
    rw [fX5_copyRow_2] at h
    refine lv_iload_n hx hb dX5_copyRow_2 rfl (lv_at hl 2 rfl) ?_
    refine lv_bipush (v := 84) hx hb dX5_copyRow_3 (by decide) ?_
    refine lv_icmp_ge (tgt := 20) hx hb dX5_copyRow_5 (by decide) (fun c_1 => ?_) (fun c_1 => ?_)
    · have h := ifp c_1 h
      obtain rfl := Option.some.inj h
      exact eMv C0 hP hS rfl dX5_copyRow_20
    · have h := ifn c_1 h
      refine lv_aload_n hx hb dX5_copyRow_8 rfl (lv_at hl 1 rfl) ?_
      refine lv_iload_n hx hb dX5_copyRow_9 rfl (lv_at hl 2 rfl) ?_
      refine lv_aload_n hx hb dX5_copyRow_10 rfl (lv_at hl 0 rfl) ?_
      refine lv_iload_n hx hb dX5_copyRow_11 rfl (lv_at hl 2 rfl) ?_
      obtain ⟨hi_2, h⟩ := ifs h
      refine va_iald hx hb hE.1 hP 0 0 rfl rfl hi_2 dX5_copyRow_12 ?_
      obtain ⟨hi_3, h⟩ := ifs h
      refine va_iast hx hb hE.1 hP (hD _ rfl) hS 1 0 rfl rfl hi_3 dX5_copyRow_13 (fun H locs hP _ hS => ?_)
      have hP : va_P D vwCl (wR2 cI cS a0 a1 ra (upd rb v2.toNatClampNeg (ra v2.toNatClampNeg))) H := hP
      refine lv_iinc (v := v2 + 1) (lv' := [(2, .int (v2 + 1)), (0, .ref a0), (1, .ref a1)]) hx hb dX5_copyRow_14 hl (k := 2) rfl rfl (by decide) rfl (fun ls hl => ?_)
      refine lv_goto (tgt := 2) hx hb dX5_copyRow_17 (by decide) ?_
      exact ih (v2 + 1) (upd rb v2.toNatClampNeg (ra v2.toNatClampNeg)) _ _ hP hS _ (lv_sub hl [1, 2, 0] rfl) h
set_option maxHeartbeats 4000000 in
set_option maxRecDepth 100000 in
theorem tX5_copyRow (l : Launch) (D : va_G) (cI cS : ClassId) (F : Nat) (a0 a1 : Nat) (ra : Nat → Int32) (rb : Nat → Int32) (z0 : Nat → Int32) (h : fX5_copyRow F ra rb = some z0) (hD0 : va_D (fun _ => True) (wR2 cI cS a0 a1 ra rb)) : Met l yX5_copyRow wsX5_copyRow rmX5_copyRow (PZ D cI cS [.ref a0, .ref a1] (fun U => va_P D vwCl (wR2 cI cS a0 a1 ra rb) U.heap)) (qV D (wR2 cI cS a0 a1 ra rb) (wR2 cI cS a0 a1 ra z0)) 0 0 (wA (wR2 cI cS a0 a1 ra rb)) := by
  refine Met.mk RX5 (by decide) rfl rfl (Nat.le_of_ble_eq_true rfl) ?_
  intro p e s m below meth c ls C0 hP hl
  have hl : lv_has ls 3 [(0, .ref a0), (1, .ref a1)] := hl
  obtain ⟨hx, hb, hr, hml, hown, hts, hlk, hE⟩ := id C0
  have hD : ∀ W : va_W, W.map Prod.fst = [a0, a1] → va_D (wA (wR2 cI cS a0 a1 ra rb)) W := fun W hW => hD0.own.re hW
  have hS : va_S (wA (wR2 cI cS a0 a1 ra rb)) s.heap s.heap [] := va_S.rf
  have hP : va_P D vwCl (wR2 cI cS a0 a1 ra rb) s.heap := hP
  rw [fX5_copyRow] at h
  refine lv_iconst (v := 0) hx hb dX5_copyRow_0 (by decide) ?_
  refine lv_istore_n (lv' := [(2, .int 0), (0, .ref a0), (1, .ref a1)]) hx hb dX5_copyRow_1 rfl hl (by decide) rfl (fun ls hl => ?_)
  exact lX5_copyRow_2 (l := l) (e := e) (below := below) C0 F ra z0 hD F 0 rb _ _ hP hS _ (lv_sub hl [1, 2, 0] rfl) h
def fX5_putBack (F : Nat) (nw : Nat → Int32) (ad : Nat → Int32) (v1 : Int32) : Option (Int32 × (Nat → Int32)) := Option.bind (fX5_copyRow F ad nw) (fun z_1 => some (v1, z_1))
abbrev rmX5_putBack : Room := { frames := 1, cells := 0, slots := 0, locals := 22 }
theorem pdX5_putBack : (yX5_putBack.cls = RX5 ∧ yX5_putBack.cls ≠ "java/lang/invoke/MethodHandle" ∧ yX5_putBack.cls ≠ "java/lang/invoke/VarHandle" ∧ (parseMethodDescriptor yX5_putBack.desc).map (fun d => d.parameters.length) = some 1) := by decide +kernel
set_option maxHeartbeats 4000000 in
set_option maxRecDepth 100000 in
theorem tX5_putBack (l : Launch) (D : va_G) (cI cS : ClassId) (F : Nat) (a0 a1 a2 a3 a4 a5 a6 a7 a8 a9 a10 a11 : Nat) (nw : Nat → Int32) (kp : Nat → Int32) (ad : Nat → Int32) (fd : Nat → Int32) (tp : Nat → Int32) (kn : Nat → Option Nat) (it : Nat → Int32) (wd : Nat → Int32) (sz : Nat → Int32) (nm : Nat → Int32) (mv : Nat → Int32) (ik : Int32) (td : Int32) (bg : Int32) (en : Int32) (so : Int32) (va : Int32) (iw : Int32) (im : Int32) (st : Int32) (ht : Int32) (v1 : Int32) (z0 : Int32) (z1 : Nat → Int32) (h : fX5_putBack F nw ad v1 = some (z0, z1)) (hD0 : va_D (fun _ => True) (wX5 cI cS a0 a1 a2 a3 a4 a5 a6 a7 a8 a9 a10 a11 nw kp ad fd tp kn it wd sz nm mv ik td bg en so va iw im st ht)) : Met l yX5_putBack wsX5_putBack rmX5_putBack (PZ D cI cS [.ref a0, .int v1] (fun U => va_P D vwCl (wX5 cI cS a0 a1 a2 a3 a4 a5 a6 a7 a8 a9 a10 a11 nw kp ad fd tp kn it wd sz nm mv ik td bg en so va iw im st ht) U.heap)) (qI D (wX5 cI cS a0 a1 a2 a3 a4 a5 a6 a7 a8 a9 a10 a11 nw kp ad fd tp kn it wd sz nm mv ik td bg en so va iw im st ht) (wX5 cI cS a0 a1 a2 a3 a4 a5 a6 a7 a8 a9 a10 a11 z1 kp ad fd tp kn it wd sz nm mv ik td bg en so va iw im st ht) z0) 0 0 (wA (wX5 cI cS a0 a1 a2 a3 a4 a5 a6 a7 a8 a9 a10 a11 nw kp ad fd tp kn it wd sz nm mv ik td bg en so va iw im st ht)) := by
  refine Met.mk RX5 (by decide) rfl rfl (Nat.le_of_ble_eq_true rfl) ?_
  intro p e s m below meth c ls C0 hP hl
  have hl : lv_has ls 2 [(0, .ref a0), (1, .int v1)] := hl
  obtain ⟨hx, hb, hr, hml, hown, hts, hlk, hE⟩ := id C0
  have hinX5 : ∀ w ∈ u_ws RX5 TX5 21, w ∈ wsX5_putBack := by decide +kernel
  have hD : ∀ W : va_W, W.map Prod.fst = [a0, a1, a2, a3, a4, a5, a6, a7, a8, a9, a10, a11] → va_D (wA (wX5 cI cS a0 a1 a2 a3 a4 a5 a6 a7 a8 a9 a10 a11 nw kp ad fd tp kn it wd sz nm mv ik td bg en so va iw im st ht)) W := fun W hW => hD0.own.re hW
  have hS : va_S (wA (wX5 cI cS a0 a1 a2 a3 a4 a5 a6 a7 a8 a9 a10 a11 nw kp ad fd tp kn it wd sz nm mv ik td bg en so va iw im st ht)) s.heap s.heap [] := va_S.rf
  have hP : va_P D vwCl (wX5 cI cS a0 a1 a2 a3 a4 a5 a6 a7 a8 a9 a10 a11 nw kp ad fd tp kn it wd sz nm mv ik td bg en so va iw im st ht) s.heap := hP
  rw [fX5_putBack] at h
  refine lv_aload_n hx hb dX5_putBack_0 rfl (lv_at hl 0 rfl) ?_
  refine va_get (D := D) (ci := 4) (v := .ref a3) (C := RX5) (T := TX5) (N := 21) hx hb hts hinX5 hown hE.1 hP 0 rfl rfl 2 (by decide) (hts _ (List.mem_of_getElem? (i := 1) rfl)) (fun _ h9 => h9) rfl dX5_putBack_1 ?_
  refine lv_aload_n hx hb dX5_putBack_4 rfl (lv_at hl 0 rfl) ?_
  refine va_get (D := D) (ci := 4) (v := .ref a1) (C := RX5) (T := TX5) (N := 21) hx hb hts hinX5 hown hE.1 hP 0 rfl rfl 0 (by decide) (hts _ (List.mem_of_getElem? (i := 2) rfl)) (fun _ h9 => h9) rfl dX5_putBack_5 ?_
  obtain ⟨z_1, e_2, h⟩ := bds h
  have hPc := hP.sub (ws' := (wR2 cI cS a3 a1 ad nw)) [3, 1] rfl
  refine kMv (wf' := (wX5 cI cS a0 a1 a2 a3 a4 a5 a6 a7 a8 a9 a10 a11 z_1 kp ad fd tp kn it wd sz nm mv ik td bg en so va iw im st ht)) [3, 1] [none, some 1, none, some 0, none, none, none, none, none, none, none, none] (rS C0 (tX5_copyRow l D cI cS F a3 a1 ad nw  z_1 e_2 (((hD (wX5 cI cS a0 a1 a2 a3 a4 a5 a6 a7 a8 a9 a10 a11 nw kp ad fd tp kn it wd sz nm mv ik td bg en so va iw im st ht) rfl).sub [3, 1] (by decide) rfl).weaken (fun _ _ _ _ => trivial))) gX5_putBack_X5_copyRow rfl ⟨rfl, rfl⟩ pdX5_copyRow rfl ⟨Nat.le_of_ble_eq_true rfl, Nat.le_of_ble_eq_true rfl⟩ (fun _ _ _ _ q => q) (fun U hU _ _ => by rw [hU]; exact hPc) hl.1 rfl (Nat.le_of_ble_eq_true rfl) dX5_putBack_8 ⟨Nat.zero_le _, Nat.zero_le _⟩) hP (hD _ rfl) hS rfl rfl rfl (fun H locs hP hS => ?_)
  refine lv_iload_n hx hb dX5_putBack_11 rfl (lv_at hl 1 rfl) ?_
  obtain ⟨q0, q1⟩ := Prod.mk.inj (Option.some.inj h)
  subst q0 q1
  exact eMi C0 hP hS rfl rfl dX5_putBack_12
def fX5_orNone (fd : Nat → Int32) (v1 : Int32) : Option (Int32 × (Nat → Int32)) := (if 0 ≤ v1 then some (v1, fd) else Option.bind (fX5_finding fd (-1000004)) (fun z_2 => some (z_2.1, z_2.2)))
abbrev rmX5_orNone : Room := { frames := 1, cells := 0, slots := 0, locals := 21 }
theorem pdX5_orNone : (yX5_orNone.cls = RX5 ∧ yX5_orNone.cls ≠ "java/lang/invoke/MethodHandle" ∧ yX5_orNone.cls ≠ "java/lang/invoke/VarHandle" ∧ (parseMethodDescriptor yX5_orNone.desc).map (fun d => d.parameters.length) = some 1) := by decide +kernel
set_option maxHeartbeats 4000000 in
set_option maxRecDepth 100000 in
theorem tX5_orNone (l : Launch) (D : va_G) (cI cS : ClassId) (a0 a1 a2 a3 a4 a5 a6 a7 a8 a9 a10 a11 : Nat) (nw : Nat → Int32) (kp : Nat → Int32) (ad : Nat → Int32) (fd : Nat → Int32) (tp : Nat → Int32) (kn : Nat → Option Nat) (it : Nat → Int32) (wd : Nat → Int32) (sz : Nat → Int32) (nm : Nat → Int32) (mv : Nat → Int32) (ik : Int32) (td : Int32) (bg : Int32) (en : Int32) (so : Int32) (va : Int32) (iw : Int32) (im : Int32) (st : Int32) (ht : Int32) (v1 : Int32) (z0 : Int32) (z1 : Nat → Int32) (h : fX5_orNone fd v1 = some (z0, z1)) (hD0 : va_D (fun _ => True) (wX5 cI cS a0 a1 a2 a3 a4 a5 a6 a7 a8 a9 a10 a11 nw kp ad fd tp kn it wd sz nm mv ik td bg en so va iw im st ht)) : Met l yX5_orNone wsX5_orNone rmX5_orNone (PZ D cI cS [.ref a0, .int v1] (fun U => va_P D vwCl (wX5 cI cS a0 a1 a2 a3 a4 a5 a6 a7 a8 a9 a10 a11 nw kp ad fd tp kn it wd sz nm mv ik td bg en so va iw im st ht) U.heap)) (qI D (wX5 cI cS a0 a1 a2 a3 a4 a5 a6 a7 a8 a9 a10 a11 nw kp ad fd tp kn it wd sz nm mv ik td bg en so va iw im st ht) (wX5 cI cS a0 a1 a2 a3 a4 a5 a6 a7 a8 a9 a10 a11 nw kp ad z1 tp kn it wd sz nm mv ik td bg en so va iw im st ht) z0) 0 0 (wA (wX5 cI cS a0 a1 a2 a3 a4 a5 a6 a7 a8 a9 a10 a11 nw kp ad fd tp kn it wd sz nm mv ik td bg en so va iw im st ht)) := by
  refine Met.mk RX5 (by decide) rfl rfl (Nat.le_of_ble_eq_true rfl) ?_
  intro p e s m below meth c ls C0 hP hl
  have hl : lv_has ls 2 [(0, .ref a0), (1, .int v1)] := hl
  obtain ⟨hx, hb, hr, hml, hown, hts, hlk, hE⟩ := id C0
  have hD : ∀ W : va_W, W.map Prod.fst = [a0, a1, a2, a3, a4, a5, a6, a7, a8, a9, a10, a11] → va_D (wA (wX5 cI cS a0 a1 a2 a3 a4 a5 a6 a7 a8 a9 a10 a11 nw kp ad fd tp kn it wd sz nm mv ik td bg en so va iw im st ht)) W := fun W hW => hD0.own.re hW
  have hS : va_S (wA (wX5 cI cS a0 a1 a2 a3 a4 a5 a6 a7 a8 a9 a10 a11 nw kp ad fd tp kn it wd sz nm mv ik td bg en so va iw im st ht)) s.heap s.heap [] := va_S.rf
  have hP : va_P D vwCl (wX5 cI cS a0 a1 a2 a3 a4 a5 a6 a7 a8 a9 a10 a11 nw kp ad fd tp kn it wd sz nm mv ik td bg en so va iw im st ht) s.heap := hP
  rw [fX5_orNone] at h
  refine lv_iload_n hx hb dX5_orNone_0 rfl (lv_at hl 1 rfl) ?_
  refine lv_if_ge (tgt := 13) hx hb dX5_orNone_1 (by decide) (fun c_1 => ?_) (fun c_1 => ?_)
  · have h := ifp c_1 h
    refine lv_iload_n hx hb dX5_orNone_13 rfl (lv_at hl 1 rfl) ?_
    obtain ⟨q0, q1⟩ := Prod.mk.inj (Option.some.inj h)
    subst q0 q1
    exact eMi C0 hP hS rfl rfl dX5_orNone_14
  · have h := ifn c_1 h
    refine lv_aload_n hx hb dX5_orNone_4 rfl (lv_at hl 0 rfl) ?_
    refine lv_ldc (v := (-1000004)) hx hb hown (hts _ (List.mem_of_getElem? (i := 1) rfl)) dX5_orNone_5 ?_
    obtain ⟨z_2, e_3, h⟩ := bds h
    have hPc := hP.sub (ws' := (wX5 cI cS a0 a1 a2 a3 a4 a5 a6 a7 a8 a9 a10 a11 nw kp ad fd tp kn it wd sz nm mv ik td bg en so va iw im st ht)) [0, 1, 2, 3, 4, 5, 6, 7, 8, 9, 10, 11] rfl
    refine kMi (wf' := (wX5 cI cS a0 a1 a2 a3 a4 a5 a6 a7 a8 a9 a10 a11 nw kp ad z_2.2 tp kn it wd sz nm mv ik td bg en so va iw im st ht)) [0, 1, 2, 3, 4, 5, 6, 7, 8, 9, 10, 11] [some 0, some 1, some 2, some 3, some 4, some 5, some 6, some 7, some 8, some 9, some 10, some 11] (rV C0 (tX5_finding l D cI cS a0 a1 a2 a3 a4 a5 a6 a7 a8 a9 a10 a11 nw kp ad fd tp kn it wd sz nm mv ik td bg en so va iw im st ht (-1000004) z_2.1 z_2.2 e_3 (((hD (wX5 cI cS a0 a1 a2 a3 a4 a5 a6 a7 a8 a9 a10 a11 nw kp ad fd tp kn it wd sz nm mv ik td bg en so va iw im st ht) rfl).sub [0, 1, 2, 3, 4, 5, 6, 7, 8, 9, 10, 11] (by decide) rfl).weaken (fun _ _ _ _ => trivial))) RX5 gX5_orNone_X5_finding rfl ⟨rfl, rfl⟩ pdX5_finding rfl ⟨Nat.le_of_ble_eq_true rfl, Nat.le_of_ble_eq_true rfl⟩ (fun _ _ _ _ q => q) (va_recv hE.1 hPc (ci := 4) (q0 := 0) rfl rfl) (fun U hU _ _ => by rw [hU]; exact hPc) hl.1 rfl (Nat.le_of_ble_eq_true rfl) dX5_orNone_7 ⟨Nat.zero_le _, Nat.zero_le _⟩) hP (hD _ rfl) hS rfl rfl rfl (fun H locs hP hS => ?_)
    refine lv_goto (tgt := 14) hx hb dX5_orNone_10 (by decide) ?_
    obtain ⟨q0, q1⟩ := Prod.mk.inj (Option.some.inj h)
    subst q0 q1
    exact eMi C0 hP hS rfl rfl dX5_orNone_14
def fX5_bits_4 : Nat → Int32 → Int32 → Option (Int32)
  | 0, _, _ => none
  | n + 1, v1, v2 => (if v2 = 0 then some v1 else fX5_bits_4 n (v1 + 1) (v2 &&& (v2 - 1)))
def fX5_bits (F : Nat) (v0 : Int32) : Option (Int32) := fX5_bits_4 F 0 v0
abbrev rmX5_bits : Room := { frames := 0, cells := 0, slots := 0, locals := 0 }
theorem pdX5_bits : (yX5_bits.cls ≠ "java/lang/invoke/MethodHandle" ∧ yX5_bits.cls ≠ "java/lang/invoke/VarHandle" ∧ (parseMethodDescriptor yX5_bits.desc).map (fun d => d.parameters.length) = some 1) := by decide +kernel
set_option maxHeartbeats 4000000 in
set_option maxRecDepth 100000 in
theorem lX5_bits_4 {p : Program} {l : Launch} {e : Env} {s : State} {m : MethodId} {av : Array Value} {below : List Frame} {meth : Method} {c : Code} {D : va_G} {cI cS : ClassId} (C0 : CX p s m av meth c RX5 cX5_bits 3 (some .int) wsX5_bits D cI cS) (F : Nat) (z0 : Int32) (hP : va_P D vwCl ([] : va_W) s.heap) : ∀ (n : Nat) (v1 : Int32) (v2 : Int32), ∀ (ls : Array Slot), lv_has ls 3 [(1, .int v1), (2, .int v2)] → fX5_bits_4 n v1 v2 = some z0 → W p l e rmX5_bits s m av below meth c s.heap [] 0 0 (MQ below (vp_Si (fun x => x = z0)) av s 0 0 (fun _ => False)) (F0 m 4 ls []) := by
  obtain ⟨hx, hb, hr, hml, hown, hts, hlk, hE⟩ := id C0
  intro n
  induction n with
  | zero =>
    intro v1 v2 ls hl h
    cases (show none = some z0 from h)
  | succ n ih =>
    intro v1 v2 ls hl h
    rw [fX5_bits_4] at h
    refine lv_iload_n hx hb dX5_bits_4 rfl (lv_at hl 1 rfl) ?_
    refine lv_if_eq (tgt := 20) hx hb dX5_bits_5 (by decide) (fun c_1 => ?_) (fun c_1 => ?_)
    · have h := ifp c_1 h
      refine lv_iload_n hx hb dX5_bits_20 rfl (lv_at hl 0 rfl) ?_
      exact eRi C0 (Option.some.inj h) dX5_bits_21
    · have h := ifn c_1 h
      refine lv_iinc (v := v1 + 1) (lv' := [(1, .int (v1 + 1)), (2, .int v2)]) hx hb dX5_bits_8 hl (k := 0) rfl rfl (by decide) rfl (fun ls hl => ?_)
      refine lv_iload_n hx hb dX5_bits_11 rfl (lv_at hl 1 rfl) ?_
      refine lv_iload_n hx hb dX5_bits_12 rfl (lv_at hl 1 rfl) ?_
      refine lv_iconst (v := 1) hx hb dX5_bits_13 (by decide) ?_
      refine lv_isub hx hb dX5_bits_14 ?_
      refine lv_iand hx hb dX5_bits_15 ?_
      refine lv_istore_n (lv' := [(2, .int (v2 &&& (v2 - 1))), (1, .int (v1 + 1))]) hx hb dX5_bits_16 rfl hl (by decide) rfl (fun ls hl => ?_)
      refine lv_goto (tgt := 4) hx hb dX5_bits_17 (by decide) ?_
      exact ih (v1 + 1) (v2 &&& (v2 - 1)) _ (lv_sub hl [1, 0] rfl) h
set_option maxHeartbeats 4000000 in
set_option maxRecDepth 100000 in
theorem tX5_bits (l : Launch) (D : va_G) (cI cS : ClassId) (F : Nat) (v0 : Int32) (z0 : Int32) (h : fX5_bits F v0 = some z0) : Met l yX5_bits wsX5_bits rmX5_bits (PZ D cI cS [.int v0] (fun U => va_P D vwCl ([] : va_W) U.heap)) (vp_Si (fun x => x = z0)) 0 0 (fun _ => False) := by
  refine Met.mk RX5 (by decide) rfl rfl (Nat.le_of_ble_eq_true rfl) ?_
  intro p e s m below meth c ls C0 hP hl
  have hl : lv_has ls 3 [(0, .int v0)] := hl
  obtain ⟨hx, hb, hr, hml, hown, hts, hlk, hE⟩ := id C0
  rw [fX5_bits] at h
  refine lv_iconst (v := 0) hx hb dX5_bits_0 (by decide) ?_
  refine lv_istore_n (lv' := [(1, .int 0), (0, .int v0)]) hx hb dX5_bits_1 rfl hl (by decide) rfl (fun ls hl => ?_)
  refine lv_iload_n hx hb dX5_bits_2 rfl (lv_at hl 1 rfl) ?_
  refine lv_istore_n (lv' := [(2, .int v0), (1, .int 0), (0, .int v0)]) hx hb dX5_bits_3 rfl hl (by decide) rfl (fun ls hl => ?_)
  exact lX5_bits_4 (l := l) (e := e) (below := below) C0 F z0 hP F 0 v0 _ (lv_sub hl [1, 0] rfl) h
def fX5_isCell (v0 : Int32) : Int32 := (fX5_within v0 0 15)
abbrev rmX5_isCell : Room := { frames := 1, cells := 0, slots := 0, locals := 22 }
theorem pdX5_isCell : (yX5_isCell.cls ≠ "java/lang/invoke/MethodHandle" ∧ yX5_isCell.cls ≠ "java/lang/invoke/VarHandle" ∧ (parseMethodDescriptor yX5_isCell.desc).map (fun d => d.parameters.length) = some 1) := by decide +kernel
set_option maxHeartbeats 4000000 in
set_option maxRecDepth 100000 in
theorem tX5_isCell (l : Launch) (D : va_G) (cI cS : ClassId) (v0 : Int32) (z0 : Int32) (h : fX5_isCell v0 = z0) : Met l yX5_isCell wsX5_isCell rmX5_isCell (PZ D cI cS [.int v0] (fun U => va_P D vwCl ([] : va_W) U.heap)) (vp_Si (fun x => x = z0)) 0 0 (fun _ => False) := by
  refine Met.mk RX5 (by decide) rfl rfl (Nat.le_of_ble_eq_true rfl) ?_
  intro p e s m below meth c ls C0 hP hl
  have hl : lv_has ls 1 [(0, .int v0)] := hl
  obtain ⟨hx, hb, hr, hml, hown, hts, hlk, hE⟩ := id C0
  rw [fX5_isCell] at h
  refine lv_iload_n hx hb dX5_isCell_0 rfl (lv_at hl 0 rfl) ?_
  refine lv_iconst (v := 0) hx hb dX5_isCell_1 (by decide) ?_
  refine lv_bipush (v := 15) hx hb dX5_isCell_2 (by decide) ?_
  refine kRi (rS C0 (tX5_within l D cI cS v0 0 15 (fX5_within v0 0 15) rfl) gX5_isCell_X5_within rfl ⟨rfl, rfl⟩ pdX5_within rfl ⟨Nat.le_of_ble_eq_true rfl, Nat.le_of_ble_eq_true rfl⟩ (fun _ _ _ _ q => q) (fun _ _ _ _ => vp0) hl.1 rfl (Nat.le_of_ble_eq_true rfl) dX5_isCell_4 ⟨Nat.zero_le _, Nat.zero_le _⟩) ?_
  exact eRz C0 (zzX5_within ..) h dX5_isCell_7
theorem zzX5_isCell (v0 : Int32) : narrow .boolean (.int (fX5_isCell v0)) = .int (fX5_isCell v0) := zzX5_within ..
def fX5_isMany (v0 : Int32) : Int32 := (fX5_within v0 0 99)
abbrev rmX5_isMany : Room := { frames := 1, cells := 0, slots := 0, locals := 22 }
theorem pdX5_isMany : (yX5_isMany.cls ≠ "java/lang/invoke/MethodHandle" ∧ yX5_isMany.cls ≠ "java/lang/invoke/VarHandle" ∧ (parseMethodDescriptor yX5_isMany.desc).map (fun d => d.parameters.length) = some 1) := by decide +kernel
set_option maxHeartbeats 4000000 in
set_option maxRecDepth 100000 in
theorem tX5_isMany (l : Launch) (D : va_G) (cI cS : ClassId) (v0 : Int32) (z0 : Int32) (h : fX5_isMany v0 = z0) : Met l yX5_isMany wsX5_isMany rmX5_isMany (PZ D cI cS [.int v0] (fun U => va_P D vwCl ([] : va_W) U.heap)) (vp_Si (fun x => x = z0)) 0 0 (fun _ => False) := by
  refine Met.mk RX5 (by decide) rfl rfl (Nat.le_of_ble_eq_true rfl) ?_
  intro p e s m below meth c ls C0 hP hl
  have hl : lv_has ls 1 [(0, .int v0)] := hl
  obtain ⟨hx, hb, hr, hml, hown, hts, hlk, hE⟩ := id C0
  rw [fX5_isMany] at h
  refine lv_iload_n hx hb dX5_isMany_0 rfl (lv_at hl 0 rfl) ?_
  refine lv_iconst (v := 0) hx hb dX5_isMany_1 (by decide) ?_
  refine lv_bipush (v := 99) hx hb dX5_isMany_2 (by decide) ?_
  refine kRi (rS C0 (tX5_within l D cI cS v0 0 99 (fX5_within v0 0 99) rfl) gX5_isMany_X5_within rfl ⟨rfl, rfl⟩ pdX5_within rfl ⟨Nat.le_of_ble_eq_true rfl, Nat.le_of_ble_eq_true rfl⟩ (fun _ _ _ _ q => q) (fun _ _ _ _ => vp0) hl.1 rfl (Nat.le_of_ble_eq_true rfl) dX5_isMany_4 ⟨Nat.zero_le _, Nat.zero_le _⟩) ?_
  exact eRz C0 (zzX5_within ..) h dX5_isMany_7
theorem zzX5_isMany (v0 : Int32) : narrow .boolean (.int (fX5_isMany v0)) = .int (fX5_isMany v0) := zzX5_within ..
def fX5_isPlace (v0 : Int32) : Int32 := (fX5_within v0 0 5)
abbrev rmX5_isPlace : Room := { frames := 1, cells := 0, slots := 0, locals := 22 }
theorem pdX5_isPlace : (yX5_isPlace.cls ≠ "java/lang/invoke/MethodHandle" ∧ yX5_isPlace.cls ≠ "java/lang/invoke/VarHandle" ∧ (parseMethodDescriptor yX5_isPlace.desc).map (fun d => d.parameters.length) = some 1) := by decide +kernel
set_option maxHeartbeats 4000000 in
set_option maxRecDepth 100000 in
theorem tX5_isPlace (l : Launch) (D : va_G) (cI cS : ClassId) (v0 : Int32) (z0 : Int32) (h : fX5_isPlace v0 = z0) : Met l yX5_isPlace wsX5_isPlace rmX5_isPlace (PZ D cI cS [.int v0] (fun U => va_P D vwCl ([] : va_W) U.heap)) (vp_Si (fun x => x = z0)) 0 0 (fun _ => False) := by
  refine Met.mk RX5 (by decide) rfl rfl (Nat.le_of_ble_eq_true rfl) ?_
  intro p e s m below meth c ls C0 hP hl
  have hl : lv_has ls 1 [(0, .int v0)] := hl
  obtain ⟨hx, hb, hr, hml, hown, hts, hlk, hE⟩ := id C0
  rw [fX5_isPlace] at h
  refine lv_iload_n hx hb dX5_isPlace_0 rfl (lv_at hl 0 rfl) ?_
  refine lv_iconst (v := 0) hx hb dX5_isPlace_1 (by decide) ?_
  refine lv_iconst (v := 5) hx hb dX5_isPlace_2 (by decide) ?_
  refine kRi (rS C0 (tX5_within l D cI cS v0 0 5 (fX5_within v0 0 5) rfl) gX5_isPlace_X5_within rfl ⟨rfl, rfl⟩ pdX5_within rfl ⟨Nat.le_of_ble_eq_true rfl, Nat.le_of_ble_eq_true rfl⟩ (fun _ _ _ _ q => q) (fun _ _ _ _ => vp0) hl.1 rfl (Nat.le_of_ble_eq_true rfl) dX5_isPlace_3 ⟨Nat.zero_le _, Nat.zero_le _⟩) ?_
  exact eRz C0 (zzX5_within ..) h dX5_isPlace_6
theorem zzX5_isPlace (v0 : Int32) : narrow .boolean (.int (fX5_isPlace v0)) = .int (fX5_isPlace v0) := zzX5_within ..
def fX5_list (nw : Nat → Int32) (fd : Nat → Int32) (v1 : Int32) (v2 : Int32) : Option (Int32 × (Nat → Int32) × (Nat → Int32)) := (if (fX5_isPlace v1) = 0 then Option.bind (fX5_finding fd (-1000001)) (fun z_2 => some (z_2.1, nw, z_2.2)) else (if (fX5_within v2 0 8) = 0 then Option.bind (fX5_finding fd (-1000001)) (fun z_5 => some (z_5.1, nw, z_5.2)) else Option.bind (fX5_become nw (4 + v1) v2) (fun z_7 => some (z_7.1, z_7.2, fd))))
abbrev rmX5_list : Room := { frames := 2, cells := 0, slots := 0, locals := 42 }
theorem pdX5_list : (yX5_list.cls = RX5 ∧ yX5_list.cls ≠ "java/lang/invoke/MethodHandle" ∧ yX5_list.cls ≠ "java/lang/invoke/VarHandle" ∧ (parseMethodDescriptor yX5_list.desc).map (fun d => d.parameters.length) = some 2) := by decide +kernel
set_option maxHeartbeats 4000000 in
set_option maxRecDepth 100000 in
theorem tX5_list (l : Launch) (D : va_G) (cI cS : ClassId) (a0 a1 a2 a3 a4 a5 a6 a7 a8 a9 a10 a11 : Nat) (nw : Nat → Int32) (kp : Nat → Int32) (ad : Nat → Int32) (fd : Nat → Int32) (tp : Nat → Int32) (kn : Nat → Option Nat) (it : Nat → Int32) (wd : Nat → Int32) (sz : Nat → Int32) (nm : Nat → Int32) (mv : Nat → Int32) (ik : Int32) (td : Int32) (bg : Int32) (en : Int32) (so : Int32) (va : Int32) (iw : Int32) (im : Int32) (st : Int32) (ht : Int32) (v1 : Int32) (v2 : Int32) (z0 : Int32) (z1 : Nat → Int32) (z2 : Nat → Int32) (h : fX5_list nw fd v1 v2 = some (z0, z1, z2)) (hD0 : va_D (fun _ => True) (wX5 cI cS a0 a1 a2 a3 a4 a5 a6 a7 a8 a9 a10 a11 nw kp ad fd tp kn it wd sz nm mv ik td bg en so va iw im st ht)) : Met l yX5_list wsX5_list rmX5_list (PZ D cI cS [.ref a0, .int v1, .int v2] (fun U => va_P D vwCl (wX5 cI cS a0 a1 a2 a3 a4 a5 a6 a7 a8 a9 a10 a11 nw kp ad fd tp kn it wd sz nm mv ik td bg en so va iw im st ht) U.heap)) (qI D (wX5 cI cS a0 a1 a2 a3 a4 a5 a6 a7 a8 a9 a10 a11 nw kp ad fd tp kn it wd sz nm mv ik td bg en so va iw im st ht) (wX5 cI cS a0 a1 a2 a3 a4 a5 a6 a7 a8 a9 a10 a11 z1 kp ad z2 tp kn it wd sz nm mv ik td bg en so va iw im st ht) z0) 0 0 (wA (wX5 cI cS a0 a1 a2 a3 a4 a5 a6 a7 a8 a9 a10 a11 nw kp ad fd tp kn it wd sz nm mv ik td bg en so va iw im st ht)) := by
  refine Met.mk RX5 (by decide) rfl rfl (Nat.le_of_ble_eq_true rfl) ?_
  intro p e s m below meth c ls C0 hP hl
  have hl : lv_has ls 3 [(0, .ref a0), (1, .int v1), (2, .int v2)] := hl
  obtain ⟨hx, hb, hr, hml, hown, hts, hlk, hE⟩ := id C0
  have hD : ∀ W : va_W, W.map Prod.fst = [a0, a1, a2, a3, a4, a5, a6, a7, a8, a9, a10, a11] → va_D (wA (wX5 cI cS a0 a1 a2 a3 a4 a5 a6 a7 a8 a9 a10 a11 nw kp ad fd tp kn it wd sz nm mv ik td bg en so va iw im st ht)) W := fun W hW => hD0.own.re hW
  have hS : va_S (wA (wX5 cI cS a0 a1 a2 a3 a4 a5 a6 a7 a8 a9 a10 a11 nw kp ad fd tp kn it wd sz nm mv ik td bg en so va iw im st ht)) s.heap s.heap [] := va_S.rf
  have hP : va_P D vwCl (wX5 cI cS a0 a1 a2 a3 a4 a5 a6 a7 a8 a9 a10 a11 nw kp ad fd tp kn it wd sz nm mv ik td bg en so va iw im st ht) s.heap := hP
  rw [fX5_list] at h
  refine lv_iload_n hx hb dX5_list_0 rfl (lv_at hl 1 rfl) ?_
  refine kRi (rS C0 (tX5_isPlace l D cI cS v1 (fX5_isPlace v1) rfl) gX5_list_X5_isPlace rfl ⟨rfl, rfl⟩ pdX5_isPlace rfl ⟨Nat.le_of_ble_eq_true rfl, Nat.le_of_ble_eq_true rfl⟩ (fun _ _ _ _ q => q) (fun _ _ _ _ => vp0) hl.1 rfl (Nat.le_of_ble_eq_true rfl) dX5_list_1 ⟨Nat.zero_le _, Nat.zero_le _⟩) ?_
  refine lv_if_eq (tgt := 28) hx hb dX5_list_4 (by decide) (fun c_1 => ?_) (fun c_1 => ?_)
  · have h := ifp c_1 h
    refine lv_aload_n hx hb dX5_list_28 rfl (lv_at hl 0 rfl) ?_
    refine lv_ldc (v := (-1000001)) hx hb hown (hts _ (List.mem_of_getElem? (i := 1) rfl)) dX5_list_29 ?_
    obtain ⟨z_2, e_3, h⟩ := bds h
    have hPc := hP.sub (ws' := (wX5 cI cS a0 a1 a2 a3 a4 a5 a6 a7 a8 a9 a10 a11 nw kp ad fd tp kn it wd sz nm mv ik td bg en so va iw im st ht)) [0, 1, 2, 3, 4, 5, 6, 7, 8, 9, 10, 11] rfl
    refine kMi (wf' := (wX5 cI cS a0 a1 a2 a3 a4 a5 a6 a7 a8 a9 a10 a11 nw kp ad z_2.2 tp kn it wd sz nm mv ik td bg en so va iw im st ht)) [0, 1, 2, 3, 4, 5, 6, 7, 8, 9, 10, 11] [some 0, some 1, some 2, some 3, some 4, some 5, some 6, some 7, some 8, some 9, some 10, some 11] (rV C0 (tX5_finding l D cI cS a0 a1 a2 a3 a4 a5 a6 a7 a8 a9 a10 a11 nw kp ad fd tp kn it wd sz nm mv ik td bg en so va iw im st ht (-1000001) z_2.1 z_2.2 e_3 (((hD (wX5 cI cS a0 a1 a2 a3 a4 a5 a6 a7 a8 a9 a10 a11 nw kp ad fd tp kn it wd sz nm mv ik td bg en so va iw im st ht) rfl).sub [0, 1, 2, 3, 4, 5, 6, 7, 8, 9, 10, 11] (by decide) rfl).weaken (fun _ _ _ _ => trivial))) RX5 gX5_list_X5_finding rfl ⟨rfl, rfl⟩ pdX5_finding rfl ⟨Nat.le_of_ble_eq_true rfl, Nat.le_of_ble_eq_true rfl⟩ (fun _ _ _ _ q => q) (va_recv hE.1 hPc (ci := 4) (q0 := 0) rfl rfl) (fun U hU _ _ => by rw [hU]; exact hPc) hl.1 rfl (Nat.le_of_ble_eq_true rfl) dX5_list_31 ⟨Nat.zero_le _, Nat.zero_le _⟩) hP (hD _ rfl) hS rfl rfl rfl (fun H locs hP hS => ?_)
    obtain ⟨q0, g0⟩ := Prod.mk.inj (Option.some.inj h)
    obtain ⟨q1, q2⟩ := Prod.mk.inj g0
    subst q0 q1 q2
    exact eMi C0 hP hS rfl rfl dX5_list_34
  · have h := ifn c_1 h
    refine lv_iload_n hx hb dX5_list_7 rfl (lv_at hl 2 rfl) ?_
    refine lv_iconst (v := 0) hx hb dX5_list_8 (by decide) ?_
    refine lv_bipush (v := 8) hx hb dX5_list_9 (by decide) ?_
    refine kRi (rS C0 (tX5_within l D cI cS v2 0 8 (fX5_within v2 0 8) rfl) gX5_list_X5_within rfl ⟨rfl, rfl⟩ pdX5_within rfl ⟨Nat.le_of_ble_eq_true rfl, Nat.le_of_ble_eq_true rfl⟩ (fun _ _ _ _ q => q) (fun _ _ _ _ => vp0) hl.1 rfl (Nat.le_of_ble_eq_true rfl) dX5_list_11 ⟨Nat.zero_le _, Nat.zero_le _⟩) ?_
    refine lv_if_eq (tgt := 28) hx hb dX5_list_14 (by decide) (fun c_4 => ?_) (fun c_4 => ?_)
    · have h := ifp c_4 h
      refine lv_aload_n hx hb dX5_list_28 rfl (lv_at hl 0 rfl) ?_
      refine lv_ldc (v := (-1000001)) hx hb hown (hts _ (List.mem_of_getElem? (i := 1) rfl)) dX5_list_29 ?_
      obtain ⟨z_5, e_6, h⟩ := bds h
      have hPc := hP.sub (ws' := (wX5 cI cS a0 a1 a2 a3 a4 a5 a6 a7 a8 a9 a10 a11 nw kp ad fd tp kn it wd sz nm mv ik td bg en so va iw im st ht)) [0, 1, 2, 3, 4, 5, 6, 7, 8, 9, 10, 11] rfl
      refine kMi (wf' := (wX5 cI cS a0 a1 a2 a3 a4 a5 a6 a7 a8 a9 a10 a11 nw kp ad z_5.2 tp kn it wd sz nm mv ik td bg en so va iw im st ht)) [0, 1, 2, 3, 4, 5, 6, 7, 8, 9, 10, 11] [some 0, some 1, some 2, some 3, some 4, some 5, some 6, some 7, some 8, some 9, some 10, some 11] (rV C0 (tX5_finding l D cI cS a0 a1 a2 a3 a4 a5 a6 a7 a8 a9 a10 a11 nw kp ad fd tp kn it wd sz nm mv ik td bg en so va iw im st ht (-1000001) z_5.1 z_5.2 e_6 (((hD (wX5 cI cS a0 a1 a2 a3 a4 a5 a6 a7 a8 a9 a10 a11 nw kp ad fd tp kn it wd sz nm mv ik td bg en so va iw im st ht) rfl).sub [0, 1, 2, 3, 4, 5, 6, 7, 8, 9, 10, 11] (by decide) rfl).weaken (fun _ _ _ _ => trivial))) RX5 gX5_list_X5_finding rfl ⟨rfl, rfl⟩ pdX5_finding rfl ⟨Nat.le_of_ble_eq_true rfl, Nat.le_of_ble_eq_true rfl⟩ (fun _ _ _ _ q => q) (va_recv hE.1 hPc (ci := 4) (q0 := 0) rfl rfl) (fun U hU _ _ => by rw [hU]; exact hPc) hl.1 rfl (Nat.le_of_ble_eq_true rfl) dX5_list_31 ⟨Nat.zero_le _, Nat.zero_le _⟩) hP (hD _ rfl) hS rfl rfl rfl (fun H locs hP hS => ?_)
      obtain ⟨q0, g0⟩ := Prod.mk.inj (Option.some.inj h)
      obtain ⟨q1, q2⟩ := Prod.mk.inj g0
      subst q0 q1 q2
      exact eMi C0 hP hS rfl rfl dX5_list_34
    · have h := ifn c_4 h
      refine lv_aload_n hx hb dX5_list_17 rfl (lv_at hl 0 rfl) ?_
      refine lv_iconst (v := 4) hx hb dX5_list_18 (by decide) ?_
      refine lv_iload_n hx hb dX5_list_19 rfl (lv_at hl 1 rfl) ?_
      refine lv_iadd hx hb dX5_list_20 ?_
      refine lv_iload_n hx hb dX5_list_21 rfl (lv_at hl 2 rfl) ?_
      obtain ⟨z_7, e_8, h⟩ := bds h
      have hPc := hP.sub (ws' := (wX5 cI cS a0 a1 a2 a3 a4 a5 a6 a7 a8 a9 a10 a11 nw kp ad fd tp kn it wd sz nm mv ik td bg en so va iw im st ht)) [0, 1, 2, 3, 4, 5, 6, 7, 8, 9, 10, 11] rfl
      refine kMi (wf' := (wX5 cI cS a0 a1 a2 a3 a4 a5 a6 a7 a8 a9 a10 a11 z_7.2 kp ad fd tp kn it wd sz nm mv ik td bg en so va iw im st ht)) [0, 1, 2, 3, 4, 5, 6, 7, 8, 9, 10, 11] [some 0, some 1, some 2, some 3, some 4, some 5, some 6, some 7, some 8, some 9, some 10, some 11] (rV C0 (tX5_become l D cI cS a0 a1 a2 a3 a4 a5 a6 a7 a8 a9 a10 a11 nw kp ad fd tp kn it wd sz nm mv ik td bg en so va iw im st ht (4 + v1) v2 z_7.1 z_7.2 e_8 (((hD (wX5 cI cS a0 a1 a2 a3 a4 a5 a6 a7 a8 a9 a10 a11 nw kp ad fd tp kn it wd sz nm mv ik td bg en so va iw im st ht) rfl).sub [0, 1, 2, 3, 4, 5, 6, 7, 8, 9, 10, 11] (by decide) rfl).weaken (fun _ _ _ _ => trivial))) RX5 gX5_list_X5_become rfl ⟨rfl, rfl⟩ pdX5_become rfl ⟨Nat.le_of_ble_eq_true rfl, Nat.le_of_ble_eq_true rfl⟩ (fun _ _ _ _ q => q) (va_recv hE.1 hPc (ci := 4) (q0 := 0) rfl rfl) (fun U hU _ _ => by rw [hU]; exact hPc) hl.1 rfl (Nat.le_of_ble_eq_true rfl) dX5_list_22 ⟨Nat.zero_le _, Nat.zero_le _⟩) hP (hD _ rfl) hS rfl rfl rfl (fun H locs hP hS => ?_)
      refine lv_goto (tgt := 34) hx hb dX5_list_25 (by decide) ?_
      obtain ⟨q0, g0⟩ := Prod.mk.inj (Option.some.inj h)
      obtain ⟨q1, q2⟩ := Prod.mk.inj g0
      subst q0 q1 q2
      exact eMi C0 hP hS rfl rfl dX5_list_34
def fX5_listed (nw : Nat → Int32) (fd : Nat → Int32) (v1 : Int32) : Option (Int32 × (Nat → Int32)) := (if (fX5_isPlace v1) = 0 then Option.bind (fX5_finding fd (-1000001)) (fun z_2 => some (z_2.1, z_2.2)) else if ¬ ((4 + v1) < 0 ∨ 84 ≤ (4 + v1).toNatClampNeg) then some (nw (4 + v1).toNatClampNeg, fd) else none)
abbrev rmX5_listed : Room := { frames := 2, cells := 0, slots := 0, locals := 42 }
theorem pdX5_listed : (yX5_listed.cls = RX5 ∧ yX5_listed.cls ≠ "java/lang/invoke/MethodHandle" ∧ yX5_listed.cls ≠ "java/lang/invoke/VarHandle" ∧ (parseMethodDescriptor yX5_listed.desc).map (fun d => d.parameters.length) = some 1) := by decide +kernel
set_option maxHeartbeats 4000000 in
set_option maxRecDepth 100000 in
theorem tX5_listed (l : Launch) (D : va_G) (cI cS : ClassId) (a0 a1 a2 a3 a4 a5 a6 a7 a8 a9 a10 a11 : Nat) (nw : Nat → Int32) (kp : Nat → Int32) (ad : Nat → Int32) (fd : Nat → Int32) (tp : Nat → Int32) (kn : Nat → Option Nat) (it : Nat → Int32) (wd : Nat → Int32) (sz : Nat → Int32) (nm : Nat → Int32) (mv : Nat → Int32) (ik : Int32) (td : Int32) (bg : Int32) (en : Int32) (so : Int32) (va : Int32) (iw : Int32) (im : Int32) (st : Int32) (ht : Int32) (v1 : Int32) (z0 : Int32) (z1 : Nat → Int32) (h : fX5_listed nw fd v1 = some (z0, z1)) (hD0 : va_D (fun _ => True) (wX5 cI cS a0 a1 a2 a3 a4 a5 a6 a7 a8 a9 a10 a11 nw kp ad fd tp kn it wd sz nm mv ik td bg en so va iw im st ht)) : Met l yX5_listed wsX5_listed rmX5_listed (PZ D cI cS [.ref a0, .int v1] (fun U => va_P D vwCl (wX5 cI cS a0 a1 a2 a3 a4 a5 a6 a7 a8 a9 a10 a11 nw kp ad fd tp kn it wd sz nm mv ik td bg en so va iw im st ht) U.heap)) (qI D (wX5 cI cS a0 a1 a2 a3 a4 a5 a6 a7 a8 a9 a10 a11 nw kp ad fd tp kn it wd sz nm mv ik td bg en so va iw im st ht) (wX5 cI cS a0 a1 a2 a3 a4 a5 a6 a7 a8 a9 a10 a11 nw kp ad z1 tp kn it wd sz nm mv ik td bg en so va iw im st ht) z0) 0 0 (wA (wX5 cI cS a0 a1 a2 a3 a4 a5 a6 a7 a8 a9 a10 a11 nw kp ad fd tp kn it wd sz nm mv ik td bg en so va iw im st ht)) := by
  refine Met.mk RX5 (by decide) rfl rfl (Nat.le_of_ble_eq_true rfl) ?_
  intro p e s m below meth c ls C0 hP hl
  have hl : lv_has ls 2 [(0, .ref a0), (1, .int v1)] := hl
  obtain ⟨hx, hb, hr, hml, hown, hts, hlk, hE⟩ := id C0
  have hinX5 : ∀ w ∈ u_ws RX5 TX5 21, w ∈ wsX5_listed := by decide +kernel
  have hD : ∀ W : va_W, W.map Prod.fst = [a0, a1, a2, a3, a4, a5, a6, a7, a8, a9, a10, a11] → va_D (wA (wX5 cI cS a0 a1 a2 a3 a4 a5 a6 a7 a8 a9 a10 a11 nw kp ad fd tp kn it wd sz nm mv ik td bg en so va iw im st ht)) W := fun W hW => hD0.own.re hW
  have hS : va_S (wA (wX5 cI cS a0 a1 a2 a3 a4 a5 a6 a7 a8 a9 a10 a11 nw kp ad fd tp kn it wd sz nm mv ik td bg en so va iw im st ht)) s.heap s.heap [] := va_S.rf
  have hP : va_P D vwCl (wX5 cI cS a0 a1 a2 a3 a4 a5 a6 a7 a8 a9 a10 a11 nw kp ad fd tp kn it wd sz nm mv ik td bg en so va iw im st ht) s.heap := hP
  rw [fX5_listed] at h
  refine lv_iload_n hx hb dX5_listed_0 rfl (lv_at hl 1 rfl) ?_
  refine kRi (rS C0 (tX5_isPlace l D cI cS v1 (fX5_isPlace v1) rfl) gX5_listed_X5_isPlace rfl ⟨rfl, rfl⟩ pdX5_isPlace rfl ⟨Nat.le_of_ble_eq_true rfl, Nat.le_of_ble_eq_true rfl⟩ (fun _ _ _ _ q => q) (fun _ _ _ _ => vp0) hl.1 rfl (Nat.le_of_ble_eq_true rfl) dX5_listed_1 ⟨Nat.zero_le _, Nat.zero_le _⟩) ?_
  refine lv_if_eq (tgt := 18) hx hb dX5_listed_4 (by decide) (fun c_1 => ?_) (fun c_1 => ?_)
  · have h := ifp c_1 h
    refine lv_aload_n hx hb dX5_listed_18 rfl (lv_at hl 0 rfl) ?_
    refine lv_ldc (v := (-1000001)) hx hb hown (hts _ (List.mem_of_getElem? (i := 2) rfl)) dX5_listed_19 ?_
    obtain ⟨z_2, e_3, h⟩ := bds h
    have hPc := hP.sub (ws' := (wX5 cI cS a0 a1 a2 a3 a4 a5 a6 a7 a8 a9 a10 a11 nw kp ad fd tp kn it wd sz nm mv ik td bg en so va iw im st ht)) [0, 1, 2, 3, 4, 5, 6, 7, 8, 9, 10, 11] rfl
    refine kMi (wf' := (wX5 cI cS a0 a1 a2 a3 a4 a5 a6 a7 a8 a9 a10 a11 nw kp ad z_2.2 tp kn it wd sz nm mv ik td bg en so va iw im st ht)) [0, 1, 2, 3, 4, 5, 6, 7, 8, 9, 10, 11] [some 0, some 1, some 2, some 3, some 4, some 5, some 6, some 7, some 8, some 9, some 10, some 11] (rV C0 (tX5_finding l D cI cS a0 a1 a2 a3 a4 a5 a6 a7 a8 a9 a10 a11 nw kp ad fd tp kn it wd sz nm mv ik td bg en so va iw im st ht (-1000001) z_2.1 z_2.2 e_3 (((hD (wX5 cI cS a0 a1 a2 a3 a4 a5 a6 a7 a8 a9 a10 a11 nw kp ad fd tp kn it wd sz nm mv ik td bg en so va iw im st ht) rfl).sub [0, 1, 2, 3, 4, 5, 6, 7, 8, 9, 10, 11] (by decide) rfl).weaken (fun _ _ _ _ => trivial))) RX5 gX5_listed_X5_finding rfl ⟨rfl, rfl⟩ pdX5_finding rfl ⟨Nat.le_of_ble_eq_true rfl, Nat.le_of_ble_eq_true rfl⟩ (fun _ _ _ _ q => q) (va_recv hE.1 hPc (ci := 4) (q0 := 0) rfl rfl) (fun U hU _ _ => by rw [hU]; exact hPc) hl.1 rfl (Nat.le_of_ble_eq_true rfl) dX5_listed_21 ⟨Nat.zero_le _, Nat.zero_le _⟩) hP (hD _ rfl) hS rfl rfl rfl (fun H locs hP hS => ?_)
    obtain ⟨q0, q1⟩ := Prod.mk.inj (Option.some.inj h)
    subst q0 q1
    exact eMi C0 hP hS rfl rfl dX5_listed_24
  · have h := ifn c_1 h
    refine lv_aload_n hx hb dX5_listed_7 rfl (lv_at hl 0 rfl) ?_
    refine va_get (D := D) (ci := 4) (v := .ref a1) (C := RX5) (T := TX5) (N := 21) hx hb hts hinX5 hown hE.1 hP 0 rfl rfl 0 (by decide) (hts _ (List.mem_of_getElem? (i := 1) rfl)) (fun _ h9 => h9) rfl dX5_listed_8 ?_
    refine lv_iconst (v := 4) hx hb dX5_listed_11 (by decide) ?_
    refine lv_iload_n hx hb dX5_listed_12 rfl (lv_at hl 1 rfl) ?_
    refine lv_iadd hx hb dX5_listed_13 ?_
    obtain ⟨hi_4, h⟩ := ifs h
    refine va_iald hx hb hE.1 hP 1 0 rfl rfl hi_4 dX5_listed_14 ?_
    refine lv_goto (tgt := 24) hx hb dX5_listed_15 (by decide) ?_
    obtain ⟨q0, q1⟩ := Prod.mk.inj (Option.some.inj h)
    subst q0 q1
    exact eMi C0 hP hS rfl rfl dX5_listed_24
def fX5_placeNow (nw : Nat → Int32) : Int32 := (4 + ((nw 0) - (nw 0) / 6 * 6))
abbrev rmX5_placeNow : Room := { frames := 0, cells := 0, slots := 0, locals := 0 }
theorem pdX5_placeNow : (yX5_placeNow.cls = RX5 ∧ yX5_placeNow.cls ≠ "java/lang/invoke/MethodHandle" ∧ yX5_placeNow.cls ≠ "java/lang/invoke/VarHandle" ∧ (parseMethodDescriptor yX5_placeNow.desc).map (fun d => d.parameters.length) = some 0) := by decide +kernel
set_option maxHeartbeats 4000000 in
set_option maxRecDepth 100000 in
theorem tX5_placeNow (l : Launch) (D : va_G) (cI cS : ClassId) (a0 a1 a2 a3 a4 a5 a6 a7 a8 a9 a10 a11 : Nat) (nw : Nat → Int32) (kp : Nat → Int32) (ad : Nat → Int32) (fd : Nat → Int32) (tp : Nat → Int32) (kn : Nat → Option Nat) (it : Nat → Int32) (wd : Nat → Int32) (sz : Nat → Int32) (nm : Nat → Int32) (mv : Nat → Int32) (ik : Int32) (td : Int32) (bg : Int32) (en : Int32) (so : Int32) (va : Int32) (iw : Int32) (im : Int32) (st : Int32) (ht : Int32) (z0 : Int32) (h : fX5_placeNow nw = z0) : Met l yX5_placeNow wsX5_placeNow rmX5_placeNow (PZ D cI cS [.ref a0] (fun U => va_P D vwCl (wX5 cI cS a0 a1 a2 a3 a4 a5 a6 a7 a8 a9 a10 a11 nw kp ad fd tp kn it wd sz nm mv ik td bg en so va iw im st ht) U.heap)) (vp_Si (fun x => x = z0)) 0 0 (fun _ => False) := by
  refine Met.mk RX5 (by decide) rfl rfl (Nat.le_of_ble_eq_true rfl) ?_
  intro p e s m below meth c ls C0 hP hl
  have hl : lv_has ls 1 [(0, .ref a0)] := hl
  obtain ⟨hx, hb, hr, hml, hown, hts, hlk, hE⟩ := id C0
  have hinX5 : ∀ w ∈ u_ws RX5 TX5 21, w ∈ wsX5_placeNow := by decide +kernel
  rw [fX5_placeNow] at h
  refine lv_iconst (v := 4) hx hb dX5_placeNow_0 (by decide) ?_
  refine lv_aload_n hx hb dX5_placeNow_1 rfl (lv_at hl 0 rfl) ?_
  refine va_get (D := D) (ci := 4) (v := .ref a1) (C := RX5) (T := TX5) (N := 21) hx hb hts hinX5 hown hE.1 hP 0 rfl rfl 0 (by decide) (hts _ (List.mem_of_getElem? (i := 1) rfl)) (fun _ h9 => h9) rfl dX5_placeNow_2 ?_
  refine lv_iconst (v := 0) hx hb dX5_placeNow_5 (by decide) ?_
  refine va_iald hx hb hE.1 hP 1 0 rfl rfl (by unfold vp_in; decide : vp_in 0 84) dX5_placeNow_6 ?_
  refine lv_eqi (y := nw 0) rfl ?_
  refine lv_bipush (v := 6) hx hb dX5_placeNow_7 (by decide) ?_
  refine lv_irem hx hb dX5_placeNow_9 (by decide) ?_
  refine lv_iadd hx hb dX5_placeNow_10 ?_
  exact eRi C0 h dX5_placeNow_11
def fX5_sayingAt (v0 : Int32) (v1 : Int32) : Int32 := ((20 + (5 * v0)) + v1)
abbrev rmX5_sayingAt : Room := { frames := 0, cells := 0, slots := 0, locals := 0 }
theorem pdX5_sayingAt : (yX5_sayingAt.cls ≠ "java/lang/invoke/MethodHandle" ∧ yX5_sayingAt.cls ≠ "java/lang/invoke/VarHandle" ∧ (parseMethodDescriptor yX5_sayingAt.desc).map (fun d => d.parameters.length) = some 2) := by decide +kernel
set_option maxHeartbeats 4000000 in
set_option maxRecDepth 100000 in
theorem tX5_sayingAt (l : Launch) (D : va_G) (cI cS : ClassId) (v0 : Int32) (v1 : Int32) (z0 : Int32) (h : fX5_sayingAt v0 v1 = z0) : Met l yX5_sayingAt wsX5_sayingAt rmX5_sayingAt (PZ D cI cS [.int v0, .int v1] (fun U => va_P D vwCl ([] : va_W) U.heap)) (vp_Si (fun x => x = z0)) 0 0 (fun _ => False) := by
  refine Met.mk RX5 (by decide) rfl rfl (Nat.le_of_ble_eq_true rfl) ?_
  intro p e s m below meth c ls C0 hP hl
  have hl : lv_has ls 2 [(0, .int v0), (1, .int v1)] := hl
  obtain ⟨hx, hb, hr, hml, hown, hts, hlk, hE⟩ := id C0
  rw [fX5_sayingAt] at h
  refine lv_bipush (v := 20) hx hb dX5_sayingAt_0 (by decide) ?_
  refine lv_iconst (v := 5) hx hb dX5_sayingAt_2 (by decide) ?_
  refine lv_iload_n hx hb dX5_sayingAt_3 rfl (lv_at hl 0 rfl) ?_
  refine lv_imul hx hb dX5_sayingAt_4 ?_
  refine lv_iadd hx hb dX5_sayingAt_5 ?_
  refine lv_iload_n hx hb dX5_sayingAt_6 rfl (lv_at hl 1 rfl) ?_
  refine lv_iadd hx hb dX5_sayingAt_7 ?_
  exact eRi C0 h dX5_sayingAt_8
def fX5_sayingIs (nw : Nat → Int32) (v1 : Int32) (v2 : Int32) : Option (Int32) := if ¬ ((fX5_sayingAt v1 v2) < 0 ∨ 84 ≤ (fX5_sayingAt v1 v2).toNatClampNeg) then some (nw (fX5_sayingAt v1 v2).toNatClampNeg) else none
abbrev rmX5_sayingIs : Room := { frames := 1, cells := 0, slots := 0, locals := 21 }
theorem pdX5_sayingIs : (yX5_sayingIs.cls = RX5 ∧ yX5_sayingIs.cls ≠ "java/lang/invoke/MethodHandle" ∧ yX5_sayingIs.cls ≠ "java/lang/invoke/VarHandle" ∧ (parseMethodDescriptor yX5_sayingIs.desc).map (fun d => d.parameters.length) = some 2) := by decide +kernel
set_option maxHeartbeats 4000000 in
set_option maxRecDepth 100000 in
theorem tX5_sayingIs (l : Launch) (D : va_G) (cI cS : ClassId) (a0 a1 a2 a3 a4 a5 a6 a7 a8 a9 a10 a11 : Nat) (nw : Nat → Int32) (kp : Nat → Int32) (ad : Nat → Int32) (fd : Nat → Int32) (tp : Nat → Int32) (kn : Nat → Option Nat) (it : Nat → Int32) (wd : Nat → Int32) (sz : Nat → Int32) (nm : Nat → Int32) (mv : Nat → Int32) (ik : Int32) (td : Int32) (bg : Int32) (en : Int32) (so : Int32) (va : Int32) (iw : Int32) (im : Int32) (st : Int32) (ht : Int32) (v1 : Int32) (v2 : Int32) (z0 : Int32) (h : fX5_sayingIs nw v1 v2 = some z0) : Met l yX5_sayingIs wsX5_sayingIs rmX5_sayingIs (PZ D cI cS [.ref a0, .int v1, .int v2] (fun U => va_P D vwCl (wX5 cI cS a0 a1 a2 a3 a4 a5 a6 a7 a8 a9 a10 a11 nw kp ad fd tp kn it wd sz nm mv ik td bg en so va iw im st ht) U.heap)) (vp_Si (fun x => x = z0)) 0 0 (fun _ => False) := by
  refine Met.mk RX5 (by decide) rfl rfl (Nat.le_of_ble_eq_true rfl) ?_
  intro p e s m below meth c ls C0 hP hl
  have hl : lv_has ls 3 [(0, .ref a0), (1, .int v1), (2, .int v2)] := hl
  obtain ⟨hx, hb, hr, hml, hown, hts, hlk, hE⟩ := id C0
  have hinX5 : ∀ w ∈ u_ws RX5 TX5 21, w ∈ wsX5_sayingIs := by decide +kernel
  rw [fX5_sayingIs] at h
  refine lv_aload_n hx hb dX5_sayingIs_0 rfl (lv_at hl 0 rfl) ?_
  refine va_get (D := D) (ci := 4) (v := .ref a1) (C := RX5) (T := TX5) (N := 21) hx hb hts hinX5 hown hE.1 hP 0 rfl rfl 0 (by decide) (hts _ (List.mem_of_getElem? (i := 1) rfl)) (fun _ h9 => h9) rfl dX5_sayingIs_1 ?_
  refine lv_iload_n hx hb dX5_sayingIs_4 rfl (lv_at hl 1 rfl) ?_
  refine lv_iload_n hx hb dX5_sayingIs_5 rfl (lv_at hl 2 rfl) ?_
  refine kRi (rS C0 (tX5_sayingAt l D cI cS v1 v2 (fX5_sayingAt v1 v2) rfl) gX5_sayingIs_X5_sayingAt rfl ⟨rfl, rfl⟩ pdX5_sayingAt rfl ⟨Nat.le_of_ble_eq_true rfl, Nat.le_of_ble_eq_true rfl⟩ (fun _ _ _ _ q => q) (fun _ _ _ _ => vp0) hl.1 rfl (Nat.le_of_ble_eq_true rfl) dX5_sayingIs_6 ⟨Nat.zero_le _, Nat.zero_le _⟩) ?_
  obtain ⟨hi_1, h⟩ := ifs h
  refine va_iald hx hb hE.1 hP 1 0 rfl rfl hi_1 dX5_sayingIs_9 ?_
  exact eRi C0 (Option.some.inj h) dX5_sayingIs_10
def fX5_isSaying (nw : Nat → Int32) (v1 : Int32) : Int32 := (fX5_within v1 0 ((nw 1) - 1))
abbrev rmX5_isSaying : Room := { frames := 1, cells := 0, slots := 0, locals := 22 }
theorem pdX5_isSaying : (yX5_isSaying.cls = RX5 ∧ yX5_isSaying.cls ≠ "java/lang/invoke/MethodHandle" ∧ yX5_isSaying.cls ≠ "java/lang/invoke/VarHandle" ∧ (parseMethodDescriptor yX5_isSaying.desc).map (fun d => d.parameters.length) = some 1) := by decide +kernel
set_option maxHeartbeats 4000000 in
set_option maxRecDepth 100000 in
theorem tX5_isSaying (l : Launch) (D : va_G) (cI cS : ClassId) (a0 a1 a2 a3 a4 a5 a6 a7 a8 a9 a10 a11 : Nat) (nw : Nat → Int32) (kp : Nat → Int32) (ad : Nat → Int32) (fd : Nat → Int32) (tp : Nat → Int32) (kn : Nat → Option Nat) (it : Nat → Int32) (wd : Nat → Int32) (sz : Nat → Int32) (nm : Nat → Int32) (mv : Nat → Int32) (ik : Int32) (td : Int32) (bg : Int32) (en : Int32) (so : Int32) (va : Int32) (iw : Int32) (im : Int32) (st : Int32) (ht : Int32) (v1 : Int32) (z0 : Int32) (h : fX5_isSaying nw v1 = z0) : Met l yX5_isSaying wsX5_isSaying rmX5_isSaying (PZ D cI cS [.ref a0, .int v1] (fun U => va_P D vwCl (wX5 cI cS a0 a1 a2 a3 a4 a5 a6 a7 a8 a9 a10 a11 nw kp ad fd tp kn it wd sz nm mv ik td bg en so va iw im st ht) U.heap)) (vp_Si (fun x => x = z0)) 0 0 (fun _ => False) := by
  refine Met.mk RX5 (by decide) rfl rfl (Nat.le_of_ble_eq_true rfl) ?_
  intro p e s m below meth c ls C0 hP hl
  have hl : lv_has ls 2 [(0, .ref a0), (1, .int v1)] := hl
  obtain ⟨hx, hb, hr, hml, hown, hts, hlk, hE⟩ := id C0
  have hinX5 : ∀ w ∈ u_ws RX5 TX5 21, w ∈ wsX5_isSaying := by decide +kernel
  rw [fX5_isSaying] at h
  refine lv_iload_n hx hb dX5_isSaying_0 rfl (lv_at hl 1 rfl) ?_
  refine lv_iconst (v := 0) hx hb dX5_isSaying_1 (by decide) ?_
  refine lv_aload_n hx hb dX5_isSaying_2 rfl (lv_at hl 0 rfl) ?_
  refine va_get (D := D) (ci := 4) (v := .ref a1) (C := RX5) (T := TX5) (N := 21) hx hb hts hinX5 hown hE.1 hP 0 rfl rfl 0 (by decide) (hts _ (List.mem_of_getElem? (i := 1) rfl)) (fun _ h9 => h9) rfl dX5_isSaying_3 ?_
  refine lv_iconst (v := 1) hx hb dX5_isSaying_6 (by decide) ?_
  refine va_iald hx hb hE.1 hP 1 0 rfl rfl (by unfold vp_in; decide : vp_in 1 84) dX5_isSaying_7 ?_
  refine lv_eqi (y := nw 1) rfl ?_
  refine lv_iconst (v := 1) hx hb dX5_isSaying_8 (by decide) ?_
  refine lv_isub hx hb dX5_isSaying_9 ?_
  refine kRi (rS C0 (tX5_within l D cI cS v1 0 ((nw 1) - 1) (fX5_within v1 0 ((nw 1) - 1)) rfl) gX5_isSaying_X5_within rfl ⟨rfl, rfl⟩ pdX5_within rfl ⟨Nat.le_of_ble_eq_true rfl, Nat.le_of_ble_eq_true rfl⟩ (fun _ _ _ _ q => q) (fun _ _ _ _ => vp0) hl.1 rfl (Nat.le_of_ble_eq_true rfl) dX5_isSaying_10 ⟨Nat.zero_le _, Nat.zero_le _⟩) ?_
  exact eRz C0 (zzX5_within ..) h dX5_isSaying_13
theorem zzX5_isSaying (nw : Nat → Int32) (v1 : Int32) : narrow .boolean (.int (fX5_isSaying nw v1)) = .int (fX5_isSaying nw v1) := zzX5_within ..
