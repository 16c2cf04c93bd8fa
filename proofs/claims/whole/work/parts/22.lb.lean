/-! THE LAW: its world, a call on one of its two objects, an argument out of the script -/
def R_law : String := "VaguePortLaw"
def lw_P (b : Addr) (xs : List Int32) (args : Array Value) (s : State) : Prop := args = #[.ref b] ∧ s.IntsAt b xs ∧ xs.length ≤ 3072 ∧ (Jvm.Cond.and given_1 narrow_1).before args s = true
def lw_Q (_ : Array Value) (s : State) (o : Outcome) (t : State) : Prop := o = .returned (some (.int 1)) ∧ Framed s o t [] 35 1791
def lw_Z (below : List Frame) (a : Array Value) (s : State) : State → Prop := fun t => ∃ o, t.status = .running ∧ Ended t below o ∧ lw_Q a s o t
/-- the law's own end, with 1 on the stack, nothing written that was there before, its room as the claim has it -/
theorem lw_ret {p : Program} {l : Launch} {e : Env} {s : State} {m : MethodId} {below : List Frame} {meth : Method} {c : Code} {b : Nat} (hx : p.tables.exec = Jvm.exec) (hb : c.code = code) (hr : meth.sig.returnType = ret) (hlocks : meth.locks = false) {pc : Nat} {H : Heap} {ls : Array Slot} (hdg : decode code pc = .ok (.ireturn, 1)) : W p l e room_1 s m #[Value.ref b] below meth c H [] 35 1791 (lw_Z below #[Value.ref b] s) (F0 m pc ls [.int 1]) := by
  intro T hT X
  obtain ⟨fs, hret, hrun, hended, hW, hframe⟩ := X.leave (v := some (.int 1)) (hlocks := hlocks) (fun h => by rw [hr] at h; cases h)
  have hmeth' : T.vm.method? m = some meth := X.method'
  refine ⟨T.setFrames fs, ?_, .returned (some (.int 1)), hrun, hended, rfl, ⟨_, rfl⟩, hW, hframe⟩
  jvm_step X.here [X.here.top, hx, hb, hdg, hmeth', hr, ret, narrow_b1]
  (try refine ⟨rfl, ?_⟩); (try refine ⟨rfl, ?_⟩)
  first | (intro acts; rw [hret _ acts rfl rfl rfl]) | rw [hret _ _ rfl rfl rfl]
  exact Steps.refl _
/-- what holds at the law's entry: the machine, the code, the tables' words (any of lw_tbl by 'hts w (by decide +kernel)'), the script of L ints xs at the cell b, what the Statement gives of the start (any of its parts by flat_of_before) -/
def lw_At (p : Program) (s : State) (m : MethodId) (meth : Method) (c : Code) (b L : Nat) (xs : Nat → Int32) : Prop :=
  p.tables.exec = Jvm.exec ∧ c.code = code ∧ meth.sig.returnType = ret ∧ c.maxLocals = 4 ∧ s.vm.findClass R_law = some m.cls ∧ (∀ w ∈ lw_tbl, w.before #[Value.ref b] s = true) ∧ va_X b L xs s s.heap ∧ b < s.heap.size ∧ meth.locks = false ∧ (Jvm.Cond.and given_1 narrow_1).before #[Value.ref b] s = true
def lA (s : State) : Nat → Prop := fun q => s.heap.size ≤ q
theorem lA.of {s : State} {ws : va_W} (hD : va_D (lA s) ws) (q : Nat) (h : wA ws q) : lA s q := by
  obtain ⟨k, e, hk⟩ := h.of
  exact hD.2 k _ hk
def LI (D : va_G) (cI cS : ClassId) (cs : CSt) (A : Nat → Prop) (a0 e0 : Nat) (H : Heap) : Prop :=
  ∃ (a1 a2 a3 a4 a5 a6 a7 a8 a9 a10 a11 a12 a13 a14 a15 a16 a17 a18 a19 a20 a21 a22 e1 e2 e3 e4 e5 e6 e7 e8 e9 e10 e11 : Nat) (ppl psp psy psh tpl tsp tsy tsh kpl ksp ksy ksh bs bt sz nm fd : Nat → Int32) (ik psc pnc pdy pzz tsc tnc tdy tzz ksc knc kdy kzz ln so be en va : Int32) (nw kp ad fm tp : Nat → Int32) (kn : Nat → Option Nat) (it wd mz mn mv : Nat → Int32) (mi td bg eg sg vg iw im st ht : Int32), va_P D vwCl (wX4 cI cS a0 a1 a2 a3 a4 a5 a6 a7 a8 a9 a10 a11 a12 a13 a14 a15 a16 a17 a18 a19 a20 a21 a22 ppl psp psy psh tpl tsp tsy tsh kpl ksp ksy ksh bs bt sz nm fd ik psc pnc pdy pzz tsc tnc tdy tzz ksc knc kdy kzz ln so be en va) H ∧ va_P D vwCl (wX5 cI cS e0 e1 e2 e3 e4 e5 e6 e7 e8 e9 e10 e11 nw kp ad fm tp kn it wd mz mn mv mi td bg eg sg vg iw im st ht) H ∧ va_D A (wX4 cI cS a0 a1 a2 a3 a4 a5 a6 a7 a8 a9 a10 a11 a12 a13 a14 a15 a16 a17 a18 a19 a20 a21 a22 ppl psp psy psh tpl tsp tsy tsh kpl ksp ksy ksh bs bt sz nm fd ik psc pnc pdy pzz tsc tnc tdy tzz ksc knc kdy kzz ln so be en va) ∧ va_D A (wX5 cI cS e0 e1 e2 e3 e4 e5 e6 e7 e8 e9 e10 e11 nw kp ad fm tp kn it wd mz mn mv mi td bg eg sg vg iw im st ht) ∧ (∀ q, q ∈ [a0, a1, a2, a3, a4, a5, a6, a7, a8, a9, a10, a11, a12, a13, a14, a15, a16, a17, a18, a19, a20, a21, a22] → ¬ q ∈ [e0, e1, e2, e3, e4, e5, e6, e7, e8, e9, e10, e11]) ∧ (∀ k : Nat, k < 7 → kn k = some (cs.1 k)) ∧ AG ppl psp psy psh kpl ksp ksy ksh bs bt sz nm fd ik psc pnc pdy pzz ksc knc kdy kzz ln nw kp fm tp wd mz mn mi td
theorem LI.mk {D : va_G} {cI cS : ClassId} {cs : CSt} {A : Nat → Prop} {a0 e0 : Nat} {H : Heap} {a1 a2 a3 a4 a5 a6 a7 a8 a9 a10 a11 a12 a13 a14 a15 a16 a17 a18 a19 a20 a21 a22 e1 e2 e3 e4 e5 e6 e7 e8 e9 e10 e11 : Nat} {ppl psp psy psh tpl tsp tsy tsh kpl ksp ksy ksh bs bt sz nm fd : Nat → Int32} {ik psc pnc pdy pzz tsc tnc tdy tzz ksc knc kdy kzz ln so be en va : Int32} {nw kp ad fm tp : Nat → Int32} {kn : Nat → Option Nat} {it wd mz mn mv : Nat → Int32} {mi td bg eg sg vg iw im st ht : Int32} (hP4 : va_P D vwCl (wX4 cI cS a0 a1 a2 a3 a4 a5 a6 a7 a8 a9 a10 a11 a12 a13 a14 a15 a16 a17 a18 a19 a20 a21 a22 ppl psp psy psh tpl tsp tsy tsh kpl ksp ksy ksh bs bt sz nm fd ik psc pnc pdy pzz tsc tnc tdy tzz ksc knc kdy kzz ln so be en va) H) (hP5 : va_P D vwCl (wX5 cI cS e0 e1 e2 e3 e4 e5 e6 e7 e8 e9 e10 e11 nw kp ad fm tp kn it wd mz mn mv mi td bg eg sg vg iw im st ht) H) (hD4 : va_D A (wX4 cI cS a0 a1 a2 a3 a4 a5 a6 a7 a8 a9 a10 a11 a12 a13 a14 a15 a16 a17 a18 a19 a20 a21 a22 ppl psp psy psh tpl tsp tsy tsh kpl ksp ksy ksh bs bt sz nm fd ik psc pnc pdy pzz tsc tnc tdy tzz ksc knc kdy kzz ln so be en va)) (hD5 : va_D A (wX5 cI cS e0 e1 e2 e3 e4 e5 e6 e7 e8 e9 e10 e11 nw kp ad fm tp kn it wd mz mn mv mi td bg eg sg vg iw im st ht)) (hdis : ∀ q, q ∈ [a0, a1, a2, a3, a4, a5, a6, a7, a8, a9, a10, a11, a12, a13, a14, a15, a16, a17, a18, a19, a20, a21, a22] → ¬ q ∈ [e0, e1, e2, e3, e4, e5, e6, e7, e8, e9, e10, e11]) (hkn : ∀ k : Nat, k < 7 → kn k = some (cs.1 k)) (hAG : AG ppl psp psy psh kpl ksp ksy ksh bs bt sz nm fd ik psc pnc pdy pzz ksc knc kdy kzz ln nw kp fm tp wd mz mn mi td) : LI D cI cS cs A a0 e0 H :=
  ⟨a1, a2, a3, a4, a5, a6, a7, a8, a9, a10, a11, a12, a13, a14, a15, a16, a17, a18, a19, a20, a21, a22, e1, e2, e3, e4, e5, e6, e7, e8, e9, e10, e11, ppl, psp, psy, psh, tpl, tsp, tsy, tsh, kpl, ksp, ksy, ksh, bs, bt, sz, nm, fd, ik, psc, pnc, pdy, pzz, tsc, tnc, tdy, tzz, ksc, knc, kdy, kzz, ln, so, be, en, va, nw, kp, ad, fm, tp, kn, it, wd, mz, mn, mv, mi, td, bg, eg, sg, vg, iw, im, st, ht, hP4, hP5, hD4, hD5, hdis, hkn, hAG⟩
theorem LI.elim {D : va_G} {cI cS : ClassId} {cs : CSt} {A : Nat → Prop} {a0 e0 : Nat} {H : Heap} {M : Prop} (h : LI D cI cS cs A a0 e0 H) (k : ∀ (a1 a2 a3 a4 a5 a6 a7 a8 a9 a10 a11 a12 a13 a14 a15 a16 a17 a18 a19 a20 a21 a22 e1 e2 e3 e4 e5 e6 e7 e8 e9 e10 e11 : Nat) (ppl psp psy psh tpl tsp tsy tsh kpl ksp ksy ksh bs bt sz nm fd : Nat → Int32) (ik psc pnc pdy pzz tsc tnc tdy tzz ksc knc kdy kzz ln so be en va : Int32) (nw kp ad fm tp : Nat → Int32) (kn : Nat → Option Nat) (it wd mz mn mv : Nat → Int32) (mi td bg eg sg vg iw im st ht : Int32), va_P D vwCl (wX4 cI cS a0 a1 a2 a3 a4 a5 a6 a7 a8 a9 a10 a11 a12 a13 a14 a15 a16 a17 a18 a19 a20 a21 a22 ppl psp psy psh tpl tsp tsy tsh kpl ksp ksy ksh bs bt sz nm fd ik psc pnc pdy pzz tsc tnc tdy tzz ksc knc kdy kzz ln so be en va) H → va_P D vwCl (wX5 cI cS e0 e1 e2 e3 e4 e5 e6 e7 e8 e9 e10 e11 nw kp ad fm tp kn it wd mz mn mv mi td bg eg sg vg iw im st ht) H → va_D A (wX4 cI cS a0 a1 a2 a3 a4 a5 a6 a7 a8 a9 a10 a11 a12 a13 a14 a15 a16 a17 a18 a19 a20 a21 a22 ppl psp psy psh tpl tsp tsy tsh kpl ksp ksy ksh bs bt sz nm fd ik psc pnc pdy pzz tsc tnc tdy tzz ksc knc kdy kzz ln so be en va) → va_D A (wX5 cI cS e0 e1 e2 e3 e4 e5 e6 e7 e8 e9 e10 e11 nw kp ad fm tp kn it wd mz mn mv mi td bg eg sg vg iw im st ht) → (∀ q, q ∈ [a0, a1, a2, a3, a4, a5, a6, a7, a8, a9, a10, a11, a12, a13, a14, a15, a16, a17, a18, a19, a20, a21, a22] → ¬ q ∈ [e0, e1, e2, e3, e4, e5, e6, e7, e8, e9, e10, e11]) → (∀ k : Nat, k < 7 → kn k = some (cs.1 k)) → AG ppl psp psy psh kpl ksp ksy ksh bs bt sz nm fd ik psc pnc pdy pzz ksc knc kdy kzz ln nw kp fm tp wd mz mn mi td → M) : M := by
  unfold LI at h
  refine Exists.elim h (fun a1 h => ?_)
  refine Exists.elim h (fun a2 h => ?_)
  refine Exists.elim h (fun a3 h => ?_)
  refine Exists.elim h (fun a4 h => ?_)
  refine Exists.elim h (fun a5 h => ?_)
  refine Exists.elim h (fun a6 h => ?_)
  refine Exists.elim h (fun a7 h => ?_)
  refine Exists.elim h (fun a8 h => ?_)
  refine Exists.elim h (fun a9 h => ?_)
  refine Exists.elim h (fun a10 h => ?_)
  refine Exists.elim h (fun a11 h => ?_)
  refine Exists.elim h (fun a12 h => ?_)
  refine Exists.elim h (fun a13 h => ?_)
  refine Exists.elim h (fun a14 h => ?_)
  refine Exists.elim h (fun a15 h => ?_)
  refine Exists.elim h (fun a16 h => ?_)
  refine Exists.elim h (fun a17 h => ?_)
  refine Exists.elim h (fun a18 h => ?_)
  refine Exists.elim h (fun a19 h => ?_)
  refine Exists.elim h (fun a20 h => ?_)
  refine Exists.elim h (fun a21 h => ?_)
  refine Exists.elim h (fun a22 h => ?_)
  refine Exists.elim h (fun e1 h => ?_)
  refine Exists.elim h (fun e2 h => ?_)
  refine Exists.elim h (fun e3 h => ?_)
  refine Exists.elim h (fun e4 h => ?_)
  refine Exists.elim h (fun e5 h => ?_)
  refine Exists.elim h (fun e6 h => ?_)
  refine Exists.elim h (fun e7 h => ?_)
  refine Exists.elim h (fun e8 h => ?_)
  refine Exists.elim h (fun e9 h => ?_)
  refine Exists.elim h (fun e10 h => ?_)
  refine Exists.elim h (fun e11 h => ?_)
  refine Exists.elim h (fun ppl h => ?_)
  refine Exists.elim h (fun psp h => ?_)
  refine Exists.elim h (fun psy h => ?_)
  refine Exists.elim h (fun psh h => ?_)
  refine Exists.elim h (fun tpl h => ?_)
  refine Exists.elim h (fun tsp h => ?_)
  refine Exists.elim h (fun tsy h => ?_)
  refine Exists.elim h (fun tsh h => ?_)
  refine Exists.elim h (fun kpl h => ?_)
  refine Exists.elim h (fun ksp h => ?_)
  refine Exists.elim h (fun ksy h => ?_)
  refine Exists.elim h (fun ksh h => ?_)
  refine Exists.elim h (fun bs h => ?_)
  refine Exists.elim h (fun bt h => ?_)
  refine Exists.elim h (fun sz h => ?_)
  refine Exists.elim h (fun nm h => ?_)
  refine Exists.elim h (fun fd h => ?_)
  refine Exists.elim h (fun ik h => ?_)
  refine Exists.elim h (fun psc h => ?_)
  refine Exists.elim h (fun pnc h => ?_)
  refine Exists.elim h (fun pdy h => ?_)
  refine Exists.elim h (fun pzz h => ?_)
  refine Exists.elim h (fun tsc h => ?_)
  refine Exists.elim h (fun tnc h => ?_)
  refine Exists.elim h (fun tdy h => ?_)
  refine Exists.elim h (fun tzz h => ?_)
  refine Exists.elim h (fun ksc h => ?_)
  refine Exists.elim h (fun knc h => ?_)
  refine Exists.elim h (fun kdy h => ?_)
  refine Exists.elim h (fun kzz h => ?_)
  refine Exists.elim h (fun ln h => ?_)
  refine Exists.elim h (fun so h => ?_)
  refine Exists.elim h (fun be h => ?_)
  refine Exists.elim h (fun en h => ?_)
  refine Exists.elim h (fun va h => ?_)
  refine Exists.elim h (fun nw h => ?_)
  refine Exists.elim h (fun kp h => ?_)
  refine Exists.elim h (fun ad h => ?_)
  refine Exists.elim h (fun fm h => ?_)
  refine Exists.elim h (fun tp h => ?_)
  refine Exists.elim h (fun kn h => ?_)
  refine Exists.elim h (fun it h => ?_)
  refine Exists.elim h (fun wd h => ?_)
  refine Exists.elim h (fun mz h => ?_)
  refine Exists.elim h (fun mn h => ?_)
  refine Exists.elim h (fun mv h => ?_)
  refine Exists.elim h (fun mi h => ?_)
  refine Exists.elim h (fun td h => ?_)
  refine Exists.elim h (fun bg h => ?_)
  refine Exists.elim h (fun eg h => ?_)
  refine Exists.elim h (fun sg h => ?_)
  refine Exists.elim h (fun vg h => ?_)
  refine Exists.elim h (fun iw h => ?_)
  refine Exists.elim h (fun im h => ?_)
  refine Exists.elim h (fun st h => ?_)
  refine Exists.elim h (fun ht h => ?_)
  exact k a1 a2 a3 a4 a5 a6 a7 a8 a9 a10 a11 a12 a13 a14 a15 a16 a17 a18 a19 a20 a21 a22 e1 e2 e3 e4 e5 e6 e7 e8 e9 e10 e11 ppl psp psy psh tpl tsp tsy tsh kpl ksp ksy ksh bs bt sz nm fd ik psc pnc pdy pzz tsc tnc tdy tzz ksc knc kdy kzz ln so be en va nw kp ad fm tp kn it wd mz mn mv mi td bg eg sg vg iw im st ht h.1 h.2.1 h.2.2.1 h.2.2.2.1 h.2.2.2.2.1 h.2.2.2.2.2.1 h.2.2.2.2.2.2
section ZL
variable {p : Program} {l : Launch} {e : Env} {R : Room} {s : State} {m : MethodId} {args : Array Value} {below : List Frame} {meth : Method} {c : Code} {H H0 : Heap} {locs : List Loc} {cells slots : Nat} {Q : State → Prop} {D : va_G} {rest st0 : List Value} {pc : Nat} {ls : Array Slot}
theorem kLi {A : Nat → Prop} {r : Int32} {a : Array Value} {w4 w4' w5 : va_W} (hr : va_Run p l e R s m args below meth c H locs cells slots 0 0 (F0 m pc ls st0) rest (qI D w4 w4' r a) (wA w4)) (hP5 : va_P D vwCl w5 H) (hD4 : va_D A w4) (hdis : ∀ q, wA w4 q → ¬ wA w5 q) (hS : va_S A H0 H locs)
    (kk : ∀ (H1 : Heap) (locs1 : List Loc), va_P D vwCl w4' H1 → va_P D vwCl w5 H1 → va_S A H0 H1 locs1 → W p l e R s m args below meth c H1 locs1 cells slots Q (F0 m (pc + 3) ls (.int r :: rest))) : W p l e R s m args below meth c H locs cells slots Q (F0 m pc ls st0) := by
  have hA : ∀ q, wA w4 q → A q := fun q h => by obtain ⟨k, e, hk⟩ := h.of; exact hD4.2 k _ hk
  refine va_calli hr hS (fun q _ h => hA q h) hA (fun x u t H1 locs1 ht hvm hw hB hz1 hk1 hS1 => ?_)
  rw [hw]
  exact kk H1 locs1 (by rw [← ht]; exact hB) (hP5.kept fun k q hq => hk1 q.1 (hP5 k q hq).lt (fun h => hdis _ h (wA.at hq))) hS1
theorem kLl {A : Nat → Prop} {r : Int64} {a : Array Value} {w4 w4' w5 : va_W} (hr : va_Run p l e R s m args below meth c H locs cells slots 0 0 (F0 m pc ls st0) rest (qL D w4 w4' r a) (wA w4)) (hP5 : va_P D vwCl w5 H) (hD4 : va_D A w4) (hdis : ∀ q, wA w4 q → ¬ wA w5 q) (hS : va_S A H0 H locs)
    (kk : ∀ (H1 : Heap) (locs1 : List Loc), va_P D vwCl w4' H1 → va_P D vwCl w5 H1 → va_S A H0 H1 locs1 → W p l e R s m args below meth c H1 locs1 cells slots Q (F0 m (pc + 3) ls (.long r :: rest))) : W p l e R s m args below meth c H locs cells slots Q (F0 m pc ls st0) := by
  have hA : ∀ q, wA w4 q → A q := fun q h => by obtain ⟨k, e, hk⟩ := h.of; exact hD4.2 k _ hk
  refine va_calll hr hS (fun q _ h => hA q h) hA (fun x u t H1 locs1 ht hvm hw hB hz1 hk1 hS1 => ?_)
  rw [hw]
  exact kk H1 locs1 (by rw [← ht]; exact hB) (hP5.kept fun k q hq => hk1 q.1 (hP5 k q hq).lt (fun h => hdis _ h (wA.at hq))) hS1
theorem lArg {b L i a0 e0 : Nat} {xs : Nat → Int32} (hx : p.tables.exec = Jvm.exec) (hb : c.code = cL_law) (hX : va_X b L xs s s.heap) (hbl : b < s.heap.size) (hS : va_S (lA s) s.heap H locs) (hl : lv_has ls 4 [(0, .ref b), (1, .ref a0), (2, .ref e0), (3, .int (nI i))]) (hi : i + 6 ≤ L) (hL : L ≤ 3072) {j : Nat} {n : Int} (hj : j < 6) (hv : Int32.ofInt n = nI j)
    (d0 : decode cL_law pc = .ok (.aload_n 0, 1)) (d1 : decode cL_law (pc + 1) = .ok (.iload_n 3, 1)) (d2 : decode cL_law (pc + 1 + 1) = .ok (.iconst n, 1)) (d3 : decode cL_law (pc + 1 + 1 + 1) = .ok (.iadd, 1)) (d4 : decode cL_law (pc + 1 + 1 + 1 + 1) = .ok (.iaload, 1))
    (kk : W p l e R s m args below meth c H locs cells slots Q (F0 m (pc + 1 + 1 + 1 + 1 + 1) ls (.int (xs (i + j)) :: rest))) : W p l e R s m args below meth c H locs cells slots Q (F0 m pc ls rest) := by
  refine lv_aload_n hx hb d0 rfl (lv_at hl 0 rfl) ?_
  refine lv_iload_n hx hb d1 rfl (lv_at hl 3 rfl) ?_
  refine lv_iconst (v := nI j) hx hb d2 hv ?_
  refine lv_iadd hx hb d3 ?_
  rw [nI_add]
  have hlt : i + j < L := by omega
  refine va_sld hx hb hX hbl (fun h => absurd h (Nat.not_le.mpr hbl)) hS (vp_in_nI hlt (by omega)) d4 ?_
  rw [nI_clamp (by omega)]
  exact kk
end ZL
theorem lcmp0 (x : Int64) : lg_cmp x x = 0 := by
  simp [lg_cmp]
