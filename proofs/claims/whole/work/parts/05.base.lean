/-! BASE: the nest mates' words, what every method's start holds, worlds by places, calls -/
def nwL : List Cond := [.fieldLinkNest "VaguePort" 70 "VaguePort$Estuary" "sayingCount" "I" "VaguePort",
  .fieldLinkNest "VaguePort$Tape" 73 "VaguePort$Estuary" "sayingCount" "I" "VaguePort",
  .fieldLinkNest "VaguePort" 79 "VaguePort$Estuary" "shipCount" "I" "VaguePort",
  .fieldLinkNest "VaguePort$Tape" 99 "VaguePort$Estuary" "shipCount" "I" "VaguePort",
  .fieldLinkNest "VaguePort" 124 "VaguePort$Estuary" "day" "I" "VaguePort",
  .fieldLinkNest "VaguePort" 203 "VaguePort$Estuary" "z" "I" "VaguePort",
  .methodLinkNest "VaguePort" 28 ⟨"VaguePort$Tape", "<init>", "()V"⟩ "VaguePort",
  .fieldLinkNest "VaguePort" 206 "VaguePort$Tape" "length" "I" "VaguePort",
  .methodLinkNest "VaguePort" 35 ⟨"VaguePort$Sheets", "<init>", "()V"⟩ "VaguePort",
  .methodLinkNest "VaguePort$Estuary" 49 ⟨"VaguePort", "numberAt", "([II)I"⟩ "VaguePort",
  .methodLinkNest "VaguePort$Estuary" 53 ⟨"VaguePort", "putAt", "([III)V"⟩ "VaguePort",
  .methodLinkNest "VaguePort$Estuary" 57 ⟨"VaguePort", "within", "(III)Z"⟩ "VaguePort",
  .methodLinkNest "VaguePort$Sheets" 25 ⟨"VaguePort", "numberAt", "([II)I"⟩ "VaguePort",
  .methodLinkNest "VaguePort$Tape" 31 ⟨"VaguePort", "putAt", "([III)V"⟩ "VaguePort",
  .methodLinkNest "VaguePort$Tape" 121 ⟨"VaguePort", "numberAt", "([II)I"⟩ "VaguePort",
  .methodLinkNest "VaguePort$Tape" 113 ⟨"VaguePort", "within", "(III)Z"⟩ "VaguePort",
  .methodLinkNest "VaguePort$Sheets" 29 ⟨"VaguePort", "putAt", "([III)V"⟩ "VaguePort",
  .methodLinkNest "VaguePort$Sheets" 36 ⟨"VaguePort", "isSheet", "(I)Z"⟩ "VaguePort"]
theorem nwL_warm {s U : State} (hW : s.WarmedH U.vm) : ∀ w ∈ nwL, va_Nw w s → va_Nw w U := by
  intro w hw h
  simp only [nwL, List.mem_cons, List.not_mem_nil, or_false] at hw
  rcases hw with rfl | rfl | rfl | rfl | rfl | rfl | rfl | rfl | rfl | rfl | rfl | rfl | rfl | rfl | rfl | rfl | rfl | rfl
  all_goals first | exact va_Nw.warmF hW h | exact va_Nw.warmM hW h
theorem nwL_tab : ∀ w ∈ nwL, w.onTables = true := by
  intro w hw
  simp only [nwL, List.mem_cons, List.not_mem_nil, or_false] at hw
  rcases hw with rfl | rfl | rfl | rfl | rfl | rfl | rfl | rfl | rfl | rfl | rfl | rfl | rfl | rfl | rfl | rfl | rfl | rfl
  all_goals rfl
/-- what holds of the tables at every method's start -/
def EV (D : va_G) (cI cS : ClassId) (U : State) : Prop := va_K D vwCl [(cI, .int), (cS, .object "java/lang/String")] U ∧ ∀ w ∈ nwL, va_Nw w U
theorem EV.warm {D : va_G} {cI cS : ClassId} {s U : State} (hW : s.WarmedH U.vm) (h : EV D cI cS s) : EV D cI cS U := ⟨va_K.moved hW.alike h.1, fun w hw => nwL_warm hW w hw (h.2 w hw)⟩
theorem EV.call {D : va_G} {cI cS : ClassId} {U : State} {g : JFrame} {mk : MethodId} {a : Array Value} (h : EV D cI cS U) : EV D cI cS (U.calling g mk a) := ⟨va_K.moved (u := U) (U := U.calling g mk a) (Vm.Alike.refl U.vm) h.1, fun w hw => va_Nw.same (nwL_tab w hw) (u := U) (U := U.calling g mk a) rfl (h.2 w hw)⟩
/-- what a method's walk stands on -/
def CX (p : Program) (s : State) (m : MethodId) (args : Array Value) (meth : Method) (c : Code) (own : String) (cc : ByteArray) (nL : Nat) (rt : Option FieldType) (Ts : List Cond) (D : va_G) (cI cS : ClassId) : Prop :=
  p.tables.exec = Jvm.exec ∧ c.code = cc ∧ meth.sig.returnType = rt ∧ c.maxLocals = nL ∧ s.vm.findClass own = some m.cls ∧ (∀ w ∈ Ts, w.before args s = true) ∧ meth.locks = false ∧ EV D cI cS s
/-- a start: the arguments, the tables, the picture -/
def PZ (D : va_G) (cI cS : ClassId) (av : List Value) (Pz : State → Prop) : Array Value → State → Prop := fun v U => v = av.toArray ∧ EV D cI cS U ∧ Pz U
theorem PZ.blind {D : va_G} {cI cS : ClassId} {av : List Value} {Pz : State → Prop} (hb : ∀ U g mk a, Pz U → Pz (U.calling g mk a)) : FrameBlind (PZ D cI cS av Pz) := fun a U g mk q => ⟨q.1, EV.call q.2.1, hb U g mk a q.2.2⟩
theorem Met.mk {l : Launch} {y : MethodName} {ws ws' : List Cond} {rm : Room} {Qc : Array Value → State → Outcome → State → Prop} {mc ms : Nat} {free : Addr → Prop} {cc : ByteArray} {nL : Nat} {rt : Option FieldType} {D : va_G} {cI cS : ClassId} {av : List Value} {Pz : State → Prop}
    (own : String) (hy : plainName y.cls = true) (ho : y.cls = own) (hw : ws = Cond.code y cc nL rt :: ws') (hn : (lg_sl av).length ≤ nL)
    (body : ∀ p e s m below meth c ls, CX p s m av.toArray meth c own cc nL rt ws D cI cS → Pz s → lv_has ls nL (lv_args 0 av) → W p l e rm s m av.toArray below meth c s.heap [] 0 0 (MQ below Qc av.toArray s mc ms free) (F0 m 0 ls [])) : Met l y ws rm (PZ D cI cS av Pz) Qc mc ms free := by
  subst ho
  refine Met.ofW hy hw ?_
  intro p e s m args below meth c s₁ B hml hv
  obtain ⟨rfl, hE, hz⟩ := hv
  rw [lg_entry_eq]
  exact body p e s m below meth c _ ⟨B.exec, B.bytes, B.returns, hml, findClass_of_methodNamed B.named, atoms_spec (ws := ws) B.pre, B.notSynchronized, hE⟩ hz (lv_entry av hn)
/-- the cells of a world -/
def wA (ws : va_W) : Nat → Prop := fun q => q ∈ ws.map Prod.fst
theorem wA.at {ws : va_W} {k : Nat} {q : Nat × va_E} (h : ws[k]? = some q) : wA ws q.1 := List.mem_map.mpr ⟨q, List.mem_of_getElem? h, rfl⟩
theorem wA.of {ws : va_W} {q : Nat} (h : wA ws q) : ∃ (k : Nat) (e : va_E), ws[k]? = some (q, e) := by
  obtain ⟨⟨a, e⟩, h1, rfl⟩ := List.mem_map.mp h
  obtain ⟨k, hk⟩ := List.getElem?_of_mem h1
  exact ⟨k, e, hk⟩
theorem wA.sub {ws wc : va_W} (isC : List Nat) (hC : isC.map (fun i => ws[i]?) = wc.map some) {q : Nat} (h : wA wc q) : wA ws q := by
  obtain ⟨k, e, h⟩ := h.of
  have h1 : (isC.map (fun i => ws[i]?))[k]? = some (some (q, e)) := by rw [hC, List.getElem?_map, h]; rfl
  rw [List.getElem?_map] at h1
  cases hi : isC[k]? with
  | none => rw [hi] at h1; cases h1
  | some i => rw [hi] at h1; exact wA.at (Option.some.inj h1)
theorem va_D.re {A : Nat → Prop} {ws ws' : va_W} (hD : va_D A ws) (h : ws'.map Prod.fst = ws.map Prod.fst) : va_D A ws' := by
  have key : ∀ (i : Nat) (p : Nat × va_E), ws'[i]? = some p → ∃ e, ws[i]? = some (p.1, e) := by
    intro i p hp
    have h1 : (ws'.map Prod.fst)[i]? = some p.1 := by rw [List.getElem?_map, hp]; rfl
    rw [h, List.getElem?_map] at h1
    cases hi : ws[i]? with
    | none => rw [hi] at h1; cases h1
    | some q => rw [hi] at h1; exact ⟨q.2, by rw [← Option.some.inj h1]⟩
  refine ⟨fun i j p q hp hq hpq => ?_, fun k q hq => ?_⟩
  · obtain ⟨e1, h1⟩ := key i p hp
    obtain ⟨e2, h2⟩ := key j q hq
    exact hD.1 i j _ _ h1 h2 hpq
  · obtain ⟨e1, h1⟩ := key k q hq
    exact hD.2 k (q.1, e1) h1
theorem va_D.own {A : Nat → Prop} {ws : va_W} (hD : va_D A ws) : va_D (wA ws) ws := ⟨hD.1, fun _ _ hk => wA.at hk⟩
/-- a world in which some cells are those of another one -/
def wMix (sel : List (Option Nat)) (wf wc' : va_W) : va_W := List.zipWith (fun s q => match s with | none => q | some j => wc'.getD j q) sel wf
def selOK (sel : List (Option Nat)) (isC : List Nat) (n : Nat) : Bool := (List.range sel.length).all (fun k => match sel.getD k none with | none => !(isC.contains k) | some j => decide (j < n))
theorem wMix_at {sel : List (Option Nat)} {wf wc' : va_W} {isC : List Nat} (hs : selOK sel isC wc'.length = true) {k : Nat} {q : Nat × va_E} (h : (wMix sel wf wc')[k]? = some q) : (∃ j : Nat, wc'[j]? = some q) ∨ (k ∉ isC ∧ wf[k]? = some q) := by
  unfold wMix at h
  rw [List.getElem?_zipWith] at h
  cases hk : sel[k]? with
  | none => rw [hk] at h; simp at h
  | some s =>
    cases hw : wf[k]? with
    | none => rw [hk, hw] at h; simp at h
    | some q0 =>
      rw [hk, hw] at h
      have hlt : k < sel.length := (List.getElem?_eq_some_iff.mp hk).1
      have h1 := List.all_eq_true.mp hs k (List.mem_range.mpr hlt)
      have hg : sel.getD k none = s := by rw [List.getD_eq_getElem?_getD, hk]; rfl
      rw [hg] at h1
      cases s with
      | none =>
        simp only [Option.some.injEq] at h
        subst h
        refine Or.inr ⟨fun hm => ?_, rfl⟩
        simp only [Bool.not_eq_true', List.contains_eq_mem, decide_eq_false_iff_not] at h1
        exact h1 hm
      | some j =>
        simp only [decide_eq_true_eq] at h1
        refine Or.inl ⟨j, ?_⟩
        have h2 : wc'.getD j q0 = q := by simpa using h
        rw [List.getD_eq_getElem?_getD, List.getElem?_eq_getElem h1] at h2
        rw [List.getElem?_eq_getElem h1]
        exact congrArg some h2
/-- behind a call that changed the cells at the places isC -/
theorem wJoin {A1 : Nat → Prop} {D : va_G} {cl : List vw_C} {ws wc wc' ws' : va_W} {H H1 : Heap} (hP : va_P D cl ws H) (hD : va_D A1 ws) (isC : List Nat) (sel : List (Option Nat)) (hC : isC.map (fun i => ws[i]?) = wc.map some)
    (hk : ∀ q : Nat, q < H.size → ¬ wA wc q → H1[q]? = H[q]?) (hP1 : va_P D cl wc' H1) (hs : selOK sel isC wc'.length = true) (hj : ws' = wMix sel ws wc') : va_P D cl ws' H1 := by
  subst hj
  intro k q hq
  rcases wMix_at hs hq with ⟨j, e⟩ | ⟨h1, h2⟩
  · exact hP1 j _ e
  · have ha := hP k q h2
    refine ha.kept (hk q.1 ha.lt fun hw => ?_)
    obtain ⟨j, e, hj⟩ := hw.of
    have h3 : (isC.map (fun i => ws[i]?))[j]? = some (some (q.1, e)) := by rw [hC, List.getElem?_map, hj]; rfl
    rw [List.getElem?_map] at h3
    cases hi : isC[j]? with
    | none => rw [hi] at h3; cases h3
    | some i =>
      rw [hi] at h3
      have hik := hD.1 i k _ _ (Option.some.inj h3) h2 rfl
      subst hik
      exact h1 (List.mem_of_getElem? hi)
/-- an array of a world, as one that is read -/
theorem va_P.X {D : va_G} {cI cS : ClassId} {s : State} {H : Heap} {ws : va_W} (hE : EV D cI cS s) (hP : va_P D vwCl ws H) (k : Nat) {a n : Nat} {f : Nat → Int32} (h : ws[k]? = some (a, .inl (cI, n, .inl f))) : va_X a n f s H :=
  ⟨arrV cI n (fun j => .int (f j)), hP k _ h, (hE.1.2 0 _ rfl).1 n _, (fun q => by cases q), arrV_size .., fun j hj => arrV_read _ _ hj⟩
theorem va_X.call {b L : Nat} {xs : Nat → Int32} {U : State} {g : JFrame} {mk : MethodId} {a : Array Value} (h : va_X b L xs U U.heap) : va_X b L xs (U.calling g mk a) (U.calling g mk a).heap := va_X.moved (u := U) (U := U.calling g mk a) (Vm.Alike.refl U.vm) h
section ZC
variable {p : Program} {l : Launch} {e : Env} {R : Room} {s : State} {m : MethodId} {args : Array Value} {below : List Frame} {meth : Method} {c : Code} {H H0 : Heap} {locs : List Loc} {cells slots : Nat} {Q : State → Prop}
  {own : String} {cc : ByteArray} {nL : Nat} {rt : Option FieldType} {Ts : List Cond} {D : va_G} {cI cS : ClassId}
  {y : MethodName} {ws ws' : List Cond} {rm : Room} {bytes : ByteArray} {maxL index n : Nat} {ret : Option FieldType} {As rest st0 : List Value} {pc : Nat} {ls : Array Slot} {b : Nat}
theorem va_Run.toC {mc ms : Nat} {g : JFrame} {Qa : State → Outcome → State → Prop} {free : Addr → Prop} (h : va_Run p l e R s m args below meth c H locs cells slots mc ms g rest Qa free) : CallRun p l e R s m args below meth c H locs cells slots mc ms g rest Qa free := by
  intro T hT X
  obtain ⟨v, st₀, t, T', L, h0, X', hL, e1, -, hq, st⟩ := h T hT X
  exact ⟨v, st₀, t, T', L, h0, X', hL, e1, hq, st⟩
/-- runs of the four kinds of call, of any contract whose start is PZ -/
theorem rV {Qc : Array Value → State → Outcome → State → Prop} {free : Addr → Prop} {Pz : State → Prop} (C0 : CX p s m args meth c own cc nL rt Ts D cI cS) (hM : Met l y ws rm (PZ D cI cS (.ref b :: As) Pz) Qc 0 0 free) (C : String) (hG : GoodIn Ts (wsV own index C y ws)) (hw : ws = Cond.code y bytes maxL ret :: ws') (hrm : rm.cells = 0 ∧ rm.slots = 0)
    (hd : y.cls = C ∧ y.cls ≠ "java/lang/invoke/MethodHandle" ∧ y.cls ≠ "java/lang/invoke/VarHandle" ∧ (parseMethodDescriptor y.desc).map (fun d => d.parameters.length) = some n) (hn : As.length = n) (hR : rm.frames + 1 ≤ R.frames ∧ 8 + (maxL + 11) + rm.locals ≤ R.locals)
    (hblind : ∀ U g mk a, Pz U → Pz (U.calling g mk a)) (hrecv : ∃ cellB : Cell, H[b]? = some cellB ∧ cellB.vm.isStatics = false ∧ s.vm.findClass C = some cellB.cls) (hPz : ∀ U : State, U.heap = H → s.WarmedH U.vm → EV D cI cS U → Pz U)
    (hsz : ls.size = nL) (hst : st0 = As.reverse ++ .ref b :: rest) (hroom : (rest.map fun v => v.category).sum ≤ 8) (hdg : decode cc pc = .ok (.invokevirtual index, 3)) (hf : cells + 0 ≤ R.cells ∧ slots + 0 ≤ R.slots) :
    va_Run p l e R s m args below meth c H locs cells slots 0 0 (F0 m pc ls st0) rest (Qc (Value.ref b :: As).toArray) free := by
  obtain ⟨hx, hb, hr, hml, hown, hts, hlk, hE⟩ := C0
  exact va_runV (n := n) ⟨hx, hb, hml, hown, hts⟩ hM (cwV n hts hG hw hrm.1 hrm.2 hd hR) ⟨PZ.blind hblind, hrecv, fun U hU hW => ⟨rfl, hE.warm hW, hPz U hU hW (hE.warm hW)⟩⟩ rfl hn hsz hst (lv_room hroom) hdg hf
theorem rS {Qc : Array Value → State → Outcome → State → Prop} {free : Addr → Prop} {Pz : State → Prop} (C0 : CX p s m args meth c own cc nL rt Ts D cI cS) (hM : Met l y ws rm (PZ D cI cS As Pz) Qc 0 0 free) (hG : GoodIn Ts (va_wsS own index y ws)) (hw : ws = Cond.code y bytes maxL ret :: ws') (hrm : rm.cells = 0 ∧ rm.slots = 0)
    (hd : y.cls ≠ "java/lang/invoke/MethodHandle" ∧ y.cls ≠ "java/lang/invoke/VarHandle" ∧ (parseMethodDescriptor y.desc).map (fun d => d.parameters.length) = some n) (hn : As.length = n) (hR : rm.frames + 1 ≤ R.frames ∧ 8 + (maxL + 11) + rm.locals ≤ R.locals)
    (hblind : ∀ U g mk a, Pz U → Pz (U.calling g mk a)) (hPz : ∀ U : State, U.heap = H → s.WarmedH U.vm → EV D cI cS U → Pz U)
    (hsz : ls.size = nL) (hst : st0 = As.reverse ++ rest) (hroom : (rest.map fun v => v.category).sum ≤ 8) (hdg : decode cc pc = .ok (.invokestatic index, 3)) (hf : cells + 0 ≤ R.cells ∧ slots + 0 ≤ R.slots) :
    va_Run p l e R s m args below meth c H locs cells slots 0 0 (F0 m pc ls st0) rest (Qc As.toArray) free := by
  obtain ⟨hx, hb, hr, hml, hown, hts, hlk, hE⟩ := C0
  have ok : ∀ w ∈ va_wsS own index y ws, w.before args s = true := fun w h => hts w (hG w h).1
  exact va_runS (n := n) ⟨hx, hb, hml, hown, hts⟩ hM ⟨callB_of n hts (fun w h => hG w (by unfold va_wsS; exact List.mem_append_right _ h)) hw hrm.1 hrm.2 (ok _ (by simp [va_wsS])) (ok _ (by simp [va_wsS])) hd hR, ok _ (by simp [va_wsS])⟩ ⟨PZ.blind hblind, fun U hU hW => ⟨rfl, hE.warm hW, hPz U hU hW (hE.warm hW)⟩⟩ rfl hn hsz hst (lv_room hroom) hdg hf
theorem rSN {Qc : Array Value → State → Outcome → State → Prop} {free : Addr → Prop} {Pz : State → Prop} (C0 : CX p s m args meth c own cc nL rt Ts D cI cS) (hM : Met l y ws rm (PZ D cI cS As Pz) Qc 0 0 free) (host : String) (hG : GoodIn Ts ws) (hw : ws = Cond.code y bytes maxL ret :: ws') (hrm : rm.cells = 0 ∧ rm.slots = 0) (hnw : Cond.methodLinkNest own index y host ∈ nwL) (hini : Cond.initialized y.cls ∈ Ts) (hstat : Cond.static y ∈ Ts)
    (hd : y.cls ≠ "java/lang/invoke/MethodHandle" ∧ y.cls ≠ "java/lang/invoke/VarHandle" ∧ (parseMethodDescriptor y.desc).map (fun d => d.parameters.length) = some n) (hn : As.length = n) (hR : rm.frames + 1 ≤ R.frames ∧ 8 + (maxL + 11) + rm.locals ≤ R.locals)
    (hblind : ∀ U g mk a, Pz U → Pz (U.calling g mk a)) (hPz : ∀ U : State, U.heap = H → s.WarmedH U.vm → EV D cI cS U → Pz U)
    (hsz : ls.size = nL) (hst : st0 = As.reverse ++ rest) (hroom : (rest.map fun v => v.category).sum ≤ 8) (hdg : decode cc pc = .ok (.invokestatic index, 3)) (hf : cells + 0 ≤ R.cells ∧ slots + 0 ≤ R.slots) :
    va_Run p l e R s m args below meth c H locs cells slots 0 0 (F0 m pc ls st0) rest (Qc As.toArray) free := by
  obtain ⟨hx, hb, hr, hml, hown, hts, hlk, hE⟩ := C0
  exact va_runSN (n := n) ⟨hx, hb, hml, hown, hts⟩ hM ⟨va_cnB n hts hG hw hrm.1 hrm.2 (hE.2 _ hnw) (hts _ hini) hd hR, hts _ hstat, trivial⟩ ⟨PZ.blind hblind, fun U hU hW => ⟨rfl, hE.warm hW, hPz U hU hW (hE.warm hW)⟩⟩ rfl hn hsz hst (lv_room hroom) hdg hf
/-- behind a call that only reads -/
theorem kRi {r : Int32} {a : Array Value} (hr : va_Run p l e R s m args below meth c H locs cells slots 0 0 (F0 m pc ls st0) rest (vp_Si (fun x => x = r) a) (fun _ => False)) (kk : W p l e R s m args below meth c H locs cells slots Q (F0 m (pc + 3) ls (.int r :: rest))) : W p l e R s m args below meth c H locs cells slots Q (F0 m pc ls st0) :=
  vp_callSi hr.toC (fun x hx => by rw [hx]; exact kk)
theorem kRl {r : Int64} {a : Array Value} (hr : va_Run p l e R s m args below meth c H locs cells slots 0 0 (F0 m pc ls st0) rest (vp_Sl (fun x => x = r) a) (fun _ => False)) (kk : W p l e R s m args below meth c H locs cells slots Q (F0 m (pc + 3) ls (.long r :: rest))) : W p l e R s m args below meth c H locs cells slots Q (F0 m pc ls st0) :=
  vp_callSl hr.toC (fun x hx => by rw [hx]; exact kk)
/-- contracts' ends of methods that change cells -/
def qI (D : va_G) (wc wc' : va_W) (r : Int32) : Array Value → State → Outcome → State → Prop := va_Qi (fun x (_ : Unit) => x = r) (fun _ t => va_P D vwCl wc' t.heap) (wA wc)
def qL (D : va_G) (wc wc' : va_W) (r : Int64) : Array Value → State → Outcome → State → Prop := va_Ql (fun x (_ : Unit) => x = r) (fun _ t => va_P D vwCl wc' t.heap) (wA wc)
def qV (D : va_G) (wc wc' : va_W) : Array Value → State → Outcome → State → Prop := va_Qv (fun (_ : Unit) => True) (fun _ t => va_P D vwCl wc' t.heap) (wA wc)
theorem kMi {A : Nat → Prop} {r : Int32} {a : Array Value} {wf wf' wc wc' : va_W} (isC : List Nat) (sel : List (Option Nat)) (hr : va_Run p l e R s m args below meth c H locs cells slots 0 0 (F0 m pc ls st0) rest (qI D wc wc' r a) (wA wc)) (hP : va_P D vwCl wf H) (hD : va_D A wf) (hS : va_S A H0 H locs) (hC : isC.map (fun i => wf[i]?) = wc.map some) (hs : selOK sel isC wc'.length = true) (hj : wf' = wMix sel wf wc')
    (kk : ∀ (H1 : Heap) (locs1 : List Loc), va_P D vwCl wf' H1 → va_S A H0 H1 locs1 → W p l e R s m args below meth c H1 locs1 cells slots Q (F0 m (pc + 3) ls (.int r :: rest))) : W p l e R s m args below meth c H locs cells slots Q (F0 m pc ls st0) := by
  have hA : ∀ q, wA wc q → A q := fun q h => by obtain ⟨k, e, hk⟩ := (wA.sub isC hC h).of; exact hD.2 k _ hk
  refine va_calli hr hS (fun q _ h => hA q h) hA (fun x u t H1 locs1 ht hvm hw hB hz1 hk1 hS1 => ?_)
  rw [hw]
  exact kk H1 locs1 (wJoin hP hD isC sel hC hk1 (by rw [← ht]; exact hB) hs hj) hS1
theorem kMl {A : Nat → Prop} {r : Int64} {a : Array Value} {wf wf' wc wc' : va_W} (isC : List Nat) (sel : List (Option Nat)) (hr : va_Run p l e R s m args below meth c H locs cells slots 0 0 (F0 m pc ls st0) rest (qL D wc wc' r a) (wA wc)) (hP : va_P D vwCl wf H) (hD : va_D A wf) (hS : va_S A H0 H locs) (hC : isC.map (fun i => wf[i]?) = wc.map some) (hs : selOK sel isC wc'.length = true) (hj : wf' = wMix sel wf wc')
    (kk : ∀ (H1 : Heap) (locs1 : List Loc), va_P D vwCl wf' H1 → va_S A H0 H1 locs1 → W p l e R s m args below meth c H1 locs1 cells slots Q (F0 m (pc + 3) ls (.long r :: rest))) : W p l e R s m args below meth c H locs cells slots Q (F0 m pc ls st0) := by
  have hA : ∀ q, wA wc q → A q := fun q h => by obtain ⟨k, e, hk⟩ := (wA.sub isC hC h).of; exact hD.2 k _ hk
  refine va_calll hr hS (fun q _ h => hA q h) hA (fun x u t H1 locs1 ht hvm hw hB hz1 hk1 hS1 => ?_)
  rw [hw]
  exact kk H1 locs1 (wJoin hP hD isC sel hC hk1 (by rw [← ht]; exact hB) hs hj) hS1
theorem kMv {A : Nat → Prop} {a : Array Value} {wf wf' wc wc' : va_W} (isC : List Nat) (sel : List (Option Nat)) (hr : va_Run p l e R s m args below meth c H locs cells slots 0 0 (F0 m pc ls st0) rest (qV D wc wc' a) (wA wc)) (hP : va_P D vwCl wf H) (hD : va_D A wf) (hS : va_S A H0 H locs) (hC : isC.map (fun i => wf[i]?) = wc.map some) (hs : selOK sel isC wc'.length = true) (hj : wf' = wMix sel wf wc')
    (kk : ∀ (H1 : Heap) (locs1 : List Loc), va_P D vwCl wf' H1 → va_S A H0 H1 locs1 → W p l e R s m args below meth c H1 locs1 cells slots Q (F0 m (pc + 3) ls rest)) : W p l e R s m args below meth c H locs cells slots Q (F0 m pc ls st0) := by
  have hA : ∀ q, wA wc q → A q := fun q h => by obtain ⟨k, e, hk⟩ := (wA.sub isC hC h).of; exact hD.2 k _ hk
  refine va_callv hr hS (fun q _ h => hA q h) hA (fun u t H1 locs1 ht hvm hw hB hz1 hk1 hS1 => ?_)
  exact kk H1 locs1 (wJoin hP hD isC sel hC hk1 (by rw [← ht]; exact hB) hs hj) hS1
/-- ends -/
theorem eRi {r v : Int32} (C0 : CX p s m args meth c own cc nL (some .int) Ts D cI cS) (hv : v = r) (hdg : decode cc pc = .ok (.ireturn, 1)) : W p l e R s m args below meth c s.heap [] cells slots (MQ below (vp_Si (fun x => x = r)) args s cells slots (fun _ => False)) (F0 m pc ls [.int v]) := by
  obtain ⟨hx, hb, hr, hml, hown, hts, hlk, hE⟩ := C0
  exact W.iret hx hb hr (fun t ht _ => ⟨v, rfl, hv, ht⟩) (fun q hq => by cases hq) hdg hlk
theorem eRz {r v : Int32} (C0 : CX p s m args meth c own cc nL (some .boolean) Ts D cI cS) (hz : narrow .boolean (.int v) = .int v) (hv : v = r) (hdg : decode cc pc = .ok (.ireturn, 1)) : W p l e R s m args below meth c s.heap [] cells slots (MQ below (vp_Si (fun x => x = r)) args s cells slots (fun _ => False)) (F0 m pc ls [.int v]) := by
  obtain ⟨hx, hb, hr, hml, hown, hts, hlk, hE⟩ := C0
  exact W.zret hx hb hr hz (fun t ht _ => ⟨v, rfl, hv, ht⟩) (fun q hq => by cases hq) hdg hlk
theorem eRl {r v : Int64} (C0 : CX p s m args meth c own cc nL (some .long) Ts D cI cS) (hv : v = r) (hdg : decode cc pc = .ok (.lreturn, 1)) : W p l e R s m args below meth c s.heap [] cells slots (MQ below (vp_Sl (fun x => x = r)) args s cells slots (fun _ => False)) (F0 m pc ls [.long v]) := by
  obtain ⟨hx, hb, hr, hml, hown, hts, hlk, hE⟩ := C0
  exact W.lret hx hb hr (fun t ht _ => ⟨v, rfl, hv, ht⟩) (fun q hq => by cases hq) hdg hlk
theorem eMi {r v : Int32} {wc wc' w2 : va_W} (C0 : CX p s m args meth c own cc nL (some .int) Ts D cI cS) (hP : va_P D vwCl w2 H) (hS : va_S (wA wc) s.heap H locs) (hv : v = r) (hw : w2 = wc') (hdg : decode cc pc = .ok (.ireturn, 1)) : W p l e R s m args below meth c H locs cells slots (MQ below (qI D wc wc' r) args s cells slots (wA wc)) (F0 m pc ls [.int v]) := by
  obtain ⟨hx, hb, hr, hml, hown, hts, hlk, hE⟩ := C0
  subst hw
  exact W.iret hx hb hr (fun t ht _ => ⟨⟨v, (), rfl, hv, by show va_P D vwCl _ t.heap; rw [ht]; exact hP⟩, hS.F ht⟩) hS.2.2 hdg hlk
theorem eMz {r v : Int32} {wc wc' w2 : va_W} (C0 : CX p s m args meth c own cc nL (some .boolean) Ts D cI cS) (hP : va_P D vwCl w2 H) (hS : va_S (wA wc) s.heap H locs) (hz : narrow .boolean (.int v) = .int v) (hv : v = r) (hw : w2 = wc') (hdg : decode cc pc = .ok (.ireturn, 1)) : W p l e R s m args below meth c H locs cells slots (MQ below (qI D wc wc' r) args s cells slots (wA wc)) (F0 m pc ls [.int v]) := by
  obtain ⟨hx, hb, hr, hml, hown, hts, hlk, hE⟩ := C0
  subst hw
  exact W.zret hx hb hr hz (fun t ht _ => ⟨⟨v, (), rfl, hv, by show va_P D vwCl _ t.heap; rw [ht]; exact hP⟩, hS.F ht⟩) hS.2.2 hdg hlk
theorem eMl {r v : Int64} {wc wc' w2 : va_W} (C0 : CX p s m args meth c own cc nL (some .long) Ts D cI cS) (hP : va_P D vwCl w2 H) (hS : va_S (wA wc) s.heap H locs) (hv : v = r) (hw : w2 = wc') (hdg : decode cc pc = .ok (.lreturn, 1)) : W p l e R s m args below meth c H locs cells slots (MQ below (qL D wc wc' r) args s cells slots (wA wc)) (F0 m pc ls [.long v]) := by
  obtain ⟨hx, hb, hr, hml, hown, hts, hlk, hE⟩ := C0
  subst hw
  exact W.lret hx hb hr (fun t ht _ => ⟨⟨v, (), rfl, hv, by show va_P D vwCl _ t.heap; rw [ht]; exact hP⟩, hS.F ht⟩) hS.2.2 hdg hlk
theorem eMv {wc wc' w2 : va_W} (C0 : CX p s m args meth c own cc nL none Ts D cI cS) (hP : va_P D vwCl w2 H) (hS : va_S (wA wc) s.heap H locs) (hw : w2 = wc') (hdg : decode cc pc = .ok (.return_, 1)) : W p l e R s m args below meth c H locs cells slots (MQ below (qV D wc wc') args s cells slots (wA wc)) (F0 m pc ls []) := by
  obtain ⟨hx, hb, hr, hml, hown, hts, hlk, hE⟩ := C0
  subst hw
  exact W.vret hx hb hr (fun t ht _ => ⟨⟨(), rfl, trivial, by show va_P D vwCl _ t.heap; rw [ht]; exact hP⟩, hS.F ht⟩) hS.2.2 hdg hlk
end ZC
/-! decompiled functions: cases of a hypothesis -/
theorem ifp {α : Type} {c : Prop} [Decidable c] {a b : α} {z : α} (h : c) (e : (if c then a else b) = z) : a = z := by rw [if_pos h] at e; exact e
theorem ifn {α : Type} {c : Prop} [Decidable c] {a b : α} {z : α} (h : ¬ c) (e : (if c then a else b) = z) : b = z := by rw [if_neg h] at e; exact e
theorem ifs {α : Type} {c : Prop} [Decidable c] {a : Option α} {z : α} (e : (if c then a else none) = some z) : c ∧ a = some z := by
  by_cases h : c
  · rw [if_pos h] at e; exact ⟨h, e⟩
  · rw [if_neg h] at e; cases e
theorem bds {α β : Type} {x : Option α} {f : α → Option β} {z : β} (e : x.bind f = some z) : ∃ a, x = some a ∧ f a = some z := by
  cases x with
  | none => cases e
  | some a => exact ⟨a, rfl, e⟩
theorem in_of {i : Int32} {n : Nat} (h0 : 0 ≤ i) (h1 : i < Int32.ofNat n) (hn : n < 2 ^ 31) : vp_in i n := by
  have e : (nI n).toInt = (n : Int) := nI_toInt hn
  have h2 := Int32.lt_iff_toInt_lt.mp h1
  have h3 := Int32.le_iff_toInt_le.mp h0
  rw [vp_in_iff]
  have h4 : (0 : Int32).toInt = 0 := by decide
  rw [h4] at h3
  rw [show Int32.ofNat n = nI n from rfl, e] at h2
  exact ⟨h3, h2⟩
theorem in_ofN {i : Int32} {n : Nat} (h0 : ¬ i < 0) (h1 : ¬ Int32.ofNat n ≤ i) (hn : n < 2 ^ 31) : vp_in i n := in_of (Int32.not_lt.mp h0) (Int32.not_le.mp h1) hn
theorem vp0 {D : va_G} {H : Heap} : va_P D vwCl [] H := fun k q h => by simp at h
theorem tb0 {x : Int32} {lo hi : Int} (h : ¬ (lo ≤ x.toInt ∧ x.toInt ≤ hi)) : x.toInt < lo ∨ hi < x.toInt := by omega
theorem tbS {x k : Int32} {a hi : Int} (hk : k.toInt = a) (hne : ¬ x = k) (h : ¬ (a + 1 ≤ x.toInt ∧ x.toInt ≤ hi)) : ¬ (a ≤ x.toInt ∧ x.toInt ≤ hi) := by
  intro hq
  have : x.toInt ≠ a := fun e => hne (Int32.toInt_inj.mp (e.trans hk.symm))
  exact h ⟨by omega, hq.2⟩
theorem tbE {x : Int32} {a hi : Int} (h : hi < a) : ¬ (a ≤ x.toInt ∧ x.toInt ≤ hi) := by omega
theorem lv_eqi {p : Program} {l : Launch} {e : Env} {R : Room} {s : State} {m : MethodId} {args : Array Value} {below : List Frame} {meth : Method} {c : Code} {H : Heap} {locs : List Loc} {cells slots : Nat} {Q : State → Prop} {pc : Nat} {ls : Array Slot} {rest : List Value} {x y : Int32} (h : x = y) (k : W p l e R s m args below meth c H locs cells slots Q (F0 m pc ls (.int y :: rest))) : W p l e R s m args below meth c H locs cells slots Q (F0 m pc ls (.int x :: rest)) := by rw [h]; exact k
