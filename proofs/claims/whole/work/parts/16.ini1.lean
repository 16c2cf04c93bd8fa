/-! CONSTRUCTORS -/
theorem Met.mkI {l : Launch} {y : MethodName} {ws ws' : List Cond} {rm : Room} {Qc : Array Value → State → Outcome → State → Prop} {mc ms : Nat} {free : Addr → Prop} {cc : ByteArray} {nL : Nat} {rt : Option FieldType} {D : va_G} {cI cS : ClassId} {av : List Value} {Pz : State → Prop}
    (own : String) (hy : plainName y.cls = true) (ho : y.cls = own) (hw : ws = Cond.code y cc nL rt :: ws') (hn : (lg_sl av).length ≤ nL)
    (body : ∀ p e s m below meth c ls, CX p s m av.toArray meth c own cc nL rt ws D cI cS → meth.name = y.name → Pz s → lv_has ls nL (lv_args 0 av) → W p l e rm s m av.toArray below meth c s.heap [] 0 0 (MQ below Qc av.toArray s mc ms free) (F0 m 0 ls [])) : Met l y ws rm (PZ D cI cS av Pz) Qc mc ms free := by
  subst ho
  refine Met.ofW hy hw ?_
  intro p e s m args below meth c s₁ B hml hv
  obtain ⟨rfl, hE, hz⟩ := hv
  rw [lg_entry_eq]
  exact body p e s m below meth c _ ⟨B.exec, B.bytes, B.returns, hml, findClass_of_methodNamed B.named, atoms_spec (ws := ws) B.pre, B.notSynchronized, hE⟩ (name_of_methodNamed B.named B.method).1 hz (lv_entry av hn)
/-- what a constructor may change: its own cell, and new ones -/
def zA (h0 sz : Nat) : Nat → Prop := fun q => q = h0 ∨ sz ≤ q
theorem zD1 {h0 sz : Nat} {e : va_E} : va_D (zA h0 sz) [(h0, e)] := by
  refine ⟨fun i j p q hi hj _ => ?_, fun k q h => ?_⟩
  · have h1 := (List.getElem?_eq_some_iff.mp hi).1
    have h2 := (List.getElem?_eq_some_iff.mp hj).1
    simp only [List.length_cons, List.length_nil] at h1 h2
    omega
  · have h1 := (List.getElem?_eq_some_iff.mp h).1
    simp only [List.length_cons, List.length_nil] at h1
    obtain rfl : k = 0 := by omega
    cases h
    exact Or.inl rfl
section ZI
variable {p : Program} {l : Launch} {e : Env} {R : Room} {s : State} {m : MethodId} {args : Array Value} {below : List Frame} {meth : Method} {c : Code} {H H0 : Heap} {locs : List Loc} {cells slots : Nat} {Q : State → Prop}
  {cc : ByteArray} {D : va_G} {cI cS : ClassId} {rest : List Value} {pc : Nat} {ls : Array Slot} {A : Nat → Prop} {ws : va_W}
theorem zNewa (hx : p.tables.exec = Jvm.exec) (hb : c.code = cc) (harr : (Cond.arrayClass .int).before args s = true) (hE : EV D cI cS s) (hP : va_P D vwCl ws H) (hD : va_D A ws) (hS : va_S A H0 H locs) (hA : ∀ q, H0.size ≤ q → A q)
    {n : Int32} {N' : Nat} (hn : ¬ n < 0) (hN : n.toNatClampNeg = N') (hby : N' * componentBytes .int ≤ 536870912) (hcells : cells + 1 ≤ R.cells) (hslots : slots + N' ≤ R.slots) (hdg : decode cc pc = .ok (.newarray .int, 2))
    (kk : ∀ (q : Nat) (H1 : Heap), va_P D vwCl (ws ++ [(q, .inl (cI, N', .inl (fun _ => 0)))]) H1 → va_D A (ws ++ [(q, .inl (cI, N', .inl (fun _ => 0)))]) → va_S A H0 H1 locs → W p l e R s m args below meth c H1 locs (cells + 1) (slots + N') Q (F0 m (pc + 2) ls (.ref q :: rest))) : W p l e R s m args below meth c H locs cells slots Q (F0 m pc ls (.int n :: rest)) :=
  va_newa (atype := .int) hx hb harr rfl hE.1 hP hD hS hA (a0 := (N', .inl (fun _ => 0))) (fun _ => rfl) hn hN hby hcells hslots hdg (fun q cA H1 hK1 hP1 hD1 hS1 => by
    have e1 : s.vm.findClass ("[" ++ FieldType.int.toString) = some cI := (hE.1.2 0 _ rfl).2
    have e2 : s.vm.findClass ("[" ++ FieldType.int.toString) = some cA := (hK1.2 2 _ rfl).2
    obtain rfl : cA = cI := Option.some.inj (e2.symm.trans e1)
    exact kk q H1 hP1 hD1 hS1)
theorem zNewq {own : String} {index : Nat} (hx : p.tables.exec = Jvm.exec) (hb : c.code = cc) (hown : s.vm.findClass own = some m.cls) (hcl : (Cond.classLink own index "java/lang/String").before args s = true) (hover : va_AO "java/lang/String" s) (hE : EV D cI cS s) (hP : va_P D vwCl ws H) (hD : va_D A ws) (hS : va_S A H0 H locs) (hA : ∀ q, H0.size ≤ q → A q)
    {n : Int32} {N' : Nat} (hn : ¬ n < 0) (hN : n.toNatClampNeg = N') (hby : N' * 4 ≤ 536870912) (hcells : cells + 1 ≤ R.cells) (hslots : slots + N' ≤ R.slots) (hdg : decode cc pc = .ok (.anewarray index, 3))
    (kk : ∀ (q : Nat) (H1 : Heap), va_P D vwCl (ws ++ [(q, .inl (cS, N', .inr (.inr (.inr (.inr (fun _ => none))))))]) H1 → va_D A (ws ++ [(q, .inl (cS, N', .inr (.inr (.inr (.inr (fun _ => none))))))]) → va_S A H0 H1 locs → W p l e R s m args below meth c H1 locs (cells + 1) (slots + N') Q (F0 m (pc + 3) ls (.ref q :: rest))) : W p l e R s m args below meth c H locs cells slots Q (F0 m pc ls (.int n :: rest)) :=
  va_newq hx hb hown hcl hover hE.1 hP hD hS hA hn hN hby hcells hslots hdg (fun q cA H1 hK1 hP1 hD1 hS1 => by
    obtain ⟨-, -, -, -, -, e1⟩ := (hE.1.2 1 _ rfl).2
    obtain ⟨-, -, -, -, -, e2⟩ := (hK1.2 2 _ rfl).2
    obtain rfl : cA = cS := Option.some.inj (e2.symm.trans e1)
    exact kk q H1 hP1 hD1 hS1)
end ZI
abbrev rmJ7_fill_53178 : Room := { frames := 0, cells := 0, slots := 0, locals := 0 }
theorem pdJ7_fill_53178 : (yJ7_fill_53178.cls ≠ "java/lang/invoke/MethodHandle" ∧ yJ7_fill_53178.cls ≠ "java/lang/invoke/VarHandle" ∧ (parseMethodDescriptor yJ7_fill_53178.desc).map (fun d => d.parameters.length) = some 2) := by decide +kernel
def fFill (n : Nat) (f : Nat → Int32) (v : Int32) : Nat → Int32 := fun j => if j < n then v else f j
theorem fFill_s (f : Nat → Int32) (v : Int32) (i : Nat) : upd (fFill i f v) i v = fFill (i + 1) f v := by
  funext j
  unfold upd fFill
  by_cases h : j = i
  · subst h; simp
  · by_cases h2 : j < i
    · simp [h, h2, Nat.lt_succ_of_lt h2]
    · simp [h, h2, show ¬ j < i + 1 by omega]
set_option maxHeartbeats 8000000 in
set_option maxRecDepth 100000 in
theorem lJ7_fill {p : Program} {l : Launch} {e : Env} {s : State} {m : MethodId} {av : Array Value} {below : List Frame} {meth : Method} {c : Code} {D : va_G} {cI cS : ClassId} {a n : Nat} {f : Nat → Int32} {v : Int32} (hn : n < 2 ^ 31) (C0 : CX p s m av meth c RJ7 cJ7_fill_53178 4 none wsJ7_fill_53178 D cI cS) :
    ∀ (k i : Nat), i + k = n → ∀ (H : Heap) (locs : List Loc), va_P D vwCl [(a, .inl (cI, n, .inl (fFill i f v)))] H → va_S (wA [(a, .inl (cI, n, .inl f))]) s.heap H locs → ∀ (ls : Array Slot), lv_has ls 4 [(0, .ref a), (1, .int v), (2, .int (nI i)), (3, .int (nI n))] → W p l e rmJ7_fill_53178 s m av below meth c H locs 0 0 (MQ below (qV D [(a, .inl (cI, n, .inl f))] [(a, .inl (cI, n, .inl (fFill n f v)))]) av s 0 0 (wA [(a, .inl (cI, n, .inl f))])) (F0 m 5 ls []) := by
  obtain ⟨hx, hb, hr, hml, hown, hts, hlk, hE⟩ := id C0
  have hD : ∀ g : Nat → Int32, va_D (wA [(a, .inl (cI, n, .inl f))]) [(a, .inl (cI, n, .inl g))] := by
    intro g
    refine ⟨fun i j p q hi hj _ => ?_, fun k q h => ?_⟩
    · have h1 := (List.getElem?_eq_some_iff.mp hi).1
      have h2 := (List.getElem?_eq_some_iff.mp hj).1
      simp only [List.length_cons, List.length_nil] at h1 h2
      omega
    · exact (wA.at h : wA [(a, .inl (cI, n, .inl g))] q.1)
  intro k
  induction k with
  | zero =>
    intro i hi H locs hP hS ls hl
    obtain rfl : i = n := by omega
    refine lv_iload_n hx hb dJ7_fill_53178_5 rfl (lv_at hl 2 rfl) ?_
    refine lv_iload_n hx hb dJ7_fill_53178_6 rfl (lv_at hl 3 rfl) ?_
    refine lv_icmp_ge (tgt := 20) hx hb dJ7_fill_53178_7 (by decide) (fun _ => ?_) (fun c1 => absurd (Int32.le_refl _) c1)
    exact eMv C0 hP hS rfl dJ7_fill_53178_20
  | succ k ih =>
    intro i hi H locs hP hS ls hl
    refine lv_iload_n hx hb dJ7_fill_53178_5 rfl (lv_at hl 2 rfl) ?_
    refine lv_iload_n hx hb dJ7_fill_53178_6 rfl (lv_at hl 3 rfl) ?_
    refine lv_icmp_ge (tgt := 20) hx hb dJ7_fill_53178_7 (by decide) (fun c1 => absurd c1 (nI_ge (by omega) hn)) (fun _ => ?_)
    refine lv_aload_n hx hb dJ7_fill_53178_10 rfl (lv_at hl 0 rfl) ?_
    refine lv_iload_n hx hb dJ7_fill_53178_11 rfl (lv_at hl 2 rfl) ?_
    refine lv_iload_n hx hb dJ7_fill_53178_12 rfl (lv_at hl 1 rfl) ?_
    refine va_iast hx hb hE.1 hP (hD _) hS 0 0 rfl rfl (vp_in_nI (by omega) hn) dJ7_fill_53178_13 (fun H locs hP _ hS => ?_)
    have e1 : upd (fFill i f v) (nI i).toNatClampNeg v = fFill (i + 1) f v := by rw [nI_clamp (by omega)]; exact fFill_s f v i
    have hP : va_P D vwCl [(a, .inl (cI, n, .inl (fFill (i + 1) f v)))] H := by rw [← e1]; exact hP
    refine lv_iinc (v := nI (i + 1)) (lv' := [(2, .int (nI (i + 1))), (0, .ref a), (1, .int v), (3, .int (nI n))]) hx hb dJ7_fill_53178_14 hl (k := 2) rfl (nI_1 i) (by decide) rfl (fun ls hl => ?_)
    refine lv_goto (tgt := 5) hx hb dJ7_fill_53178_17 (by decide) ?_
    exact ih (i + 1) (by omega) H locs hP hS ls (lv_sub hl [1, 2, 0, 3] rfl)
set_option maxHeartbeats 8000000 in
set_option maxRecDepth 100000 in
theorem tJ7_fill_53178 (l : Launch) (D : va_G) (cI cS : ClassId) (a n : Nat) (f : Nat → Int32) (v : Int32) (hn : n < 2 ^ 31) : Met l yJ7_fill_53178 wsJ7_fill_53178 rmJ7_fill_53178 (PZ D cI cS [.ref a, .int v] (fun U => va_P D vwCl [(a, .inl (cI, n, .inl f))] U.heap)) (qV D [(a, .inl (cI, n, .inl f))] [(a, .inl (cI, n, .inl (fFill n f v)))]) 0 0 (wA [(a, .inl (cI, n, .inl f))]) := by
  refine Met.mk RJ7 (by decide) rfl rfl (Nat.le_of_ble_eq_true rfl) ?_
  intro p e s m below meth c ls C0 hP hl
  have hl : lv_has ls 4 [(0, .ref a), (1, .int v)] := hl
  obtain ⟨hx, hb, hr, hml, hown, hts, hlk, hE⟩ := id C0
  refine lv_iconst (v := 0) hx hb dJ7_fill_53178_0 (by decide) ?_
  refine lv_istore_n (lv' := [(2, .int 0), (0, .ref a), (1, .int v)]) hx hb dJ7_fill_53178_1 rfl hl (by decide) rfl (fun ls hl => ?_)
  refine lv_aload_n hx hb dJ7_fill_53178_2 rfl (lv_at hl 1 rfl) ?_
  refine va_alen (v := nI n) hx hb hE.1 hP 0 0 rfl rfl rfl dJ7_fill_53178_3 ?_
  refine lv_istore_n (lv' := [(3, .int (nI n)), (2, .int 0), (0, .ref a), (1, .int v)]) hx hb dJ7_fill_53178_4 rfl hl (by decide) rfl (fun ls hl => ?_)
  have e0 : fFill 0 f v = f := by funext j; simp [fFill]
  exact lJ7_fill hn C0 n 0 (by omega) s.heap [] (by rw [e0]; exact hP) va_S.rf ls (lv_sub hl [2, 3, 1, 0] rfl)
