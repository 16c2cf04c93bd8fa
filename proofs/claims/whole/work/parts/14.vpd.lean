def fX3_isWord_28 (bs : Nat → Int32) (be : Int32) (i1 : Nat) : Nat → Int32 → Option (Int32)
  | 0, _ => none
  | n + 1, v2 => (if (Int32.ofNat (LENS.getD i1 0)) ≤ v2 then some 1 else if ¬ (v2 < 0 ∨ LENS.getD i1 0 ≤ v2.toNatClampNeg) then (if (fX4_numberAt 120 bs (be + v2)) = (CHC i1 v2) then fX3_isWord_28 bs be i1 n (v2 + 1) else some 0) else none)
def fX3_isWord (F : Nat) (bs : Nat → Int32) (so : Int32) (be : Int32) (en : Int32) (i1 : Nat) : Option (Int32) := (if so = 1 then (if (en - be) = (Int32.ofNat (LENS.getD i1 0)) then fX3_isWord_28 bs be i1 F 0 else some 0) else some 0)
abbrev rmX3_isWord : Room := { frames := 4, cells := 0, slots := 0, locals := 85 }
theorem pdX3_isWord : (yX3_isWord.cls = RX3 ∧ yX3_isWord.cls ≠ "java/lang/invoke/MethodHandle" ∧ yX3_isWord.cls ≠ "java/lang/invoke/VarHandle" ∧ (parseMethodDescriptor yX3_isWord.desc).map (fun d => d.parameters.length) = some 1) := by decide +kernel
set_option maxHeartbeats 4000000 in
set_option maxRecDepth 100000 in
theorem lX3_isWord_28 {p : Program} {l : Launch} {e : Env} {s : State} {m : MethodId} {av : Array Value} {below : List Frame} {meth : Method} {c : Code} {D : va_G} {cI cS : ClassId} {a0 a1 : Nat} (C0 : CX p s m av meth c RX3 cX3_isWord 3 (some .boolean) wsX3_isWord D cI cS) (F : Nat) (bs : Nat → Int32) (ln : Int32) (so : Int32) (be : Int32) (en : Int32) (va : Int32) (z0 : Int32) (cs : CSt) {i1 : Nat} (hi1 : i1 < 14) (hCS : CST cs NoA s s.heap) (hP : va_P D vwCl (wX3 cI cS a0 a1 bs ln so be en va) s.heap) : ∀ (n : Nat) (v2 : Int32), ∀ (ls : Array Slot), lv_has ls 3 [(0, .ref a0), (1, .ref (cs.1 i1)), (2, .int v2)] → fX3_isWord_28 bs be i1 n v2 = some z0 → W p l e rmX3_isWord s m av below meth c s.heap [] 0 0 (MQ below (vp_Si (fun x => x = z0)) av s 0 0 (fun _ => False)) (F0 m 28 ls []) := by
  obtain ⟨hx, hb, hr, hml, hown, hts, hlk, hE⟩ := id C0
  have hS : va_S NoA s.heap s.heap [] := va_S.rf
  have hinX3 : ∀ w ∈ u_ws RX3 TX3 6, w ∈ wsX3_isWord := by decide +kernel
  intro n
  induction n with
  | zero =>
    intro v2 ls hl h
    cases (show none = some z0 from h)
  | succ n ih =>
    intro v2 ls hl h
    rw [fX3_isWord_28] at h
    refine lv_iload_n hx hb dX3_isWord_28 rfl (lv_at hl 2 rfl) ?_
    refine lv_aload_n hx hb dX3_isWord_29 rfl (lv_at hl 1 rfl) ?_
    refine kRi (rV C0 (tJ0_length_8abf5 l D cI cS cs i1 hi1) RJ0 gX3_isWord_J0_length_8abf5 rfl ⟨rfl, rfl⟩ pdJ0_length_8abf5 rfl ⟨Nat.le_of_ble_eq_true rfl, Nat.le_of_ble_eq_true rfl⟩ (fun _ _ _ _ q => q.call) (vk_recv (hCS.1 i1 hi1) (i := 0) (by decide) hS) (fun U hU hW _ => by rw [hU]; exact hCS.warm hW) hl.1 rfl (Nat.le_of_ble_eq_true rfl) dX3_isWord_30 ⟨Nat.zero_le _, Nat.zero_le _⟩) ?_
    refine lv_icmp_ge (tgt := 65) hx hb dX3_isWord_33 (by decide) (fun c_3 => ?_) (fun c_3 => ?_)
    · have h := ifp c_3 h
      refine lv_iconst (v := 1) hx hb dX3_isWord_65 (by decide) ?_
      exact eRz C0 rfl (Option.some.inj h) dX3_isWord_66
    · have h := ifn c_3 h
      refine lv_aload_n hx hb dX3_isWord_36 rfl (lv_at hl 0 rfl) ?_
      refine va_get (D := D) (ci := 2) (v := .ref a1) (C := RX3) (T := TX3) (N := 6) hx hb hts hinX3 hown hE.1 hP 0 rfl rfl 0 (by decide) (hts _ (List.mem_of_getElem? (i := 4) rfl)) (fun _ h9 => h9) rfl dX3_isWord_37 ?_
      refine lv_aload_n hx hb dX3_isWord_40 rfl (lv_at hl 0 rfl) ?_
      refine va_get (D := D) (ci := 2) (v := .int be) (C := RX3) (T := TX3) (N := 6) hx hb hts hinX3 hown hE.1 hP 0 rfl rfl 3 (by decide) (hts _ (List.mem_of_getElem? (i := 3) rfl)) (fun _ h9 => h9) rfl dX3_isWord_41 ?_
      refine lv_iload_n hx hb dX3_isWord_44 rfl (lv_at hl 2 rfl) ?_
      refine lv_iadd hx hb dX3_isWord_45 ?_
      refine kRi (rSN C0 (tX4_numberAt l D cI cS a1 120 bs (be + v2) (by decide)) "VaguePort" ggX3_isWord_X4_numberAt rfl ⟨rfl, rfl⟩ (List.mem_of_getElem? (i := 14) rfl) (List.mem_of_getElem? (i := 18) rfl) (List.mem_of_getElem? (i := 17) rfl) pdX4_numberAt rfl ⟨Nat.le_of_ble_eq_true rfl, Nat.le_of_ble_eq_true rfl⟩ (fun _ _ _ _ q => va_X.call q) (fun U hU hW _ => by rw [hU]; exact (hP.X hE 1 rfl).moved hW.alike) hl.1 rfl (Nat.le_of_ble_eq_true rfl) dX3_isWord_46 ⟨Nat.zero_le _, Nat.zero_le _⟩) ?_
      refine lv_aload_n hx hb dX3_isWord_49 rfl (lv_at hl 1 rfl) ?_
      refine lv_iload_n hx hb dX3_isWord_50 rfl (lv_at hl 2 rfl) ?_
      obtain ⟨hj_4, h⟩ := ifs h
      refine kRi (rV C0 (tJ0_charAt_5068e l D cI cS cs i1 hi1 v2 hj_4 (in_lt hj_4 (LEN_ok i1 hi1).1)) RJ0 gX3_isWord_J0_charAt_5068e rfl ⟨rfl, rfl⟩ pdJ0_charAt_5068e rfl ⟨Nat.le_of_ble_eq_true rfl, Nat.le_of_ble_eq_true rfl⟩ (fun _ _ _ _ q => q.call) (vk_recv (hCS.1 i1 hi1) (i := 0) (by decide) hS) (fun U hU hW _ => by rw [hU]; exact hCS.warm hW) hl.1 rfl (Nat.le_of_ble_eq_true rfl) dX3_isWord_51 ⟨Nat.zero_le _, Nat.zero_le _⟩) ?_
      refine lv_icmp_eq (tgt := 59) hx hb dX3_isWord_54 (by decide) (fun c_5 => ?_) (fun c_5 => ?_)
      · have h := ifp c_5 h
        refine lv_iinc (v := v2 + 1) (lv' := [(2, .int (v2 + 1)), (0, .ref a0), (1, .ref (cs.1 i1))]) hx hb dX3_isWord_59 hl (k := 2) rfl rfl (by decide) rfl (fun ls hl => ?_)
        refine lv_goto (tgt := 28) hx hb dX3_isWord_62 (by decide) ?_
        exact ih (v2 + 1) _ (lv_sub hl [1, 2, 0] rfl) h
      · have h := ifn c_5 h
        refine lv_iconst (v := 0) hx hb dX3_isWord_57 (by decide) ?_
        exact eRz C0 rfl (Option.some.inj h) dX3_isWord_58
set_option maxHeartbeats 4000000 in
set_option maxRecDepth 100000 in
theorem tX3_isWord (l : Launch) (D : va_G) (cI cS : ClassId) (cs : CSt) (F : Nat) (a0 a1 : Nat) (bs : Nat → Int32) (ln : Int32) (so : Int32) (be : Int32) (en : Int32) (va : Int32) (i1 : Nat) (z0 : Int32) (h : fX3_isWord F bs so be en i1 = some z0) (hi1 : i1 < 14) : Met l yX3_isWord wsX3_isWord rmX3_isWord (PZ D cI cS [.ref a0, .ref (cs.1 i1)] (fun U => va_P D vwCl (wX3 cI cS a0 a1 bs ln so be en va) U.heap ∧ CST cs NoA U U.heap)) (vp_Si (fun x => x = z0)) 0 0 (fun _ => False) := by
  refine Met.mk RX3 (by decide) rfl rfl (Nat.le_of_ble_eq_true rfl) ?_
  intro p e s m below meth c ls C0 hP hl
  obtain ⟨hP, hCS⟩ := hP
  have hl : lv_has ls 3 [(0, .ref a0), (1, .ref (cs.1 i1))] := hl
  obtain ⟨hx, hb, hr, hml, hown, hts, hlk, hE⟩ := id C0
  have hinX3 : ∀ w ∈ u_ws RX3 TX3 6, w ∈ wsX3_isWord := by decide +kernel
  have hS : va_S NoA s.heap s.heap [] := va_S.rf
  rw [fX3_isWord] at h
  refine lv_aload_n hx hb dX3_isWord_0 rfl (lv_at hl 0 rfl) ?_
  refine va_get (D := D) (ci := 2) (v := .int so) (C := RX3) (T := TX3) (N := 6) hx hb hts hinX3 hown hE.1 hP 0 rfl rfl 2 (by decide) (hts _ (List.mem_of_getElem? (i := 1) rfl)) (fun _ h9 => h9) rfl dX3_isWord_1 ?_
  refine lv_iconst (v := 1) hx hb dX3_isWord_4 (by decide) ?_
  refine lv_icmp_ne (tgt := 24) hx hb dX3_isWord_5 (by decide) (fun c_1 => ?_) (fun c_1 => ?_)
  · have h := ifn c_1 h
    refine lv_iconst (v := 0) hx hb dX3_isWord_24 (by decide) ?_
    exact eRz C0 rfl (Option.some.inj h) dX3_isWord_25
  · have h := ifp c_1 h
    refine lv_aload_n hx hb dX3_isWord_8 rfl (lv_at hl 0 rfl) ?_
    refine va_get (D := D) (ci := 2) (v := .int en) (C := RX3) (T := TX3) (N := 6) hx hb hts hinX3 hown hE.1 hP 0 rfl rfl 4 (by decide) (hts _ (List.mem_of_getElem? (i := 2) rfl)) (fun _ h9 => h9) rfl dX3_isWord_9 ?_
    refine lv_aload_n hx hb dX3_isWord_12 rfl (lv_at hl 0 rfl) ?_
    refine va_get (D := D) (ci := 2) (v := .int be) (C := RX3) (T := TX3) (N := 6) hx hb hts hinX3 hown hE.1 hP 0 rfl rfl 3 (by decide) (hts _ (List.mem_of_getElem? (i := 3) rfl)) (fun _ h9 => h9) rfl dX3_isWord_13 ?_
    refine lv_isub hx hb dX3_isWord_16 ?_
    refine lv_aload_n hx hb dX3_isWord_17 rfl (lv_at hl 1 rfl) ?_
    refine kRi (rV C0 (tJ0_length_8abf5 l D cI cS cs i1 hi1) RJ0 gX3_isWord_J0_length_8abf5 rfl ⟨rfl, rfl⟩ pdJ0_length_8abf5 rfl ⟨Nat.le_of_ble_eq_true rfl, Nat.le_of_ble_eq_true rfl⟩ (fun _ _ _ _ q => q.call) (vk_recv (hCS.1 i1 hi1) (i := 0) (by decide) hS) (fun U hU hW _ => by rw [hU]; exact hCS.warm hW) hl.1 rfl (Nat.le_of_ble_eq_true rfl) dX3_isWord_18 ⟨Nat.zero_le _, Nat.zero_le _⟩) ?_
    refine lv_icmp_eq (tgt := 26) hx hb dX3_isWord_21 (by decide) (fun c_2 => ?_) (fun c_2 => ?_)
    · have h := ifp c_2 h
      refine lv_iconst (v := 0) hx hb dX3_isWord_26 (by decide) ?_
      refine lv_istore_n (lv' := [(2, .int 0), (0, .ref a0), (1, .ref (cs.1 i1))]) hx hb dX3_isWord_27 rfl hl (by decide) rfl (fun ls hl => ?_)
      exact lX3_isWord_28 (l := l) (e := e) (below := below) C0 F bs ln so be en va z0 cs hi1 hCS hP F 0 _ (lv_sub hl [1, 2, 0] rfl) h
    · have h := ifn c_2 h
      refine lv_iconst (v := 0) hx hb dX3_isWord_24 (by decide) ?_
      exact eRz C0 rfl (Option.some.inj h) dX3_isWord_25
def fX3_kindAtHand_2 (F : Nat) (bs : Nat → Int32) (so : Int32) (be : Int32) (en : Int32) : Nat → Int32 → Option (Int32)
  | 0, _ => none
  | n + 1, v1 => (if 7 ≤ v1 then some (-1) else Option.bind (fX3_isWord F bs so be en (fX1_wordOf v1)) (fun z_2 => (if z_2 = 0 then fX3_kindAtHand_2 F bs so be en n (v1 + 1) else some v1)))
def fX3_kindAtHand (F : Nat) (bs : Nat → Int32) (so : Int32) (be : Int32) (en : Int32) : Option (Int32) := fX3_kindAtHand_2 F bs so be en F 0
abbrev rmX3_kindAtHand : Room := { frames := 5, cells := 0, slots := 0, locals := 107 }
theorem pdX3_kindAtHand : (yX3_kindAtHand.cls = RX3 ∧ yX3_kindAtHand.cls ≠ "java/lang/invoke/MethodHandle" ∧ yX3_kindAtHand.cls ≠ "java/lang/invoke/VarHandle" ∧ (parseMethodDescriptor yX3_kindAtHand.desc).map (fun d => d.parameters.length) = some 0) := by decide +kernel
set_option maxHeartbeats 4000000 in
set_option maxRecDepth 100000 in
theorem lX3_kindAtHand_2 {p : Program} {l : Launch} {e : Env} {s : State} {m : MethodId} {av : Array Value} {below : List Frame} {meth : Method} {c : Code} {D : va_G} {cI cS : ClassId} {a0 a1 : Nat} (C0 : CX p s m av meth c RX3 cX3_kindAtHand 2 (some .int) wsX3_kindAtHand D cI cS) (F : Nat) (bs : Nat → Int32) (ln : Int32) (so : Int32) (be : Int32) (en : Int32) (va : Int32) (z0 : Int32) (cs : CSt) (hCS : CST cs NoA s s.heap) (hP : va_P D vwCl (wX3 cI cS a0 a1 bs ln so be en va) s.heap) : ∀ (n : Nat) (v1 : Int32), ∀ (ls : Array Slot), lv_has ls 2 [(0, .ref a0), (1, .int v1)] → fX3_kindAtHand_2 F bs so be en n v1 = some z0 → W p l e rmX3_kindAtHand s m av below meth c s.heap [] 0 0 (MQ below (vp_Si (fun x => x = z0)) av s 0 0 (fun _ => False)) (F0 m 2 ls []) := by
  obtain ⟨hx, hb, hr, hml, hown, hts, hlk, hE⟩ := id C0
  have hS : va_S NoA s.heap s.heap [] := va_S.rf
  intro n
  induction n with
  | zero =>
    intro v1 ls hl h
    cases (show none = some z0 from h)
  | succ n ih =>
    intro v1 ls hl h
    rw [fX3_kindAtHand_2] at h
    refine lv_iload_n hx hb dX3_kindAtHand_2 rfl (lv_at hl 1 rfl) ?_
    refine lv_bipush (v := 7) hx hb dX3_kindAtHand_3 (by decide) ?_
    refine lv_icmp_ge (tgt := 27) hx hb dX3_kindAtHand_5 (by decide) (fun c_1 => ?_) (fun c_1 => ?_)
    · have h := ifp c_1 h
      refine lv_iconst (v := (-1)) hx hb dX3_kindAtHand_27 (by decide) ?_
      exact eRi C0 (Option.some.inj h) dX3_kindAtHand_28
    · have h := ifn c_1 h
      refine lv_aload_n hx hb dX3_kindAtHand_8 rfl (lv_at hl 0 rfl) ?_
      refine lv_iload_n hx hb dX3_kindAtHand_9 rfl (lv_at hl 1 rfl) ?_
      refine kRs (rS C0 (tX1_wordOf l D cI cS cs v1 (fX1_wordOf v1) rfl) gX3_kindAtHand_X1_wordOf rfl ⟨rfl, rfl⟩ pdX1_wordOf rfl ⟨Nat.le_of_ble_eq_true rfl, Nat.le_of_ble_eq_true rfl⟩ (fun _ _ _ _ q => ⟨q.1, q.2.call⟩) (fun U hU hW _ => ⟨vp0, by rw [hU]; exact hCS.warm hW⟩) hl.1 rfl (Nat.le_of_ble_eq_true rfl) dX3_kindAtHand_10 ⟨Nat.zero_le _, Nat.zero_le _⟩) ?_
      obtain ⟨z_2, e_3, h⟩ := bds h
      have hPc := hP.sub (ws' := (wX3 cI cS a0 a1 bs ln so be en va)) [0, 1] rfl
      refine kRi (rV C0 (tX3_isWord l D cI cS cs F a0 a1 bs ln so be en va (fX1_wordOf v1) z_2 e_3 (ltX1_wordOf ..)) RX3 gX3_kindAtHand_X3_isWord rfl ⟨rfl, rfl⟩ pdX3_isWord rfl ⟨Nat.le_of_ble_eq_true rfl, Nat.le_of_ble_eq_true rfl⟩ (fun _ _ _ _ q => ⟨q.1, q.2.call⟩) (va_recv hE.1 hPc (ci := 2) (q0 := 0) rfl rfl) (fun U hU hW _ => ⟨by rw [hU]; exact hPc, by rw [hU]; exact hCS.warm hW⟩) hl.1 rfl (Nat.le_of_ble_eq_true rfl) dX3_kindAtHand_13 ⟨Nat.zero_le _, Nat.zero_le _⟩) ?_
      refine lv_if_eq (tgt := 21) hx hb dX3_kindAtHand_16 (by decide) (fun c_4 => ?_) (fun c_4 => ?_)
      · have h := ifp c_4 h
        refine lv_iinc (v := v1 + 1) (lv' := [(1, .int (v1 + 1)), (0, .ref a0)]) hx hb dX3_kindAtHand_21 hl (k := 1) rfl rfl (by decide) rfl (fun ls hl => ?_)
        refine lv_goto (tgt := 2) hx hb dX3_kindAtHand_24 (by decide) ?_
        exact ih (v1 + 1) _ (lv_sub hl [1, 0] rfl) h
      · have h := ifn c_4 h
        refine lv_iload_n hx hb dX3_kindAtHand_19 rfl (lv_at hl 1 rfl) ?_
        exact eRi C0 (Option.some.inj h) dX3_kindAtHand_20
set_option maxHeartbeats 4000000 in
set_option maxRecDepth 100000 in
theorem tX3_kindAtHand (l : Launch) (D : va_G) (cI cS : ClassId) (cs : CSt) (F : Nat) (a0 a1 : Nat) (bs : Nat → Int32) (ln : Int32) (so : Int32) (be : Int32) (en : Int32) (va : Int32) (z0 : Int32) (h : fX3_kindAtHand F bs so be en = some z0) : Met l yX3_kindAtHand wsX3_kindAtHand rmX3_kindAtHand (PZ D cI cS [.ref a0] (fun U => va_P D vwCl (wX3 cI cS a0 a1 bs ln so be en va) U.heap ∧ CST cs NoA U U.heap)) (vp_Si (fun x => x = z0)) 0 0 (fun _ => False) := by
  refine Met.mk RX3 (by decide) rfl rfl (Nat.le_of_ble_eq_true rfl) ?_
  intro p e s m below meth c ls C0 hP hl
  obtain ⟨hP, hCS⟩ := hP
  have hl : lv_has ls 2 [(0, .ref a0)] := hl
  obtain ⟨hx, hb, hr, hml, hown, hts, hlk, hE⟩ := id C0
  have hS : va_S NoA s.heap s.heap [] := va_S.rf
  rw [fX3_kindAtHand] at h
  refine lv_iconst (v := 0) hx hb dX3_kindAtHand_0 (by decide) ?_
  refine lv_istore_n (lv' := [(1, .int 0), (0, .ref a0)]) hx hb dX3_kindAtHand_1 rfl hl (by decide) rfl (fun ls hl => ?_)
  exact lX3_kindAtHand_2 (l := l) (e := e) (below := below) C0 F bs ln so be en va z0 cs hCS hP F 0 _ (lv_sub hl [1, 0] rfl) h
def fX3_readOption (F : Nat) (bs : Nat → Int32) (ln : Int32) (so : Int32) (be : Int32) (en : Int32) (va : Int32) (i1 : Nat) (v2 : Int32) (v3 : Int32) (v4 : Int32) : Option (Int32 × Int32 × Int32 × Int32 × Int32) := Option.bind (fX3_isWord F bs so be en i1) (fun z_1 => (if z_1 = 0 then some (v4, so, be, en, va) else Option.bind (fX3_advance F bs ln so be en va) (fun z_4 => Option.bind (fX3_readNumber F bs ln z_4.1 z_4.2.1 z_4.2.2.1 z_4.2.2.2 v2 v3) (fun z_6 => some (z_6.1, z_6.2.1, z_6.2.2.1, z_6.2.2.2.1, z_6.2.2.2.2)))))
abbrev rmX3_readOption : Room := { frames := 5, cells := 0, slots := 0, locals := 107 }
theorem pdX3_readOption : (yX3_readOption.cls = RX3 ∧ yX3_readOption.cls ≠ "java/lang/invoke/MethodHandle" ∧ yX3_readOption.cls ≠ "java/lang/invoke/VarHandle" ∧ (parseMethodDescriptor yX3_readOption.desc).map (fun d => d.parameters.length) = some 4) := by decide +kernel
set_option maxHeartbeats 4000000 in
set_option maxRecDepth 100000 in
theorem tX3_readOption (l : Launch) (D : va_G) (cI cS : ClassId) (cs : CSt) (F : Nat) (a0 a1 : Nat) (bs : Nat → Int32) (ln : Int32) (so : Int32) (be : Int32) (en : Int32) (va : Int32) (i1 : Nat) (v2 : Int32) (v3 : Int32) (v4 : Int32) (z0 : Int32) (z1 : Int32) (z2 : Int32) (z3 : Int32) (z4 : Int32) (h : fX3_readOption F bs ln so be en va i1 v2 v3 v4 = some (z0, z1, z2, z3, z4)) (hi1 : i1 < 14) (hD0 : va_D (fun _ => True) (wX3 cI cS a0 a1 bs ln so be en va)) : Met l yX3_readOption wsX3_readOption rmX3_readOption (PZ D cI cS [.ref a0, .ref (cs.1 i1), .int v2, .int v3, .int v4] (fun U => va_P D vwCl (wX3 cI cS a0 a1 bs ln so be en va) U.heap ∧ CST cs (wA (wX3 cI cS a0 a1 bs ln so be en va)) U U.heap)) (qI D (wX3 cI cS a0 a1 bs ln so be en va) (wX3 cI cS a0 a1 bs ln z1 z2 z3 z4) z0) 0 0 (wA (wX3 cI cS a0 a1 bs ln so be en va)) := by
  refine Met.mk RX3 (by decide) rfl rfl (Nat.le_of_ble_eq_true rfl) ?_
  intro p e s m below meth c ls C0 hP hl
  obtain ⟨hP, hCS⟩ := hP
  have hl : lv_has ls 5 [(0, .ref a0), (1, .ref (cs.1 i1)), (2, .int v2), (3, .int v3), (4, .int v4)] := hl
  obtain ⟨hx, hb, hr, hml, hown, hts, hlk, hE⟩ := id C0
  have hD : ∀ W : va_W, W.map Prod.fst = [a0, a1] → va_D (wA (wX3 cI cS a0 a1 bs ln so be en va)) W := fun W hW => hD0.own.re hW
  have hS : va_S (wA (wX3 cI cS a0 a1 bs ln so be en va)) s.heap s.heap [] := va_S.rf
  have hP : va_P D vwCl (wX3 cI cS a0 a1 bs ln so be en va) s.heap := hP
  rw [fX3_readOption] at h
  refine lv_aload_n hx hb dX3_readOption_0 rfl (lv_at hl 0 rfl) ?_
  refine lv_aload_n hx hb dX3_readOption_1 rfl (lv_at hl 1 rfl) ?_
  obtain ⟨z_1, e_2, h⟩ := bds h
  have hPc := hP.sub (ws' := (wX3 cI cS a0 a1 bs ln so be en va)) [0, 1] rfl
  refine kRi (rV C0 (tX3_isWord l D cI cS cs F a0 a1 bs ln so be en va i1 z_1 e_2 hi1) RX3 gX3_readOption_X3_isWord rfl ⟨rfl, rfl⟩ pdX3_isWord rfl ⟨Nat.le_of_ble_eq_true rfl, Nat.le_of_ble_eq_true rfl⟩ (fun _ _ _ _ q => ⟨q.1, q.2.call⟩) (va_recv hE.1 hPc (ci := 2) (q0 := 0) rfl rfl) (fun U hU hW _ => ⟨by rw [hU]; exact hPc, by rw [hU]; exact ((hCS.kept hS.2.1).narrow (fun _ q => q.elim)).warm hW⟩) hl.1 rfl (Nat.le_of_ble_eq_true rfl) dX3_readOption_2 ⟨Nat.zero_le _, Nat.zero_le _⟩) ?_
  refine lv_if_ne (tgt := 11) hx hb dX3_readOption_5 (by decide) (fun c_3 => ?_) (fun c_3 => ?_)
  · have h := ifn c_3 h
    refine lv_aload_n hx hb dX3_readOption_11 rfl (lv_at hl 0 rfl) ?_
    obtain ⟨z_4, e_5, h⟩ := bds h
    have hPc := hP.sub (ws' := (wX3 cI cS a0 a1 bs ln so be en va)) [0, 1] rfl
    refine kMv (wf' := (wX3 cI cS a0 a1 bs ln z_4.1 z_4.2.1 z_4.2.2.1 z_4.2.2.2)) [0, 1] [some 0, some 1] (rV C0 (tX3_advance l D cI cS F a0 a1 bs ln so be en va  z_4.1 z_4.2.1 z_4.2.2.1 z_4.2.2.2 e_5 (((hD (wX3 cI cS a0 a1 bs ln so be en va) rfl).sub [0, 1] (by decide) rfl).weaken (fun _ _ _ _ => trivial))) RX3 gX3_readOption_X3_advance rfl ⟨rfl, rfl⟩ pdX3_advance rfl ⟨Nat.le_of_ble_eq_true rfl, Nat.le_of_ble_eq_true rfl⟩ (fun _ _ _ _ q => q) (va_recv hE.1 hPc (ci := 2) (q0 := 0) rfl rfl) (fun U hU _ _ => by rw [hU]; exact hPc) hl.1 rfl (Nat.le_of_ble_eq_true rfl) dX3_readOption_12 ⟨Nat.zero_le _, Nat.zero_le _⟩) hP (hD _ rfl) hS rfl rfl rfl (fun H locs hP hS => ?_)
    refine lv_aload_n hx hb dX3_readOption_15 rfl (lv_at hl 0 rfl) ?_
    refine lv_iload_n hx hb dX3_readOption_16 rfl (lv_at hl 2 rfl) ?_
    refine lv_iload_n hx hb dX3_readOption_17 rfl (lv_at hl 3 rfl) ?_
    obtain ⟨z_6, e_7, h⟩ := bds h
    have hPc := hP.sub (ws' := (wX3 cI cS a0 a1 bs ln z_4.1 z_4.2.1 z_4.2.2.1 z_4.2.2.2)) [0, 1] rfl
    refine kMi (wf' := (wX3 cI cS a0 a1 bs ln z_6.2.1 z_6.2.2.1 z_6.2.2.2.1 z_6.2.2.2.2)) [0, 1] [some 0, some 1] (rV C0 (tX3_readNumber l D cI cS F a0 a1 bs ln z_4.1 z_4.2.1 z_4.2.2.1 z_4.2.2.2 v2 v3 z_6.1 z_6.2.1 z_6.2.2.1 z_6.2.2.2.1 z_6.2.2.2.2 e_7 (((hD (wX3 cI cS a0 a1 bs ln z_4.1 z_4.2.1 z_4.2.2.1 z_4.2.2.2) rfl).sub [0, 1] (by decide) rfl).weaken (fun _ _ _ _ => trivial))) RX3 gX3_readOption_X3_readNumber rfl ⟨rfl, rfl⟩ pdX3_readNumber rfl ⟨Nat.le_of_ble_eq_true rfl, Nat.le_of_ble_eq_true rfl⟩ (fun _ _ _ _ q => q) (va_recv hE.1 hPc (ci := 2) (q0 := 0) rfl rfl) (fun U hU _ _ => by rw [hU]; exact hPc) hl.1 rfl (Nat.le_of_ble_eq_true rfl) dX3_readOption_18 ⟨Nat.zero_le _, Nat.zero_le _⟩) hP (hD _ rfl) hS rfl rfl rfl (fun H locs hP hS => ?_)
    obtain ⟨q0, g0⟩ := Prod.mk.inj (Option.some.inj h)
    obtain ⟨q1, g1⟩ := Prod.mk.inj g0
    obtain ⟨q2, g2⟩ := Prod.mk.inj g1
    obtain ⟨q3, q4⟩ := Prod.mk.inj g2
    subst q0 q1 q2 q3 q4
    exact eMi C0 hP hS rfl rfl dX3_readOption_21
  · have h := ifp c_3 h
    refine lv_iload hx hb dX3_readOption_8 (lv_at hl 4 rfl) ?_
    obtain ⟨q0, g0⟩ := Prod.mk.inj (Option.some.inj h)
    obtain ⟨q1, g1⟩ := Prod.mk.inj g0
    obtain ⟨q2, g2⟩ := Prod.mk.inj g1
    obtain ⟨q3, q4⟩ := Prod.mk.inj g2
    subst q0 q1 q2 q3 q4
    exact eMi C0 hP hS rfl rfl dX3_readOption_10
def fX3_readSaying (F : Nat) (bs : Nat → Int32) (sy : Nat → Int32) (ln : Int32) (so : Int32) (be : Int32) (en : Int32) (va : Int32) (sc : Int32) (v2 : Int32) : Option (Int32 × (Nat → Int32) × Int32 × Int32 × Int32 × Int32 × Int32) := (if sc < 8 then Option.bind (fX3_advance F bs ln so be en va) (fun z_2 => Option.bind (fX3_readNumber F bs ln z_2.1 z_2.2.1 z_2.2.2.1 z_2.2.2.2 0 99) (fun z_4 => (if z_4.1 = (-1) then some (0, sy, z_4.2.1, z_4.2.2.1, z_4.2.2.2.1, z_4.2.2.2.2, sc) else Option.bind (fX3_readOption F bs ln z_4.2.1 z_4.2.2.1 z_4.2.2.2.1 z_4.2.2.2.2 9 0 15 0) (fun z_7 => (if z_7.1 = (-1) then some (0, sy, z_7.2.1, z_7.2.2.1, z_7.2.2.2.1, z_7.2.2.2.2, sc) else Option.bind (fX3_readOption F bs ln z_7.2.1 z_7.2.2.1 z_7.2.2.2.1 z_7.2.2.2.2 10 0 9999 0) (fun z_10 => (if z_10.1 = (-1) then some (0, sy, z_10.2.1, z_10.2.2.1, z_10.2.2.2.1, z_10.2.2.2.2, sc) else Option.bind (fX3_isWord F bs z_10.2.1 z_10.2.2.1 z_10.2.2.2.1 11) (fun z_13 => (if z_13 = 0 then some (1, (fX0_setOfSaying (fX0_addSaying_o1 sy sc v2 z_4.1 z_7.1) (fX0_addSaying_o0 sy sc v2 z_4.1 z_7.1) 4 z_10.1), z_10.2.1, z_10.2.2.1, z_10.2.2.2.1, z_10.2.2.2.2, fX0_addSaying_o2 sy sc v2 z_4.1 z_7.1) else Option.bind (fX3_advance F bs ln z_10.2.1 z_10.2.2.1 z_10.2.2.2.1 z_10.2.2.2.2) (fun z_16 => some (1, (fX0_setOfSaying (fX0_setOfSaying (fX0_addSaying_o1 sy sc v2 z_4.1 z_7.1) (fX0_addSaying_o0 sy sc v2 z_4.1 z_7.1) 4 z_10.1) (fX0_addSaying_o0 sy sc v2 z_4.1 z_7.1) 3 1), z_16.1, z_16.2.1, z_16.2.2.1, z_16.2.2.2, fX0_addSaying_o2 sy sc v2 z_4.1 z_7.1))))))))))) else some (0, sy, so, be, en, va, sc))
abbrev rmX3_readSaying : Room := { frames := 6, cells := 0, slots := 0, locals := 131 }
theorem pdX3_readSaying : (yX3_readSaying.cls = RX3 ∧ yX3_readSaying.cls ≠ "java/lang/invoke/MethodHandle" ∧ yX3_readSaying.cls ≠ "java/lang/invoke/VarHandle" ∧ (parseMethodDescriptor yX3_readSaying.desc).map (fun d => d.parameters.length) = some 2) := by decide +kernel
set_option maxHeartbeats 4000000 in
set_option maxRecDepth 100000 in
theorem tX3_readSaying (l : Launch) (D : va_G) (cI cS : ClassId) (cs : CSt) (F : Nat) (a0 a1 a2 a3 a4 a5 a6 : Nat) (bs : Nat → Int32) (pl : Nat → Int32) (sp : Nat → Int32) (sy : Nat → Int32) (sh : Nat → Int32) (ln : Int32) (so : Int32) (be : Int32) (en : Int32) (va : Int32) (sc : Int32) (nc : Int32) (dy : Int32) (zz : Int32) (v2 : Int32) (z0 : Int32) (z1 : Nat → Int32) (z2 : Int32) (z3 : Int32) (z4 : Int32) (z5 : Int32) (z6 : Int32) (h : fX3_readSaying F bs sy ln so be en va sc v2 = some (z0, z1, z2, z3, z4, z5, z6)) (hD0 : va_D (fun _ => True) (wTE cI cS a0 a1 a2 a3 a4 a5 a6 bs pl sp sy sh ln so be en va sc nc dy zz)) : Met l yX3_readSaying wsX3_readSaying rmX3_readSaying (PZ D cI cS [.ref a0, .ref a2, .int v2] (fun U => va_P D vwCl (wTE cI cS a0 a1 a2 a3 a4 a5 a6 bs pl sp sy sh ln so be en va sc nc dy zz) U.heap ∧ CST cs (wA (wTE cI cS a0 a1 a2 a3 a4 a5 a6 bs pl sp sy sh ln so be en va sc nc dy zz)) U U.heap)) (qI D (wTE cI cS a0 a1 a2 a3 a4 a5 a6 bs pl sp sy sh ln so be en va sc nc dy zz) (wTE cI cS a0 a1 a2 a3 a4 a5 a6 bs pl sp z1 sh ln z2 z3 z4 z5 z6 nc dy zz) z0) 0 0 (wA (wTE cI cS a0 a1 a2 a3 a4 a5 a6 bs pl sp sy sh ln so be en va sc nc dy zz)) := by
  refine Met.mk RX3 (by decide) rfl rfl (Nat.le_of_ble_eq_true rfl) ?_
  intro p e s m below meth c ls C0 hP hl
  obtain ⟨hP, hCS⟩ := hP
  have hl : lv_has ls 7 [(0, .ref a0), (1, .ref a2), (2, .int v2)] := hl
  obtain ⟨hx, hb, hr, hml, hown, hts, hlk, hE⟩ := id C0
  have hinX0 : ∀ w ∈ u_ws RX0 TX0 8, w ∈ wsX3_readSaying := by decide +kernel
  have hD : ∀ W : va_W, W.map Prod.fst = [a0, a1, a2, a3, a4, a5, a6] → va_D (wA (wTE cI cS a0 a1 a2 a3 a4 a5 a6 bs pl sp sy sh ln so be en va sc nc dy zz)) W := fun W hW => hD0.own.re hW
  have hS : va_S (wA (wTE cI cS a0 a1 a2 a3 a4 a5 a6 bs pl sp sy sh ln so be en va sc nc dy zz)) s.heap s.heap [] := va_S.rf
  have hP : va_P D vwCl (wTE cI cS a0 a1 a2 a3 a4 a5 a6 bs pl sp sy sh ln so be en va sc nc dy zz) s.heap := hP
  rw [fX3_readSaying] at h
  refine lv_aload_n hx hb dX3_readSaying_0 rfl (lv_at hl 1 rfl) ?_
  refine va_getN (D := D) (ci := 0) (v := .int sc) (C := RX0) (T := TX0) (N := 8) hx hb hts hinX0 hown hE.1 hP 2 rfl rfl 4 (by decide) (va_Nw.use rfl (hE.2 _ (List.mem_of_getElem? (i := 1) rfl))) (fun _ h9 => h9) rfl dX3_readSaying_1 ?_
  refine lv_bipush (v := 8) hx hb dX3_readSaying_4 (by decide) ?_
  refine lv_icmp_lt (tgt := 11) hx hb dX3_readSaying_6 (by decide) (fun c_1 => ?_) (fun c_1 => ?_)
  · have h := ifp c_1 h
    refine lv_aload_n hx hb dX3_readSaying_11 rfl (lv_at hl 0 rfl) ?_
    obtain ⟨z_2, e_3, h⟩ := bds h
    have hPc := hP.sub (ws' := (wX3 cI cS a0 a1 bs ln so be en va)) [0, 1] rfl
    refine kMv (wf' := (wTE cI cS a0 a1 a2 a3 a4 a5 a6 bs pl sp sy sh ln z_2.1 z_2.2.1 z_2.2.2.1 z_2.2.2.2 sc nc dy zz)) [0, 1] [some 0, some 1, none, none, none, none, none] (rV C0 (tX3_advance l D cI cS F a0 a1 bs ln so be en va  z_2.1 z_2.2.1 z_2.2.2.1 z_2.2.2.2 e_3 (((hD (wTE cI cS a0 a1 a2 a3 a4 a5 a6 bs pl sp sy sh ln so be en va sc nc dy zz) rfl).sub [0, 1] (by decide) rfl).weaken (fun _ _ _ _ => trivial))) RX3 gX3_readSaying_X3_advance rfl ⟨rfl, rfl⟩ pdX3_advance rfl ⟨Nat.le_of_ble_eq_true rfl, Nat.le_of_ble_eq_true rfl⟩ (fun _ _ _ _ q => q) (va_recv hE.1 hPc (ci := 2) (q0 := 0) rfl rfl) (fun U hU _ _ => by rw [hU]; exact hPc) hl.1 rfl (Nat.le_of_ble_eq_true rfl) dX3_readSaying_12 ⟨Nat.zero_le _, Nat.zero_le _⟩) hP (hD _ rfl) hS rfl rfl rfl (fun H locs hP hS => ?_)
    refine lv_aload_n hx hb dX3_readSaying_15 rfl (lv_at hl 0 rfl) ?_
    refine lv_iconst (v := 0) hx hb dX3_readSaying_16 (by decide) ?_
    refine lv_bipush (v := 99) hx hb dX3_readSaying_17 (by decide) ?_
    obtain ⟨z_4, e_5, h⟩ := bds h
    have hPc := hP.sub (ws' := (wX3 cI cS a0 a1 bs ln z_2.1 z_2.2.1 z_2.2.2.1 z_2.2.2.2)) [0, 1] rfl
    refine kMi (wf' := (wTE cI cS a0 a1 a2 a3 a4 a5 a6 bs pl sp sy sh ln z_4.2.1 z_4.2.2.1 z_4.2.2.2.1 z_4.2.2.2.2 sc nc dy zz)) [0, 1] [some 0, some 1, none, none, none, none, none] (rV C0 (tX3_readNumber l D cI cS F a0 a1 bs ln z_2.1 z_2.2.1 z_2.2.2.1 z_2.2.2.2 0 99 z_4.1 z_4.2.1 z_4.2.2.1 z_4.2.2.2.1 z_4.2.2.2.2 e_5 (((hD (wTE cI cS a0 a1 a2 a3 a4 a5 a6 bs pl sp sy sh ln z_2.1 z_2.2.1 z_2.2.2.1 z_2.2.2.2 sc nc dy zz) rfl).sub [0, 1] (by decide) rfl).weaken (fun _ _ _ _ => trivial))) RX3 gX3_readSaying_X3_readNumber rfl ⟨rfl, rfl⟩ pdX3_readNumber rfl ⟨Nat.le_of_ble_eq_true rfl, Nat.le_of_ble_eq_true rfl⟩ (fun _ _ _ _ q => q) (va_recv hE.1 hPc (ci := 2) (q0 := 0) rfl rfl) (fun U hU _ _ => by rw [hU]; exact hPc) hl.1 rfl (Nat.le_of_ble_eq_true rfl) dX3_readSaying_19 ⟨Nat.zero_le _, Nat.zero_le _⟩) hP (hD _ rfl) hS rfl rfl rfl (fun H locs hP hS => ?_)
    refine lv_istore_n (lv' := [(3, .int z_4.1), (0, .ref a0), (1, .ref a2), (2, .int v2)]) hx hb dX3_readSaying_22 rfl hl (by decide) rfl (fun ls hl => ?_)
    refine lv_iload_n hx hb dX3_readSaying_23 rfl (lv_at hl 0 rfl) ?_
    refine lv_iconst (v := (-1)) hx hb dX3_readSaying_24 (by decide) ?_
    refine lv_icmp_ne (tgt := 30) hx hb dX3_readSaying_25 (by decide) (fun c_6 => ?_) (fun c_6 => ?_)
    · have h := ifn c_6 h
      refine lv_aload_n hx hb dX3_readSaying_30 rfl (lv_at hl 1 rfl) ?_
      refine va_ldcS hx hb hown (show vk_R RX3 81 "at" (cs.1 9) s from hCS.2.2.2.1 ("VaguePort$Tape", 81, "at", 9) (List.mem_of_getElem? (i := 11) rfl)) dX3_readSaying_31 ?_
      refine lv_iconst (v := 0) hx hb dX3_readSaying_33 (by decide) ?_
      refine lv_bipush (v := 15) hx hb dX3_readSaying_34 (by decide) ?_
      refine lv_iconst (v := 0) hx hb dX3_readSaying_36 (by decide) ?_
      obtain ⟨z_7, e_8, h⟩ := bds h
      have hPc := hP.sub (ws' := (wX3 cI cS a0 a1 bs ln z_4.2.1 z_4.2.2.1 z_4.2.2.2.1 z_4.2.2.2.2)) [0, 1] rfl
      refine kMi (wf' := (wTE cI cS a0 a1 a2 a3 a4 a5 a6 bs pl sp sy sh ln z_7.2.1 z_7.2.2.1 z_7.2.2.2.1 z_7.2.2.2.2 sc nc dy zz)) [0, 1] [some 0, some 1, none, none, none, none, none] (rV C0 (tX3_readOption l D cI cS cs F a0 a1 bs ln z_4.2.1 z_4.2.2.1 z_4.2.2.2.1 z_4.2.2.2.2 9 0 15 0 z_7.1 z_7.2.1 z_7.2.2.1 z_7.2.2.2.1 z_7.2.2.2.2 e_8 (by decide) (((hD (wTE cI cS a0 a1 a2 a3 a4 a5 a6 bs pl sp sy sh ln z_4.2.1 z_4.2.2.1 z_4.2.2.2.1 z_4.2.2.2.2 sc nc dy zz) rfl).sub [0, 1] (by decide) rfl).weaken (fun _ _ _ _ => trivial))) RX3 gX3_readSaying_X3_readOption rfl ⟨rfl, rfl⟩ pdX3_readOption rfl ⟨Nat.le_of_ble_eq_true rfl, Nat.le_of_ble_eq_true rfl⟩ (fun _ _ _ _ q => ⟨q.1, q.2.call⟩) (va_recv hE.1 hPc (ci := 2) (q0 := 0) rfl rfl) (fun U hU hW _ => ⟨by rw [hU]; exact hPc, by rw [hU]; exact ((hCS.kept hS.2.1).narrow (fun q h => va_D.inA (hD (wTE cI cS a0 a1 a2 a3 a4 a5 a6 bs pl sp sy sh ln z_4.2.1 z_4.2.2.1 z_4.2.2.2.1 z_4.2.2.2.2 sc nc dy zz) rfl) [0, 1] rfl h)).warm hW⟩) hl.1 rfl (Nat.le_of_ble_eq_true rfl) dX3_readSaying_37 ⟨Nat.zero_le _, Nat.zero_le _⟩) hP (hD _ rfl) hS rfl rfl rfl (fun H locs hP hS => ?_)
      refine lv_istore (lv' := [(4, .int z_7.1), (3, .int z_4.1), (0, .ref a0), (1, .ref a2), (2, .int v2)]) hx hb dX3_readSaying_40 hl (by decide) rfl (fun ls hl => ?_)
      refine lv_iload hx hb dX3_readSaying_42 (lv_at hl 0 rfl) ?_
      refine lv_iconst (v := (-1)) hx hb dX3_readSaying_44 (by decide) ?_
      refine lv_icmp_ne (tgt := 50) hx hb dX3_readSaying_45 (by decide) (fun c_9 => ?_) (fun c_9 => ?_)
      · have h := ifn c_9 h
        refine lv_aload_n hx hb dX3_readSaying_50 rfl (lv_at hl 2 rfl) ?_
        refine va_ldcS hx hb hown (show vk_R RX3 87 "said" (cs.1 10) s from hCS.2.2.2.1 ("VaguePort$Tape", 87, "said", 10) (List.mem_of_getElem? (i := 12) rfl)) dX3_readSaying_51 ?_
        refine lv_iconst (v := 0) hx hb dX3_readSaying_53 (by decide) ?_
        refine lv_sipush (v := 9999) hx hb dX3_readSaying_54 (by decide) ?_
        refine lv_iconst (v := 0) hx hb dX3_readSaying_57 (by decide) ?_
        obtain ⟨z_10, e_11, h⟩ := bds h
        have hPc := hP.sub (ws' := (wX3 cI cS a0 a1 bs ln z_7.2.1 z_7.2.2.1 z_7.2.2.2.1 z_7.2.2.2.2)) [0, 1] rfl
        refine kMi (wf' := (wTE cI cS a0 a1 a2 a3 a4 a5 a6 bs pl sp sy sh ln z_10.2.1 z_10.2.2.1 z_10.2.2.2.1 z_10.2.2.2.2 sc nc dy zz)) [0, 1] [some 0, some 1, none, none, none, none, none] (rV C0 (tX3_readOption l D cI cS cs F a0 a1 bs ln z_7.2.1 z_7.2.2.1 z_7.2.2.2.1 z_7.2.2.2.2 10 0 9999 0 z_10.1 z_10.2.1 z_10.2.2.1 z_10.2.2.2.1 z_10.2.2.2.2 e_11 (by decide) (((hD (wTE cI cS a0 a1 a2 a3 a4 a5 a6 bs pl sp sy sh ln z_7.2.1 z_7.2.2.1 z_7.2.2.2.1 z_7.2.2.2.2 sc nc dy zz) rfl).sub [0, 1] (by decide) rfl).weaken (fun _ _ _ _ => trivial))) RX3 gX3_readSaying_X3_readOption rfl ⟨rfl, rfl⟩ pdX3_readOption rfl ⟨Nat.le_of_ble_eq_true rfl, Nat.le_of_ble_eq_true rfl⟩ (fun _ _ _ _ q => ⟨q.1, q.2.call⟩) (va_recv hE.1 hPc (ci := 2) (q0 := 0) rfl rfl) (fun U hU hW _ => ⟨by rw [hU]; exact hPc, by rw [hU]; exact ((hCS.kept hS.2.1).narrow (fun q h => va_D.inA (hD (wTE cI cS a0 a1 a2 a3 a4 a5 a6 bs pl sp sy sh ln z_7.2.1 z_7.2.2.1 z_7.2.2.2.1 z_7.2.2.2.2 sc nc dy zz) rfl) [0, 1] rfl h)).warm hW⟩) hl.1 rfl (Nat.le_of_ble_eq_true rfl) dX3_readSaying_58 ⟨Nat.zero_le _, Nat.zero_le _⟩) hP (hD _ rfl) hS rfl rfl rfl (fun H locs hP hS => ?_)
        refine lv_istore (lv' := [(5, .int z_10.1), (4, .int z_7.1), (3, .int z_4.1), (0, .ref a0), (1, .ref a2), (2, .int v2)]) hx hb dX3_readSaying_61 hl (by decide) rfl (fun ls hl => ?_)
        refine lv_iload hx hb dX3_readSaying_63 (lv_at hl 0 rfl) ?_
        refine lv_iconst (v := (-1)) hx hb dX3_readSaying_65 (by decide) ?_
        refine lv_icmp_ne (tgt := 71) hx hb dX3_readSaying_66 (by decide) (fun c_12 => ?_) (fun c_12 => ?_)
        · have h := ifn c_12 h
          refine lv_aload_n hx hb dX3_readSaying_71 rfl (lv_at hl 4 rfl) ?_
          refine lv_iload_n hx hb dX3_readSaying_72 rfl (lv_at hl 5 rfl) ?_
          refine lv_iload_n hx hb dX3_readSaying_73 rfl (lv_at hl 2 rfl) ?_
          refine lv_iload hx hb dX3_readSaying_74 (lv_at hl 1 rfl) ?_
          have hPc := hP.sub (ws' := (wX0 cI cS a2 a3 a4 a5 a6 pl sp sy sh sc nc dy zz)) [2, 3, 4, 5, 6] rfl
          refine kMi (wf' := (wTE cI cS a0 a1 a2 a3 a4 a5 a6 bs pl sp (fX0_addSaying_o1 sy sc v2 z_4.1 z_7.1) sh ln z_10.2.1 z_10.2.2.1 z_10.2.2.2.1 z_10.2.2.2.2 (fX0_addSaying_o2 sy sc v2 z_4.1 z_7.1) nc dy zz)) [2, 3, 4, 5, 6] [none, none, some 0, some 1, some 2, some 3, some 4] (rV C0 (tX0_addSaying l D cI cS a2 a3 a4 a5 a6 pl sp sy sh sc nc dy zz v2 z_4.1 z_7.1 (fX0_addSaying_o0 sy sc v2 z_4.1 z_7.1) (fX0_addSaying_o1 sy sc v2 z_4.1 z_7.1) (fX0_addSaying_o2 sy sc v2 z_4.1 z_7.1) (eeX0_addSaying ..) (((hD (wTE cI cS a0 a1 a2 a3 a4 a5 a6 bs pl sp sy sh ln z_10.2.1 z_10.2.2.1 z_10.2.2.2.1 z_10.2.2.2.2 sc nc dy zz) rfl).sub [2, 3, 4, 5, 6] (by decide) rfl).weaken (fun _ _ _ _ => trivial))) RX0 gX3_readSaying_X0_addSaying rfl ⟨rfl, rfl⟩ pdX0_addSaying rfl ⟨Nat.le_of_ble_eq_true rfl, Nat.le_of_ble_eq_true rfl⟩ (fun _ _ _ _ q => q) (va_recv hE.1 hPc (ci := 0) (q0 := 0) rfl rfl) (fun U hU _ _ => by rw [hU]; exact hPc) hl.1 rfl (Nat.le_of_ble_eq_true rfl) dX3_readSaying_76 ⟨Nat.zero_le _, Nat.zero_le _⟩) hP (hD _ rfl) hS rfl rfl rfl (fun H locs hP hS => ?_)
          refine lv_istore (lv' := [(6, .int (fX0_addSaying_o0 sy sc v2 z_4.1 z_7.1)), (5, .int z_10.1), (4, .int z_7.1), (3, .int z_4.1), (0, .ref a0), (1, .ref a2), (2, .int v2)]) hx hb dX3_readSaying_79 hl (by decide) rfl (fun ls hl => ?_)
          refine lv_aload_n hx hb dX3_readSaying_81 rfl (lv_at hl 5 rfl) ?_
          refine lv_iload hx hb dX3_readSaying_82 (lv_at hl 0 rfl) ?_
          refine lv_iconst (v := 4) hx hb dX3_readSaying_84 (by decide) ?_
          refine lv_iload hx hb dX3_readSaying_85 (lv_at hl 1 rfl) ?_
          have hPc := hP.sub (ws' := (wX0 cI cS a2 a3 a4 a5 a6 pl sp (fX0_addSaying_o1 sy sc v2 z_4.1 z_7.1) sh (fX0_addSaying_o2 sy sc v2 z_4.1 z_7.1) nc dy zz)) [2, 3, 4, 5, 6] rfl
          refine kMv (wf' := (wTE cI cS a0 a1 a2 a3 a4 a5 a6 bs pl sp (fX0_setOfSaying (fX0_addSaying_o1 sy sc v2 z_4.1 z_7.1) (fX0_addSaying_o0 sy sc v2 z_4.1 z_7.1) 4 z_10.1) sh ln z_10.2.1 z_10.2.2.1 z_10.2.2.2.1 z_10.2.2.2.2 (fX0_addSaying_o2 sy sc v2 z_4.1 z_7.1) nc dy zz)) [2, 3, 4, 5, 6] [none, none, some 0, some 1, some 2, some 3, some 4] (rV C0 (tX0_setOfSaying l D cI cS a2 a3 a4 a5 a6 pl sp (fX0_addSaying_o1 sy sc v2 z_4.1 z_7.1) sh (fX0_addSaying_o2 sy sc v2 z_4.1 z_7.1) nc dy zz (fX0_addSaying_o0 sy sc v2 z_4.1 z_7.1) 4 z_10.1 (fX0_setOfSaying (fX0_addSaying_o1 sy sc v2 z_4.1 z_7.1) (fX0_addSaying_o0 sy sc v2 z_4.1 z_7.1) 4 z_10.1) rfl (((hD (wTE cI cS a0 a1 a2 a3 a4 a5 a6 bs pl sp (fX0_addSaying_o1 sy sc v2 z_4.1 z_7.1) sh ln z_10.2.1 z_10.2.2.1 z_10.2.2.2.1 z_10.2.2.2.2 (fX0_addSaying_o2 sy sc v2 z_4.1 z_7.1) nc dy zz) rfl).sub [2, 3, 4, 5, 6] (by decide) rfl).weaken (fun _ _ _ _ => trivial))) RX0 gX3_readSaying_X0_setOfSaying rfl ⟨rfl, rfl⟩ pdX0_setOfSaying rfl ⟨Nat.le_of_ble_eq_true rfl, Nat.le_of_ble_eq_true rfl⟩ (fun _ _ _ _ q => q) (va_recv hE.1 hPc (ci := 0) (q0 := 0) rfl rfl) (fun U hU _ _ => by rw [hU]; exact hPc) hl.1 rfl (Nat.le_of_ble_eq_true rfl) dX3_readSaying_87 ⟨Nat.zero_le _, Nat.zero_le _⟩) hP (hD _ rfl) hS rfl rfl rfl (fun H locs hP hS => ?_)
          refine lv_aload_n hx hb dX3_readSaying_90 rfl (lv_at hl 4 rfl) ?_
          refine va_ldcS hx hb hown (show vk_R RX3 97 "finished" (cs.1 11) s from hCS.2.2.2.1 ("VaguePort$Tape", 97, "finished", 11) (List.mem_of_getElem? (i := 13) rfl)) dX3_readSaying_91 ?_
          obtain ⟨z_13, e_14, h⟩ := bds h
          have hPc := hP.sub (ws' := (wX3 cI cS a0 a1 bs ln z_10.2.1 z_10.2.2.1 z_10.2.2.2.1 z_10.2.2.2.2)) [0, 1] rfl
          refine kRi (rV C0 (tX3_isWord l D cI cS cs F a0 a1 bs ln z_10.2.1 z_10.2.2.1 z_10.2.2.2.1 z_10.2.2.2.2 11 z_13 e_14 (by decide)) RX3 gX3_readSaying_X3_isWord rfl ⟨rfl, rfl⟩ pdX3_isWord rfl ⟨Nat.le_of_ble_eq_true rfl, Nat.le_of_ble_eq_true rfl⟩ (fun _ _ _ _ q => ⟨q.1, q.2.call⟩) (va_recv hE.1 hPc (ci := 2) (q0 := 0) rfl rfl) (fun U hU hW _ => ⟨by rw [hU]; exact hPc, by rw [hU]; exact ((hCS.kept hS.2.1).narrow (fun _ q => q.elim)).warm hW⟩) hl.1 rfl (Nat.le_of_ble_eq_true rfl) dX3_readSaying_93 ⟨Nat.zero_le _, Nat.zero_le _⟩) ?_
          refine lv_if_eq (tgt := 111) hx hb dX3_readSaying_96 (by decide) (fun c_15 => ?_) (fun c_15 => ?_)
          · have h := ifp c_15 h
            refine lv_iconst (v := 1) hx hb dX3_readSaying_111 (by decide) ?_
            obtain ⟨q0, g0⟩ := Prod.mk.inj (Option.some.inj h)
            obtain ⟨q1, g1⟩ := Prod.mk.inj g0
            obtain ⟨q2, g2⟩ := Prod.mk.inj g1
            obtain ⟨q3, g3⟩ := Prod.mk.inj g2
            obtain ⟨q4, g4⟩ := Prod.mk.inj g3
            obtain ⟨q5, q6⟩ := Prod.mk.inj g4
            subst q0 q1 q2 q3 q4 q5 q6
            exact eMz C0 hP hS rfl rfl rfl dX3_readSaying_112
          · have h := ifn c_15 h
            refine lv_aload_n hx hb dX3_readSaying_99 rfl (lv_at hl 5 rfl) ?_
            refine lv_iload hx hb dX3_readSaying_100 (lv_at hl 0 rfl) ?_
            refine lv_iconst (v := 3) hx hb dX3_readSaying_102 (by decide) ?_
            refine lv_iconst (v := 1) hx hb dX3_readSaying_103 (by decide) ?_
            have hPc := hP.sub (ws' := (wX0 cI cS a2 a3 a4 a5 a6 pl sp (fX0_setOfSaying (fX0_addSaying_o1 sy sc v2 z_4.1 z_7.1) (fX0_addSaying_o0 sy sc v2 z_4.1 z_7.1) 4 z_10.1) sh (fX0_addSaying_o2 sy sc v2 z_4.1 z_7.1) nc dy zz)) [2, 3, 4, 5, 6] rfl
            refine kMv (wf' := (wTE cI cS a0 a1 a2 a3 a4 a5 a6 bs pl sp (fX0_setOfSaying (fX0_setOfSaying (fX0_addSaying_o1 sy sc v2 z_4.1 z_7.1) (fX0_addSaying_o0 sy sc v2 z_4.1 z_7.1) 4 z_10.1) (fX0_addSaying_o0 sy sc v2 z_4.1 z_7.1) 3 1) sh ln z_10.2.1 z_10.2.2.1 z_10.2.2.2.1 z_10.2.2.2.2 (fX0_addSaying_o2 sy sc v2 z_4.1 z_7.1) nc dy zz)) [2, 3, 4, 5, 6] [none, none, some 0, some 1, some 2, some 3, some 4] (rV C0 (tX0_setOfSaying l D cI cS a2 a3 a4 a5 a6 pl sp (fX0_setOfSaying (fX0_addSaying_o1 sy sc v2 z_4.1 z_7.1) (fX0_addSaying_o0 sy sc v2 z_4.1 z_7.1) 4 z_10.1) sh (fX0_addSaying_o2 sy sc v2 z_4.1 z_7.1) nc dy zz (fX0_addSaying_o0 sy sc v2 z_4.1 z_7.1) 3 1 (fX0_setOfSaying (fX0_setOfSaying (fX0_addSaying_o1 sy sc v2 z_4.1 z_7.1) (fX0_addSaying_o0 sy sc v2 z_4.1 z_7.1) 4 z_10.1) (fX0_addSaying_o0 sy sc v2 z_4.1 z_7.1) 3 1) rfl (((hD (wTE cI cS a0 a1 a2 a3 a4 a5 a6 bs pl sp (fX0_setOfSaying (fX0_addSaying_o1 sy sc v2 z_4.1 z_7.1) (fX0_addSaying_o0 sy sc v2 z_4.1 z_7.1) 4 z_10.1) sh ln z_10.2.1 z_10.2.2.1 z_10.2.2.2.1 z_10.2.2.2.2 (fX0_addSaying_o2 sy sc v2 z_4.1 z_7.1) nc dy zz) rfl).sub [2, 3, 4, 5, 6] (by decide) rfl).weaken (fun _ _ _ _ => trivial))) RX0 gX3_readSaying_X0_setOfSaying rfl ⟨rfl, rfl⟩ pdX0_setOfSaying rfl ⟨Nat.le_of_ble_eq_true rfl, Nat.le_of_ble_eq_true rfl⟩ (fun _ _ _ _ q => q) (va_recv hE.1 hPc (ci := 0) (q0 := 0) rfl rfl) (fun U hU _ _ => by rw [hU]; exact hPc) hl.1 rfl (Nat.le_of_ble_eq_true rfl) dX3_readSaying_104 ⟨Nat.zero_le _, Nat.zero_le _⟩) hP (hD _ rfl) hS rfl rfl rfl (fun H locs hP hS => ?_)
            refine lv_aload_n hx hb dX3_readSaying_107 rfl (lv_at hl 4 rfl) ?_
            obtain ⟨z_16, e_17, h⟩ := bds h
            have hPc := hP.sub (ws' := (wX3 cI cS a0 a1 bs ln z_10.2.1 z_10.2.2.1 z_10.2.2.2.1 z_10.2.2.2.2)) [0, 1] rfl
            refine kMv (wf' := (wTE cI cS a0 a1 a2 a3 a4 a5 a6 bs pl sp (fX0_setOfSaying (fX0_setOfSaying (fX0_addSaying_o1 sy sc v2 z_4.1 z_7.1) (fX0_addSaying_o0 sy sc v2 z_4.1 z_7.1) 4 z_10.1) (fX0_addSaying_o0 sy sc v2 z_4.1 z_7.1) 3 1) sh ln z_16.1 z_16.2.1 z_16.2.2.1 z_16.2.2.2 (fX0_addSaying_o2 sy sc v2 z_4.1 z_7.1) nc dy zz)) [0, 1] [some 0, some 1, none, none, none, none, none] (rV C0 (tX3_advance l D cI cS F a0 a1 bs ln z_10.2.1 z_10.2.2.1 z_10.2.2.2.1 z_10.2.2.2.2  z_16.1 z_16.2.1 z_16.2.2.1 z_16.2.2.2 e_17 (((hD (wTE cI cS a0 a1 a2 a3 a4 a5 a6 bs pl sp (fX0_setOfSaying (fX0_setOfSaying (fX0_addSaying_o1 sy sc v2 z_4.1 z_7.1) (fX0_addSaying_o0 sy sc v2 z_4.1 z_7.1) 4 z_10.1) (fX0_addSaying_o0 sy sc v2 z_4.1 z_7.1) 3 1) sh ln z_10.2.1 z_10.2.2.1 z_10.2.2.2.1 z_10.2.2.2.2 (fX0_addSaying_o2 sy sc v2 z_4.1 z_7.1) nc dy zz) rfl).sub [0, 1] (by decide) rfl).weaken (fun _ _ _ _ => trivial))) RX3 gX3_readSaying_X3_advance rfl ⟨rfl, rfl⟩ pdX3_advance rfl ⟨Nat.le_of_ble_eq_true rfl, Nat.le_of_ble_eq_true rfl⟩ (fun _ _ _ _ q => q) (va_recv hE.1 hPc (ci := 2) (q0 := 0) rfl rfl) (fun U hU _ _ => by rw [hU]; exact hPc) hl.1 rfl (Nat.le_of_ble_eq_true rfl) dX3_readSaying_108 ⟨Nat.zero_le _, Nat.zero_le _⟩) hP (hD _ rfl) hS rfl rfl rfl (fun H locs hP hS => ?_)
            refine lv_iconst (v := 1) hx hb dX3_readSaying_111 (by decide) ?_
            obtain ⟨q0, g0⟩ := Prod.mk.inj (Option.some.inj h)
            obtain ⟨q1, g1⟩ := Prod.mk.inj g0
            obtain ⟨q2, g2⟩ := Prod.mk.inj g1
            obtain ⟨q3, g3⟩ := Prod.mk.inj g2
            obtain ⟨q4, g4⟩ := Prod.mk.inj g3
            obtain ⟨q5, q6⟩ := Prod.mk.inj g4
            subst q0 q1 q2 q3 q4 q5 q6
            exact eMz C0 hP hS rfl rfl rfl dX3_readSaying_112
        · have h := ifp c_12 h
          refine lv_iconst (v := 0) hx hb dX3_readSaying_69 (by decide) ?_
          obtain ⟨q0, g0⟩ := Prod.mk.inj (Option.some.inj h)
          obtain ⟨q1, g1⟩ := Prod.mk.inj g0
          obtain ⟨q2, g2⟩ := Prod.mk.inj g1
          obtain ⟨q3, g3⟩ := Prod.mk.inj g2
          obtain ⟨q4, g4⟩ := Prod.mk.inj g3
          obtain ⟨q5, q6⟩ := Prod.mk.inj g4
          subst q0 q1 q2 q3 q4 q5 q6
          exact eMz C0 hP hS rfl rfl rfl dX3_readSaying_70
      · have h := ifp c_9 h
        refine lv_iconst (v := 0) hx hb dX3_readSaying_48 (by decide) ?_
        obtain ⟨q0, g0⟩ := Prod.mk.inj (Option.some.inj h)
        obtain ⟨q1, g1⟩ := Prod.mk.inj g0
        obtain ⟨q2, g2⟩ := Prod.mk.inj g1
        obtain ⟨q3, g3⟩ := Prod.mk.inj g2
        obtain ⟨q4, g4⟩ := Prod.mk.inj g3
        obtain ⟨q5, q6⟩ := Prod.mk.inj g4
        subst q0 q1 q2 q3 q4 q5 q6
        exact eMz C0 hP hS rfl rfl rfl dX3_readSaying_49
    · have h := ifp c_6 h
      refine lv_iconst (v := 0) hx hb dX3_readSaying_28 (by decide) ?_
      obtain ⟨q0, g0⟩ := Prod.mk.inj (Option.some.inj h)
      obtain ⟨q1, g1⟩ := Prod.mk.inj g0
      obtain ⟨q2, g2⟩ := Prod.mk.inj g1
      obtain ⟨q3, g3⟩ := Prod.mk.inj g2
      obtain ⟨q4, g4⟩ := Prod.mk.inj g3
      obtain ⟨q5, q6⟩ := Prod.mk.inj g4
      subst q0 q1 q2 q3 q4 q5 q6
      exact eMz C0 hP hS rfl rfl rfl dX3_readSaying_29
  · have h := ifn c_1 h
    refine lv_iconst (v := 0) hx hb dX3_readSaying_9 (by decide) ?_
    obtain ⟨q0, g0⟩ := Prod.mk.inj (Option.some.inj h)
    obtain ⟨q1, g1⟩ := Prod.mk.inj g0
    obtain ⟨q2, g2⟩ := Prod.mk.inj g1
    obtain ⟨q3, g3⟩ := Prod.mk.inj g2
    obtain ⟨q4, g4⟩ := Prod.mk.inj g3
    obtain ⟨q5, q6⟩ := Prod.mk.inj g4
    subst q0 q1 q2 q3 q4 q5 q6
    exact eMz C0 hP hS rfl rfl rfl dX3_readSaying_10
def fX3_readShip (F : Nat) (bs : Nat → Int32) (sh : Nat → Int32) (ln : Int32) (so : Int32) (be : Int32) (en : Int32) (va : Int32) (nc : Int32) : Option (Int32 × (Nat → Int32) × Int32 × Int32 × Int32 × Int32 × Int32) := (if nc < 6 then Option.bind (fX3_advance F bs ln so be en va) (fun z_2 => Option.bind (fX3_readOption F bs ln z_2.1 z_2.2.1 z_2.2.2.1 z_2.2.2.2 9 0 15 0) (fun z_4 => (if z_4.1 = (-1) then some (0, sh, z_4.2.1, z_4.2.2.1, z_4.2.2.2.1, z_4.2.2.2.2, nc) else Option.bind (fX3_readOption F bs ln z_4.2.1 z_4.2.2.1 z_4.2.2.2.1 z_4.2.2.2.2 12 0 99 30) (fun z_7 => (if z_7.1 = (-1) then some (0, sh, z_7.2.1, z_7.2.2.1, z_7.2.2.2.1, z_7.2.2.2.2, nc) else Option.bind (fX3_readOption F bs ln z_7.2.1 z_7.2.2.1 z_7.2.2.2.1 z_7.2.2.2.2 13 1 5 2) (fun z_10 => (if z_10.1 = (-1) then some (0, sh, z_10.2.1, z_10.2.2.1, z_10.2.2.2.1, z_10.2.2.2.2, nc) else some (1, fX0_addShip_o1 sh nc z_4.1 z_7.1 z_10.1, z_10.2.1, z_10.2.2.1, z_10.2.2.2.1, z_10.2.2.2.2, fX0_addShip_o2 sh nc z_4.1 z_7.1 z_10.1)))))))) else some (0, sh, so, be, en, va, nc))
abbrev rmX3_readShip : Room := { frames := 6, cells := 0, slots := 0, locals := 131 }
theorem pdX3_readShip : (yX3_readShip.cls = RX3 ∧ yX3_readShip.cls ≠ "java/lang/invoke/MethodHandle" ∧ yX3_readShip.cls ≠ "java/lang/invoke/VarHandle" ∧ (parseMethodDescriptor yX3_readShip.desc).map (fun d => d.parameters.length) = some 1) := by decide +kernel
set_option maxHeartbeats 4000000 in
set_option maxRecDepth 100000 in
theorem tX3_readShip (l : Launch) (D : va_G) (cI cS : ClassId) (cs : CSt) (F : Nat) (a0 a1 a2 a3 a4 a5 a6 : Nat) (bs : Nat → Int32) (pl : Nat → Int32) (sp : Nat → Int32) (sy : Nat → Int32) (sh : Nat → Int32) (ln : Int32) (so : Int32) (be : Int32) (en : Int32) (va : Int32) (sc : Int32) (nc : Int32) (dy : Int32) (zz : Int32) (z0 : Int32) (z1 : Nat → Int32) (z2 : Int32) (z3 : Int32) (z4 : Int32) (z5 : Int32) (z6 : Int32) (h : fX3_readShip F bs sh ln so be en va nc = some (z0, z1, z2, z3, z4, z5, z6)) (hD0 : va_D (fun _ => True) (wTE cI cS a0 a1 a2 a3 a4 a5 a6 bs pl sp sy sh ln so be en va sc nc dy zz)) : Met l yX3_readShip wsX3_readShip rmX3_readShip (PZ D cI cS [.ref a0, .ref a2] (fun U => va_P D vwCl (wTE cI cS a0 a1 a2 a3 a4 a5 a6 bs pl sp sy sh ln so be en va sc nc dy zz) U.heap ∧ CST cs (wA (wTE cI cS a0 a1 a2 a3 a4 a5 a6 bs pl sp sy sh ln so be en va sc nc dy zz)) U U.heap)) (qI D (wTE cI cS a0 a1 a2 a3 a4 a5 a6 bs pl sp sy sh ln so be en va sc nc dy zz) (wTE cI cS a0 a1 a2 a3 a4 a5 a6 bs pl sp sy z1 ln z2 z3 z4 z5 sc z6 dy zz) z0) 0 0 (wA (wTE cI cS a0 a1 a2 a3 a4 a5 a6 bs pl sp sy sh ln so be en va sc nc dy zz)) := by
  refine Met.mk RX3 (by decide) rfl rfl (Nat.le_of_ble_eq_true rfl) ?_
  intro p e s m below meth c ls C0 hP hl
  obtain ⟨hP, hCS⟩ := hP
  have hl : lv_has ls 5 [(0, .ref a0), (1, .ref a2)] := hl
  obtain ⟨hx, hb, hr, hml, hown, hts, hlk, hE⟩ := id C0
  have hinX0 : ∀ w ∈ u_ws RX0 TX0 8, w ∈ wsX3_readShip := by decide +kernel
  have hD : ∀ W : va_W, W.map Prod.fst = [a0, a1, a2, a3, a4, a5, a6] → va_D (wA (wTE cI cS a0 a1 a2 a3 a4 a5 a6 bs pl sp sy sh ln so be en va sc nc dy zz)) W := fun W hW => hD0.own.re hW
  have hS : va_S (wA (wTE cI cS a0 a1 a2 a3 a4 a5 a6 bs pl sp sy sh ln so be en va sc nc dy zz)) s.heap s.heap [] := va_S.rf
  have hP : va_P D vwCl (wTE cI cS a0 a1 a2 a3 a4 a5 a6 bs pl sp sy sh ln so be en va sc nc dy zz) s.heap := hP
  rw [fX3_readShip] at h
  refine lv_aload_n hx hb dX3_readShip_0 rfl (lv_at hl 1 rfl) ?_
  refine va_getN (D := D) (ci := 0) (v := .int nc) (C := RX0) (T := TX0) (N := 8) hx hb hts hinX0 hown hE.1 hP 2 rfl rfl 5 (by decide) (va_Nw.use rfl (hE.2 _ (List.mem_of_getElem? (i := 3) rfl))) (fun _ h9 => h9) rfl dX3_readShip_1 ?_
  refine lv_bipush (v := 6) hx hb dX3_readShip_4 (by decide) ?_
  refine lv_icmp_lt (tgt := 11) hx hb dX3_readShip_6 (by decide) (fun c_1 => ?_) (fun c_1 => ?_)
  · have h := ifp c_1 h
    refine lv_aload_n hx hb dX3_readShip_11 rfl (lv_at hl 0 rfl) ?_
    obtain ⟨z_2, e_3, h⟩ := bds h
    have hPc := hP.sub (ws' := (wX3 cI cS a0 a1 bs ln so be en va)) [0, 1] rfl
    refine kMv (wf' := (wTE cI cS a0 a1 a2 a3 a4 a5 a6 bs pl sp sy sh ln z_2.1 z_2.2.1 z_2.2.2.1 z_2.2.2.2 sc nc dy zz)) [0, 1] [some 0, some 1, none, none, none, none, none] (rV C0 (tX3_advance l D cI cS F a0 a1 bs ln so be en va  z_2.1 z_2.2.1 z_2.2.2.1 z_2.2.2.2 e_3 (((hD (wTE cI cS a0 a1 a2 a3 a4 a5 a6 bs pl sp sy sh ln so be en va sc nc dy zz) rfl).sub [0, 1] (by decide) rfl).weaken (fun _ _ _ _ => trivial))) RX3 gX3_readShip_X3_advance rfl ⟨rfl, rfl⟩ pdX3_advance rfl ⟨Nat.le_of_ble_eq_true rfl, Nat.le_of_ble_eq_true rfl⟩ (fun _ _ _ _ q => q) (va_recv hE.1 hPc (ci := 2) (q0 := 0) rfl rfl) (fun U hU _ _ => by rw [hU]; exact hPc) hl.1 rfl (Nat.le_of_ble_eq_true rfl) dX3_readShip_12 ⟨Nat.zero_le _, Nat.zero_le _⟩) hP (hD _ rfl) hS rfl rfl rfl (fun H locs hP hS => ?_)
    refine lv_aload_n hx hb dX3_readShip_15 rfl (lv_at hl 0 rfl) ?_
    refine va_ldcS hx hb hown (show vk_R RX3 81 "at" (cs.1 9) s from hCS.2.2.2.1 ("VaguePort$Tape", 81, "at", 9) (List.mem_of_getElem? (i := 11) rfl)) dX3_readShip_16 ?_
    refine lv_iconst (v := 0) hx hb dX3_readShip_18 (by decide) ?_
    refine lv_bipush (v := 15) hx hb dX3_readShip_19 (by decide) ?_
    refine lv_iconst (v := 0) hx hb dX3_readShip_21 (by decide) ?_
    obtain ⟨z_4, e_5, h⟩ := bds h
    have hPc := hP.sub (ws' := (wX3 cI cS a0 a1 bs ln z_2.1 z_2.2.1 z_2.2.2.1 z_2.2.2.2)) [0, 1] rfl
    refine kMi (wf' := (wTE cI cS a0 a1 a2 a3 a4 a5 a6 bs pl sp sy sh ln z_4.2.1 z_4.2.2.1 z_4.2.2.2.1 z_4.2.2.2.2 sc nc dy zz)) [0, 1] [some 0, some 1, none, none, none, none, none] (rV C0 (tX3_readOption l D cI cS cs F a0 a1 bs ln z_2.1 z_2.2.1 z_2.2.2.1 z_2.2.2.2 9 0 15 0 z_4.1 z_4.2.1 z_4.2.2.1 z_4.2.2.2.1 z_4.2.2.2.2 e_5 (by decide) (((hD (wTE cI cS a0 a1 a2 a3 a4 a5 a6 bs pl sp sy sh ln z_2.1 z_2.2.1 z_2.2.2.1 z_2.2.2.2 sc nc dy zz) rfl).sub [0, 1] (by decide) rfl).weaken (fun _ _ _ _ => trivial))) RX3 gX3_readShip_X3_readOption rfl ⟨rfl, rfl⟩ pdX3_readOption rfl ⟨Nat.le_of_ble_eq_true rfl, Nat.le_of_ble_eq_true rfl⟩ (fun _ _ _ _ q => ⟨q.1, q.2.call⟩) (va_recv hE.1 hPc (ci := 2) (q0 := 0) rfl rfl) (fun U hU hW _ => ⟨by rw [hU]; exact hPc, by rw [hU]; exact ((hCS.kept hS.2.1).narrow (fun q h => va_D.inA (hD (wTE cI cS a0 a1 a2 a3 a4 a5 a6 bs pl sp sy sh ln z_2.1 z_2.2.1 z_2.2.2.1 z_2.2.2.2 sc nc dy zz) rfl) [0, 1] rfl h)).warm hW⟩) hl.1 rfl (Nat.le_of_ble_eq_true rfl) dX3_readShip_22 ⟨Nat.zero_le _, Nat.zero_le _⟩) hP (hD _ rfl) hS rfl rfl rfl (fun H locs hP hS => ?_)
    refine lv_istore_n (lv' := [(2, .int z_4.1), (0, .ref a0), (1, .ref a2)]) hx hb dX3_readShip_25 rfl hl (by decide) rfl (fun ls hl => ?_)
    refine lv_iload_n hx hb dX3_readShip_26 rfl (lv_at hl 0 rfl) ?_
    refine lv_iconst (v := (-1)) hx hb dX3_readShip_27 (by decide) ?_
    refine lv_icmp_ne (tgt := 33) hx hb dX3_readShip_28 (by decide) (fun c_6 => ?_) (fun c_6 => ?_)
    · have h := ifn c_6 h
      refine lv_aload_n hx hb dX3_readShip_33 rfl (lv_at hl 1 rfl) ?_
      refine va_ldcS hx hb hown (show vk_R RX3 102 "sees" (cs.1 12) s from hCS.2.2.2.1 ("VaguePort$Tape", 102, "sees", 12) (List.mem_of_getElem? (i := 7) rfl)) dX3_readShip_34 ?_
      refine lv_iconst (v := 0) hx hb dX3_readShip_36 (by decide) ?_
      refine lv_bipush (v := 99) hx hb dX3_readShip_37 (by decide) ?_
      refine lv_bipush (v := 30) hx hb dX3_readShip_39 (by decide) ?_
      obtain ⟨z_7, e_8, h⟩ := bds h
      have hPc := hP.sub (ws' := (wX3 cI cS a0 a1 bs ln z_4.2.1 z_4.2.2.1 z_4.2.2.2.1 z_4.2.2.2.2)) [0, 1] rfl
      refine kMi (wf' := (wTE cI cS a0 a1 a2 a3 a4 a5 a6 bs pl sp sy sh ln z_7.2.1 z_7.2.2.1 z_7.2.2.2.1 z_7.2.2.2.2 sc nc dy zz)) [0, 1] [some 0, some 1, none, none, none, none, none] (rV C0 (tX3_readOption l D cI cS cs F a0 a1 bs ln z_4.2.1 z_4.2.2.1 z_4.2.2.2.1 z_4.2.2.2.2 12 0 99 30 z_7.1 z_7.2.1 z_7.2.2.1 z_7.2.2.2.1 z_7.2.2.2.2 e_8 (by decide) (((hD (wTE cI cS a0 a1 a2 a3 a4 a5 a6 bs pl sp sy sh ln z_4.2.1 z_4.2.2.1 z_4.2.2.2.1 z_4.2.2.2.2 sc nc dy zz) rfl).sub [0, 1] (by decide) rfl).weaken (fun _ _ _ _ => trivial))) RX3 gX3_readShip_X3_readOption rfl ⟨rfl, rfl⟩ pdX3_readOption rfl ⟨Nat.le_of_ble_eq_true rfl, Nat.le_of_ble_eq_true rfl⟩ (fun _ _ _ _ q => ⟨q.1, q.2.call⟩) (va_recv hE.1 hPc (ci := 2) (q0 := 0) rfl rfl) (fun U hU hW _ => ⟨by rw [hU]; exact hPc, by rw [hU]; exact ((hCS.kept hS.2.1).narrow (fun q h => va_D.inA (hD (wTE cI cS a0 a1 a2 a3 a4 a5 a6 bs pl sp sy sh ln z_4.2.1 z_4.2.2.1 z_4.2.2.2.1 z_4.2.2.2.2 sc nc dy zz) rfl) [0, 1] rfl h)).warm hW⟩) hl.1 rfl (Nat.le_of_ble_eq_true rfl) dX3_readShip_41 ⟨Nat.zero_le _, Nat.zero_le _⟩) hP (hD _ rfl) hS rfl rfl rfl (fun H locs hP hS => ?_)
      refine lv_istore_n (lv' := [(3, .int z_7.1), (2, .int z_4.1), (0, .ref a0), (1, .ref a2)]) hx hb dX3_readShip_44 rfl hl (by decide) rfl (fun ls hl => ?_)
      refine lv_iload_n hx hb dX3_readShip_45 rfl (lv_at hl 0 rfl) ?_
      refine lv_iconst (v := (-1)) hx hb dX3_readShip_46 (by decide) ?_
      refine lv_icmp_ne (tgt := 52) hx hb dX3_readShip_47 (by decide) (fun c_9 => ?_) (fun c_9 => ?_)
      · have h := ifn c_9 h
        refine lv_aload_n hx hb dX3_readShip_52 rfl (lv_at hl 2 rfl) ?_
        refine va_ldcS hx hb hown (show vk_R RX3 104 "fast" (cs.1 13) s from hCS.2.2.2.1 ("VaguePort$Tape", 104, "fast", 13) (List.mem_of_getElem? (i := 8) rfl)) dX3_readShip_53 ?_
        refine lv_iconst (v := 1) hx hb dX3_readShip_55 (by decide) ?_
        refine lv_iconst (v := 5) hx hb dX3_readShip_56 (by decide) ?_
        refine lv_iconst (v := 2) hx hb dX3_readShip_57 (by decide) ?_
        obtain ⟨z_10, e_11, h⟩ := bds h
        have hPc := hP.sub (ws' := (wX3 cI cS a0 a1 bs ln z_7.2.1 z_7.2.2.1 z_7.2.2.2.1 z_7.2.2.2.2)) [0, 1] rfl
        refine kMi (wf' := (wTE cI cS a0 a1 a2 a3 a4 a5 a6 bs pl sp sy sh ln z_10.2.1 z_10.2.2.1 z_10.2.2.2.1 z_10.2.2.2.2 sc nc dy zz)) [0, 1] [some 0, some 1, none, none, none, none, none] (rV C0 (tX3_readOption l D cI cS cs F a0 a1 bs ln z_7.2.1 z_7.2.2.1 z_7.2.2.2.1 z_7.2.2.2.2 13 1 5 2 z_10.1 z_10.2.1 z_10.2.2.1 z_10.2.2.2.1 z_10.2.2.2.2 e_11 (by decide) (((hD (wTE cI cS a0 a1 a2 a3 a4 a5 a6 bs pl sp sy sh ln z_7.2.1 z_7.2.2.1 z_7.2.2.2.1 z_7.2.2.2.2 sc nc dy zz) rfl).sub [0, 1] (by decide) rfl).weaken (fun _ _ _ _ => trivial))) RX3 gX3_readShip_X3_readOption rfl ⟨rfl, rfl⟩ pdX3_readOption rfl ⟨Nat.le_of_ble_eq_true rfl, Nat.le_of_ble_eq_true rfl⟩ (fun _ _ _ _ q => ⟨q.1, q.2.call⟩) (va_recv hE.1 hPc (ci := 2) (q0 := 0) rfl rfl) (fun U hU hW _ => ⟨by rw [hU]; exact hPc, by rw [hU]; exact ((hCS.kept hS.2.1).narrow (fun q h => va_D.inA (hD (wTE cI cS a0 a1 a2 a3 a4 a5 a6 bs pl sp sy sh ln z_7.2.1 z_7.2.2.1 z_7.2.2.2.1 z_7.2.2.2.2 sc nc dy zz) rfl) [0, 1] rfl h)).warm hW⟩) hl.1 rfl (Nat.le_of_ble_eq_true rfl) dX3_readShip_58 ⟨Nat.zero_le _, Nat.zero_le _⟩) hP (hD _ rfl) hS rfl rfl rfl (fun H locs hP hS => ?_)
        refine lv_istore (lv' := [(4, .int z_10.1), (3, .int z_7.1), (2, .int z_4.1), (0, .ref a0), (1, .ref a2)]) hx hb dX3_readShip_61 hl (by decide) rfl (fun ls hl => ?_)
        refine lv_iload hx hb dX3_readShip_63 (lv_at hl 0 rfl) ?_
        refine lv_iconst (v := (-1)) hx hb dX3_readShip_65 (by decide) ?_
        refine lv_icmp_ne (tgt := 71) hx hb dX3_readShip_66 (by decide) (fun c_12 => ?_) (fun c_12 => ?_)
        · have h := ifn c_12 h
          refine lv_aload_n hx hb dX3_readShip_71 rfl (lv_at hl 4 rfl) ?_
          refine lv_iload_n hx hb dX3_readShip_72 rfl (lv_at hl 2 rfl) ?_
          refine lv_iload_n hx hb dX3_readShip_73 rfl (lv_at hl 1 rfl) ?_
          refine lv_iload hx hb dX3_readShip_74 (lv_at hl 0 rfl) ?_
          have hPc := hP.sub (ws' := (wX0 cI cS a2 a3 a4 a5 a6 pl sp sy sh sc nc dy zz)) [2, 3, 4, 5, 6] rfl
          refine kMi (wf' := (wTE cI cS a0 a1 a2 a3 a4 a5 a6 bs pl sp sy (fX0_addShip_o1 sh nc z_4.1 z_7.1 z_10.1) ln z_10.2.1 z_10.2.2.1 z_10.2.2.2.1 z_10.2.2.2.2 sc (fX0_addShip_o2 sh nc z_4.1 z_7.1 z_10.1) dy zz)) [2, 3, 4, 5, 6] [none, none, some 0, some 1, some 2, some 3, some 4] (rV C0 (tX0_addShip l D cI cS a2 a3 a4 a5 a6 pl sp sy sh sc nc dy zz z_4.1 z_7.1 z_10.1 (fX0_addShip_o0 sh nc z_4.1 z_7.1 z_10.1) (fX0_addShip_o1 sh nc z_4.1 z_7.1 z_10.1) (fX0_addShip_o2 sh nc z_4.1 z_7.1 z_10.1) (eeX0_addShip ..) (((hD (wTE cI cS a0 a1 a2 a3 a4 a5 a6 bs pl sp sy sh ln z_10.2.1 z_10.2.2.1 z_10.2.2.2.1 z_10.2.2.2.2 sc nc dy zz) rfl).sub [2, 3, 4, 5, 6] (by decide) rfl).weaken (fun _ _ _ _ => trivial))) RX0 gX3_readShip_X0_addShip rfl ⟨rfl, rfl⟩ pdX0_addShip rfl ⟨Nat.le_of_ble_eq_true rfl, Nat.le_of_ble_eq_true rfl⟩ (fun _ _ _ _ q => q) (va_recv hE.1 hPc (ci := 0) (q0 := 0) rfl rfl) (fun U hU _ _ => by rw [hU]; exact hPc) hl.1 rfl (Nat.le_of_ble_eq_true rfl) dX3_readShip_76 ⟨Nat.zero_le _, Nat.zero_le _⟩) hP (hD _ rfl) hS rfl rfl rfl (fun H locs hP hS => ?_)
          refine lv_pop hx hb dX3_readShip_79 rfl ?_
          refine lv_iconst (v := 1) hx hb dX3_readShip_80 (by decide) ?_
          obtain ⟨q0, g0⟩ := Prod.mk.inj (Option.some.inj h)
          obtain ⟨q1, g1⟩ := Prod.mk.inj g0
          obtain ⟨q2, g2⟩ := Prod.mk.inj g1
          obtain ⟨q3, g3⟩ := Prod.mk.inj g2
          obtain ⟨q4, g4⟩ := Prod.mk.inj g3
          obtain ⟨q5, q6⟩ := Prod.mk.inj g4
          subst q0 q1 q2 q3 q4 q5 q6
          exact eMz C0 hP hS rfl rfl rfl dX3_readShip_81
        · have h := ifp c_12 h
          refine lv_iconst (v := 0) hx hb dX3_readShip_69 (by decide) ?_
          obtain ⟨q0, g0⟩ := Prod.mk.inj (Option.some.inj h)
          obtain ⟨q1, g1⟩ := Prod.mk.inj g0
          obtain ⟨q2, g2⟩ := Prod.mk.inj g1
          obtain ⟨q3, g3⟩ := Prod.mk.inj g2
          obtain ⟨q4, g4⟩ := Prod.mk.inj g3
          obtain ⟨q5, q6⟩ := Prod.mk.inj g4
          subst q0 q1 q2 q3 q4 q5 q6
          exact eMz C0 hP hS rfl rfl rfl dX3_readShip_70
      · have h := ifp c_9 h
        refine lv_iconst (v := 0) hx hb dX3_readShip_50 (by decide) ?_
        obtain ⟨q0, g0⟩ := Prod.mk.inj (Option.some.inj h)
        obtain ⟨q1, g1⟩ := Prod.mk.inj g0
        obtain ⟨q2, g2⟩ := Prod.mk.inj g1
        obtain ⟨q3, g3⟩ := Prod.mk.inj g2
        obtain ⟨q4, g4⟩ := Prod.mk.inj g3
        obtain ⟨q5, q6⟩ := Prod.mk.inj g4
        subst q0 q1 q2 q3 q4 q5 q6
        exact eMz C0 hP hS rfl rfl rfl dX3_readShip_51
    · have h := ifp c_6 h
      refine lv_iconst (v := 0) hx hb dX3_readShip_31 (by decide) ?_
      obtain ⟨q0, g0⟩ := Prod.mk.inj (Option.some.inj h)
      obtain ⟨q1, g1⟩ := Prod.mk.inj g0
      obtain ⟨q2, g2⟩ := Prod.mk.inj g1
      obtain ⟨q3, g3⟩ := Prod.mk.inj g2
      obtain ⟨q4, g4⟩ := Prod.mk.inj g3
      obtain ⟨q5, q6⟩ := Prod.mk.inj g4
      subst q0 q1 q2 q3 q4 q5 q6
      exact eMz C0 hP hS rfl rfl rfl dX3_readShip_32
  · have h := ifn c_1 h
    refine lv_iconst (v := 0) hx hb dX3_readShip_9 (by decide) ?_
    obtain ⟨q0, g0⟩ := Prod.mk.inj (Option.some.inj h)
    obtain ⟨q1, g1⟩ := Prod.mk.inj g0
    obtain ⟨q2, g2⟩ := Prod.mk.inj g1
    obtain ⟨q3, g3⟩ := Prod.mk.inj g2
    obtain ⟨q4, g4⟩ := Prod.mk.inj g3
    obtain ⟨q5, q6⟩ := Prod.mk.inj g4
    subst q0 q1 q2 q3 q4 q5 q6
    exact eMz C0 hP hS rfl rfl rfl dX3_readShip_10
def fX3_readFinish (F : Nat) (bs : Nat → Int32) (pl : Nat → Int32) (ln : Int32) (so : Int32) (be : Int32) (en : Int32) (va : Int32) : Option (Int32 × (Nat → Int32) × Int32 × Int32 × Int32 × Int32) := Option.bind (fX3_advance F bs ln so be en va) (fun z_1 => Option.bind (fX3_readNumber F bs ln z_1.1 z_1.2.1 z_1.2.2.1 z_1.2.2.2 0 5) (fun z_3 => (if z_3.1 = (-1) then some (0, pl, z_3.2.1, z_3.2.2.1, z_3.2.2.2.1, z_3.2.2.2.2) else Option.bind (fX3_readNumber F bs ln z_3.2.1 z_3.2.2.1 z_3.2.2.2.1 z_3.2.2.2.2 0 8) (fun z_6 => (if z_6.1 = (-1) then some (0, pl, z_6.2.1, z_6.2.2.1, z_6.2.2.2.1, z_6.2.2.2.2) else some (1, (fX0_setPlace pl z_3.1 z_6.1), z_6.2.1, z_6.2.2.1, z_6.2.2.2.1, z_6.2.2.2.2))))))
abbrev rmX3_readFinish : Room := { frames := 3, cells := 0, slots := 0, locals := 65 }
theorem pdX3_readFinish : (yX3_readFinish.cls = RX3 ∧ yX3_readFinish.cls ≠ "java/lang/invoke/MethodHandle" ∧ yX3_readFinish.cls ≠ "java/lang/invoke/VarHandle" ∧ (parseMethodDescriptor yX3_readFinish.desc).map (fun d => d.parameters.length) = some 1) := by decide +kernel
set_option maxHeartbeats 4000000 in
set_option maxRecDepth 100000 in
theorem tX3_readFinish (l : Launch) (D : va_G) (cI cS : ClassId) (F : Nat) (a0 a1 a2 a3 a4 a5 a6 : Nat) (bs : Nat → Int32) (pl : Nat → Int32) (sp : Nat → Int32) (sy : Nat → Int32) (sh : Nat → Int32) (ln : Int32) (so : Int32) (be : Int32) (en : Int32) (va : Int32) (sc : Int32) (nc : Int32) (dy : Int32) (zz : Int32) (z0 : Int32) (z1 : Nat → Int32) (z2 : Int32) (z3 : Int32) (z4 : Int32) (z5 : Int32) (h : fX3_readFinish F bs pl ln so be en va = some (z0, z1, z2, z3, z4, z5)) (hD0 : va_D (fun _ => True) (wTE cI cS a0 a1 a2 a3 a4 a5 a6 bs pl sp sy sh ln so be en va sc nc dy zz)) : Met l yX3_readFinish wsX3_readFinish rmX3_readFinish (PZ D cI cS [.ref a0, .ref a2] (fun U => va_P D vwCl (wTE cI cS a0 a1 a2 a3 a4 a5 a6 bs pl sp sy sh ln so be en va sc nc dy zz) U.heap)) (qI D (wTE cI cS a0 a1 a2 a3 a4 a5 a6 bs pl sp sy sh ln so be en va sc nc dy zz) (wTE cI cS a0 a1 a2 a3 a4 a5 a6 bs z1 sp sy sh ln z2 z3 z4 z5 sc nc dy zz) z0) 0 0 (wA (wTE cI cS a0 a1 a2 a3 a4 a5 a6 bs pl sp sy sh ln so be en va sc nc dy zz)) := by
  refine Met.mk RX3 (by decide) rfl rfl (Nat.le_of_ble_eq_true rfl) ?_
  intro p e s m below meth c ls C0 hP hl
  have hl : lv_has ls 4 [(0, .ref a0), (1, .ref a2)] := hl
  obtain ⟨hx, hb, hr, hml, hown, hts, hlk, hE⟩ := id C0
  have hD : ∀ W : va_W, W.map Prod.fst = [a0, a1, a2, a3, a4, a5, a6] → va_D (wA (wTE cI cS a0 a1 a2 a3 a4 a5 a6 bs pl sp sy sh ln so be en va sc nc dy zz)) W := fun W hW => hD0.own.re hW
  have hS : va_S (wA (wTE cI cS a0 a1 a2 a3 a4 a5 a6 bs pl sp sy sh ln so be en va sc nc dy zz)) s.heap s.heap [] := va_S.rf
  have hP : va_P D vwCl (wTE cI cS a0 a1 a2 a3 a4 a5 a6 bs pl sp sy sh ln so be en va sc nc dy zz) s.heap := hP
  rw [fX3_readFinish] at h
  refine lv_aload_n hx hb dX3_readFinish_0 rfl (lv_at hl 0 rfl) ?_
  obtain ⟨z_1, e_2, h⟩ := bds h
  have hPc := hP.sub (ws' := (wX3 cI cS a0 a1 bs ln so be en va)) [0, 1] rfl
  refine kMv (wf' := (wTE cI cS a0 a1 a2 a3 a4 a5 a6 bs pl sp sy sh ln z_1.1 z_1.2.1 z_1.2.2.1 z_1.2.2.2 sc nc dy zz)) [0, 1] [some 0, some 1, none, none, none, none, none] (rV C0 (tX3_advance l D cI cS F a0 a1 bs ln so be en va  z_1.1 z_1.2.1 z_1.2.2.1 z_1.2.2.2 e_2 (((hD (wTE cI cS a0 a1 a2 a3 a4 a5 a6 bs pl sp sy sh ln so be en va sc nc dy zz) rfl).sub [0, 1] (by decide) rfl).weaken (fun _ _ _ _ => trivial))) RX3 gX3_readFinish_X3_advance rfl ⟨rfl, rfl⟩ pdX3_advance rfl ⟨Nat.le_of_ble_eq_true rfl, Nat.le_of_ble_eq_true rfl⟩ (fun _ _ _ _ q => q) (va_recv hE.1 hPc (ci := 2) (q0 := 0) rfl rfl) (fun U hU _ _ => by rw [hU]; exact hPc) hl.1 rfl (Nat.le_of_ble_eq_true rfl) dX3_readFinish_1 ⟨Nat.zero_le _, Nat.zero_le _⟩) hP (hD _ rfl) hS rfl rfl rfl (fun H locs hP hS => ?_)
  refine lv_aload_n hx hb dX3_readFinish_4 rfl (lv_at hl 0 rfl) ?_
  refine lv_iconst (v := 0) hx hb dX3_readFinish_5 (by decide) ?_
  refine lv_iconst (v := 5) hx hb dX3_readFinish_6 (by decide) ?_
  obtain ⟨z_3, e_4, h⟩ := bds h
  have hPc := hP.sub (ws' := (wX3 cI cS a0 a1 bs ln z_1.1 z_1.2.1 z_1.2.2.1 z_1.2.2.2)) [0, 1] rfl
  refine kMi (wf' := (wTE cI cS a0 a1 a2 a3 a4 a5 a6 bs pl sp sy sh ln z_3.2.1 z_3.2.2.1 z_3.2.2.2.1 z_3.2.2.2.2 sc nc dy zz)) [0, 1] [some 0, some 1, none, none, none, none, none] (rV C0 (tX3_readNumber l D cI cS F a0 a1 bs ln z_1.1 z_1.2.1 z_1.2.2.1 z_1.2.2.2 0 5 z_3.1 z_3.2.1 z_3.2.2.1 z_3.2.2.2.1 z_3.2.2.2.2 e_4 (((hD (wTE cI cS a0 a1 a2 a3 a4 a5 a6 bs pl sp sy sh ln z_1.1 z_1.2.1 z_1.2.2.1 z_1.2.2.2 sc nc dy zz) rfl).sub [0, 1] (by decide) rfl).weaken (fun _ _ _ _ => trivial))) RX3 gX3_readFinish_X3_readNumber rfl ⟨rfl, rfl⟩ pdX3_readNumber rfl ⟨Nat.le_of_ble_eq_true rfl, Nat.le_of_ble_eq_true rfl⟩ (fun _ _ _ _ q => q) (va_recv hE.1 hPc (ci := 2) (q0 := 0) rfl rfl) (fun U hU _ _ => by rw [hU]; exact hPc) hl.1 rfl (Nat.le_of_ble_eq_true rfl) dX3_readFinish_7 ⟨Nat.zero_le _, Nat.zero_le _⟩) hP (hD _ rfl) hS rfl rfl rfl (fun H locs hP hS => ?_)
  refine lv_istore_n (lv' := [(2, .int z_3.1), (0, .ref a0), (1, .ref a2)]) hx hb dX3_readFinish_10 rfl hl (by decide) rfl (fun ls hl => ?_)
  refine lv_iload_n hx hb dX3_readFinish_11 rfl (lv_at hl 0 rfl) ?_
  refine lv_iconst (v := (-1)) hx hb dX3_readFinish_12 (by decide) ?_
  refine lv_icmp_ne (tgt := 18) hx hb dX3_readFinish_13 (by decide) (fun c_5 => ?_) (fun c_5 => ?_)
  · have h := ifn c_5 h
    refine lv_aload_n hx hb dX3_readFinish_18 rfl (lv_at hl 1 rfl) ?_
    refine lv_iconst (v := 0) hx hb dX3_readFinish_19 (by decide) ?_
    refine lv_bipush (v := 8) hx hb dX3_readFinish_20 (by decide) ?_
    obtain ⟨z_6, e_7, h⟩ := bds h
    have hPc := hP.sub (ws' := (wX3 cI cS a0 a1 bs ln z_3.2.1 z_3.2.2.1 z_3.2.2.2.1 z_3.2.2.2.2)) [0, 1] rfl
    refine kMi (wf' := (wTE cI cS a0 a1 a2 a3 a4 a5 a6 bs pl sp sy sh ln z_6.2.1 z_6.2.2.1 z_6.2.2.2.1 z_6.2.2.2.2 sc nc dy zz)) [0, 1] [some 0, some 1, none, none, none, none, none] (rV C0 (tX3_readNumber l D cI cS F a0 a1 bs ln z_3.2.1 z_3.2.2.1 z_3.2.2.2.1 z_3.2.2.2.2 0 8 z_6.1 z_6.2.1 z_6.2.2.1 z_6.2.2.2.1 z_6.2.2.2.2 e_7 (((hD (wTE cI cS a0 a1 a2 a3 a4 a5 a6 bs pl sp sy sh ln z_3.2.1 z_3.2.2.1 z_3.2.2.2.1 z_3.2.2.2.2 sc nc dy zz) rfl).sub [0, 1] (by decide) rfl).weaken (fun _ _ _ _ => trivial))) RX3 gX3_readFinish_X3_readNumber rfl ⟨rfl, rfl⟩ pdX3_readNumber rfl ⟨Nat.le_of_ble_eq_true rfl, Nat.le_of_ble_eq_true rfl⟩ (fun _ _ _ _ q => q) (va_recv hE.1 hPc (ci := 2) (q0 := 0) rfl rfl) (fun U hU _ _ => by rw [hU]; exact hPc) hl.1 rfl (Nat.le_of_ble_eq_true rfl) dX3_readFinish_22 ⟨Nat.zero_le _, Nat.zero_le _⟩) hP (hD _ rfl) hS rfl rfl rfl (fun H locs hP hS => ?_)
    refine lv_istore_n (lv' := [(3, .int z_6.1), (2, .int z_3.1), (0, .ref a0), (1, .ref a2)]) hx hb dX3_readFinish_25 rfl hl (by decide) rfl (fun ls hl => ?_)
    refine lv_iload_n hx hb dX3_readFinish_26 rfl (lv_at hl 0 rfl) ?_
    refine lv_iconst (v := (-1)) hx hb dX3_readFinish_27 (by decide) ?_
    refine lv_icmp_ne (tgt := 33) hx hb dX3_readFinish_28 (by decide) (fun c_8 => ?_) (fun c_8 => ?_)
    · have h := ifn c_8 h
      refine lv_aload_n hx hb dX3_readFinish_33 rfl (lv_at hl 3 rfl) ?_
      refine lv_iload_n hx hb dX3_readFinish_34 rfl (lv_at hl 1 rfl) ?_
      refine lv_iload_n hx hb dX3_readFinish_35 rfl (lv_at hl 0 rfl) ?_
      have hPc := hP.sub (ws' := (wX0 cI cS a2 a3 a4 a5 a6 pl sp sy sh sc nc dy zz)) [2, 3, 4, 5, 6] rfl
      refine kMv (wf' := (wTE cI cS a0 a1 a2 a3 a4 a5 a6 bs (fX0_setPlace pl z_3.1 z_6.1) sp sy sh ln z_6.2.1 z_6.2.2.1 z_6.2.2.2.1 z_6.2.2.2.2 sc nc dy zz)) [2, 3, 4, 5, 6] [none, none, some 0, some 1, some 2, some 3, some 4] (rV C0 (tX0_setPlace l D cI cS a2 a3 a4 a5 a6 pl sp sy sh sc nc dy zz z_3.1 z_6.1 (fX0_setPlace pl z_3.1 z_6.1) rfl (((hD (wTE cI cS a0 a1 a2 a3 a4 a5 a6 bs pl sp sy sh ln z_6.2.1 z_6.2.2.1 z_6.2.2.2.1 z_6.2.2.2.2 sc nc dy zz) rfl).sub [2, 3, 4, 5, 6] (by decide) rfl).weaken (fun _ _ _ _ => trivial))) RX0 gX3_readFinish_X0_setPlace rfl ⟨rfl, rfl⟩ pdX0_setPlace rfl ⟨Nat.le_of_ble_eq_true rfl, Nat.le_of_ble_eq_true rfl⟩ (fun _ _ _ _ q => q) (va_recv hE.1 hPc (ci := 0) (q0 := 0) rfl rfl) (fun U hU _ _ => by rw [hU]; exact hPc) hl.1 rfl (Nat.le_of_ble_eq_true rfl) dX3_readFinish_36 ⟨Nat.zero_le _, Nat.zero_le _⟩) hP (hD _ rfl) hS rfl rfl rfl (fun H locs hP hS => ?_)
      refine lv_iconst (v := 1) hx hb dX3_readFinish_39 (by decide) ?_
      obtain ⟨q0, g0⟩ := Prod.mk.inj (Option.some.inj h)
      obtain ⟨q1, g1⟩ := Prod.mk.inj g0
      obtain ⟨q2, g2⟩ := Prod.mk.inj g1
      obtain ⟨q3, g3⟩ := Prod.mk.inj g2
      obtain ⟨q4, q5⟩ := Prod.mk.inj g3
      subst q0 q1 q2 q3 q4 q5
      exact eMz C0 hP hS rfl rfl rfl dX3_readFinish_40
    · have h := ifp c_8 h
      refine lv_iconst (v := 0) hx hb dX3_readFinish_31 (by decide) ?_
      obtain ⟨q0, g0⟩ := Prod.mk.inj (Option.some.inj h)
      obtain ⟨q1, g1⟩ := Prod.mk.inj g0
      obtain ⟨q2, g2⟩ := Prod.mk.inj g1
      obtain ⟨q3, g3⟩ := Prod.mk.inj g2
      obtain ⟨q4, q5⟩ := Prod.mk.inj g3
      subst q0 q1 q2 q3 q4 q5
      exact eMz C0 hP hS rfl rfl rfl dX3_readFinish_32
  · have h := ifp c_5 h
    refine lv_iconst (v := 0) hx hb dX3_readFinish_16 (by decide) ?_
    obtain ⟨q0, g0⟩ := Prod.mk.inj (Option.some.inj h)
    obtain ⟨q1, g1⟩ := Prod.mk.inj g0
    obtain ⟨q2, g2⟩ := Prod.mk.inj g1
    obtain ⟨q3, g3⟩ := Prod.mk.inj g2
    obtain ⟨q4, q5⟩ := Prod.mk.inj g3
    subst q0 q1 q2 q3 q4 q5
    exact eMz C0 hP hS rfl rfl rfl dX3_readFinish_17
def fX3_readInto_11 (F : Nat) (bs : Nat → Int32) (ln : Int32) : Nat → Int32 → (Nat → Int32) → (Nat → Int32) → (Nat → Int32) → Int32 → Int32 → Int32 → Int32 → Int32 → Int32 → Option (Int32 × (Nat → Int32) × (Nat → Int32) × (Nat → Int32) × Int32 × Int32 × Int32 × Int32 × Int32 × Int32)
  | 0, _, _, _, _, _, _, _, _, _, _ => none
  | n + 1, v2, pl, sy, sh, so, be, en, va, sc, nc => (if 120 < v2 then some ((-1) - be, pl, sy, sh, so, be, en, va, sc, nc) else Option.bind (fX3_kindAtHand F bs so be en) (fun z_4 => (if z_4 = (-1) then Option.bind (fX3_isWord F bs so be en 7) (fun z_7 => (if z_7 = 0 then Option.bind (fX3_isWord F bs so be en 8) (fun z_10 => (if z_10 = 0 then some ((-1) - be, pl, sy, sh, so, be, en, va, sc, nc) else Option.bind (fX3_readFinish F bs pl ln so be en va) (fun z_15 => (if z_15.1 = 0 then some ((-1) - z_15.2.2.2.1, z_15.2.1, sy, sh, z_15.2.2.1, z_15.2.2.2.1, z_15.2.2.2.2.1, z_15.2.2.2.2.2, sc, nc) else (if z_15.2.2.1 = 0 then some (v2, z_15.2.1, sy, sh, z_15.2.2.1, z_15.2.2.2.1, z_15.2.2.2.2.1, z_15.2.2.2.2.2, sc, nc) else (if z_15.2.2.1 = 3 then Option.bind (fX3_advance F bs ln z_15.2.2.1 z_15.2.2.2.1 z_15.2.2.2.2.1 z_15.2.2.2.2.2) (fun z_24 => fX3_readInto_11 F bs ln n (v2 + 1) z_15.2.1 sy sh z_24.1 z_24.2.1 z_24.2.2.1 z_24.2.2.2 sc nc) else some ((-1) - z_15.2.2.2.1, z_15.2.1, sy, sh, z_15.2.2.1, z_15.2.2.2.1, z_15.2.2.2.2.1, z_15.2.2.2.2.2, sc, nc))))))) else Option.bind (fX3_readShip F bs sh ln so be en va nc) (fun z_26 => (if z_26.1 = 0 then (if z_26.1 = 0 then some ((-1) - z_26.2.2.2.1, pl, sy, z_26.2.1, z_26.2.2.1, z_26.2.2.2.1, z_26.2.2.2.2.1, z_26.2.2.2.2.2.1, sc, z_26.2.2.2.2.2.2) else (if z_26.2.2.1 = 3 then Option.bind (fX3_advance F bs ln z_26.2.2.1 z_26.2.2.2.1 z_26.2.2.2.2.1 z_26.2.2.2.2.2.1) (fun z_31 => fX3_readInto_11 F bs ln n (v2 + 1) pl sy z_26.2.1 z_31.1 z_31.2.1 z_31.2.2.1 z_31.2.2.2 sc z_26.2.2.2.2.2.2) else some ((-1) - z_26.2.2.2.1, pl, sy, z_26.2.1, z_26.2.2.1, z_26.2.2.2.1, z_26.2.2.2.2.1, z_26.2.2.2.2.2.1, sc, z_26.2.2.2.2.2.2))) else (if z_26.2.2.1 = 0 then some (v2, pl, sy, z_26.2.1, z_26.2.2.1, z_26.2.2.2.1, z_26.2.2.2.2.1, z_26.2.2.2.2.2.1, sc, z_26.2.2.2.2.2.2) else (if z_26.1 = 0 then some ((-1) - z_26.2.2.2.1, pl, sy, z_26.2.1, z_26.2.2.1, z_26.2.2.2.1, z_26.2.2.2.2.1, z_26.2.2.2.2.2.1, sc, z_26.2.2.2.2.2.2) else (if z_26.2.2.1 = 3 then Option.bind (fX3_advance F bs ln z_26.2.2.1 z_26.2.2.2.1 z_26.2.2.2.2.1 z_26.2.2.2.2.2.1) (fun z_36 => fX3_readInto_11 F bs ln n (v2 + 1) pl sy z_26.2.1 z_36.1 z_36.2.1 z_36.2.2.1 z_36.2.2.2 sc z_26.2.2.2.2.2.2) else some ((-1) - z_26.2.2.2.1, pl, sy, z_26.2.1, z_26.2.2.1, z_26.2.2.2.1, z_26.2.2.2.2.1, z_26.2.2.2.2.2.1, sc, z_26.2.2.2.2.2.2)))))))) else Option.bind (fX3_readSaying F bs sy ln so be en va sc z_4) (fun z_38 => (if z_38.1 = 0 then (if z_38.1 = 0 then some ((-1) - z_38.2.2.2.1, pl, z_38.2.1, sh, z_38.2.2.1, z_38.2.2.2.1, z_38.2.2.2.2.1, z_38.2.2.2.2.2.1, z_38.2.2.2.2.2.2, nc) else (if z_38.2.2.1 = 3 then Option.bind (fX3_advance F bs ln z_38.2.2.1 z_38.2.2.2.1 z_38.2.2.2.2.1 z_38.2.2.2.2.2.1) (fun z_43 => fX3_readInto_11 F bs ln n (v2 + 1) pl z_38.2.1 sh z_43.1 z_43.2.1 z_43.2.2.1 z_43.2.2.2 z_38.2.2.2.2.2.2 nc) else some ((-1) - z_38.2.2.2.1, pl, z_38.2.1, sh, z_38.2.2.1, z_38.2.2.2.1, z_38.2.2.2.2.1, z_38.2.2.2.2.2.1, z_38.2.2.2.2.2.2, nc))) else (if z_38.2.2.1 = 0 then some (v2, pl, z_38.2.1, sh, z_38.2.2.1, z_38.2.2.2.1, z_38.2.2.2.2.1, z_38.2.2.2.2.2.1, z_38.2.2.2.2.2.2, nc) else (if z_38.1 = 0 then some ((-1) - z_38.2.2.2.1, pl, z_38.2.1, sh, z_38.2.2.1, z_38.2.2.2.1, z_38.2.2.2.2.1, z_38.2.2.2.2.2.1, z_38.2.2.2.2.2.2, nc) else (if z_38.2.2.1 = 3 then Option.bind (fX3_advance F bs ln z_38.2.2.1 z_38.2.2.2.1 z_38.2.2.2.2.1 z_38.2.2.2.2.2.1) (fun z_48 => fX3_readInto_11 F bs ln n (v2 + 1) pl z_38.2.1 sh z_48.1 z_48.2.1 z_48.2.2.1 z_48.2.2.2 z_38.2.2.2.2.2.2 nc) else some ((-1) - z_38.2.2.2.1, pl, z_38.2.1, sh, z_38.2.2.1, z_38.2.2.2.1, z_38.2.2.2.2.1, z_38.2.2.2.2.2.1, z_38.2.2.2.2.2.2, nc)))))))))
def fX3_readInto (F : Nat) (bs : Nat → Int32) (pl : Nat → Int32) (sy : Nat → Int32) (sh : Nat → Int32) (ln : Int32) (so : Int32) (be : Int32) (en : Int32) (va : Int32) (sc : Int32) (nc : Int32) : Option (Int32 × (Nat → Int32) × (Nat → Int32) × (Nat → Int32) × Int32 × Int32 × Int32 × Int32 × Int32 × Int32) := Option.bind (fX3_advance F bs ln so be 0 va) (fun z_1 => fX3_readInto_11 F bs ln F 1 pl sy sh z_1.1 z_1.2.1 z_1.2.2.1 z_1.2.2.2 sc nc)
abbrev rmX3_readInto : Room := { frames := 7, cells := 0, slots := 0, locals := 157 }
theorem pdX3_readInto : (yX3_readInto.cls = RX3 ∧ yX3_readInto.cls ≠ "java/lang/invoke/MethodHandle" ∧ yX3_readInto.cls ≠ "java/lang/invoke/VarHandle" ∧ (parseMethodDescriptor yX3_readInto.desc).map (fun d => d.parameters.length) = some 1) := by decide +kernel
set_option maxHeartbeats 4000000 in
set_option maxRecDepth 100000 in
theorem lX3_readInto_11 {p : Program} {l : Launch} {e : Env} {s : State} {m : MethodId} {av : Array Value} {below : List Frame} {meth : Method} {c : Code} {D : va_G} {cI cS : ClassId} {a0 a1 a2 a3 a4 a5 a6 : Nat} {W0 : va_W} (C0 : CX p s m av meth c RX3 cX3_readInto 5 (some .int) wsX3_readInto D cI cS) (F : Nat) (bs : Nat → Int32) (sp : Nat → Int32) (ln : Int32) (dy : Int32) (zz : Int32) (z0 : Int32) (z1 : Nat → Int32) (z2 : Nat → Int32) (z3 : Nat → Int32) (z4 : Int32) (z5 : Int32) (z6 : Int32) (z7 : Int32) (z8 : Int32) (z9 : Int32) (cs : CSt) (hCS : CST cs (wA W0) s s.heap) (hD : ∀ W : va_W, W.map Prod.fst = [a0, a1, a2, a3, a4, a5, a6] → va_D (wA W0) W) : ∀ (n : Nat) (v2 : Int32) (pl : Nat → Int32) (sy : Nat → Int32) (sh : Nat → Int32) (so : Int32) (be : Int32) (en : Int32) (va : Int32) (sc : Int32) (nc : Int32) (H : Heap) (locs : List Loc), va_P D vwCl (wTE cI cS a0 a1 a2 a3 a4 a5 a6 bs pl sp sy sh ln so be en va sc nc dy zz) H → va_S (wA W0) s.heap H locs → ∀ (ls : Array Slot), lv_has ls 5 [(0, .ref a0), (1, .ref a2), (2, .int v2)] → fX3_readInto_11 F bs ln n v2 pl sy sh so be en va sc nc = some (z0, z1, z2, z3, z4, z5, z6, z7, z8, z9) → W p l e rmX3_readInto s m av below meth c H locs 0 0 (MQ below (qI D W0 (wTE cI cS a0 a1 a2 a3 a4 a5 a6 bs z1 sp z2 z3 ln z4 z5 z6 z7 z8 z9 dy zz) z0) av s 0 0 (wA W0)) (F0 m 11 ls []) := by
  obtain ⟨hx, hb, hr, hml, hown, hts, hlk, hE⟩ := id C0
  have hinX3 : ∀ w ∈ u_ws RX3 TX3 6, w ∈ wsX3_readInto := by decide +kernel
  intro n
  induction n with
  | zero =>
    intro v2 pl sy sh so be en va sc nc H locs hP hS ls hl h
    cases (show none = some (z0, z1, z2, z3, z4, z5, z6, z7, z8, z9) from h)
  | succ n ih =>
    intro v2 pl sy sh so be en va sc nc H locs hP hS ls hl h
    rw [fX3_readInto_11] at h
    refine lv_iload_n hx hb dX3_readInto_11 rfl (lv_at hl 2 rfl) ?_
    refine lv_bipush (v := 120) hx hb dX3_readInto_12 (by decide) ?_
    refine lv_icmp_gt (tgt := 125) hx hb dX3_readInto_14 (by decide) (fun c_3 => ?_) (fun c_3 => ?_)
    · have h := ifp c_3 h
      refine lv_iconst (v := (-1)) hx hb dX3_readInto_125 (by decide) ?_
      refine lv_aload_n hx hb dX3_readInto_126 rfl (lv_at hl 0 rfl) ?_
      refine va_get (D := D) (ci := 2) (v := .int be) (C := RX3) (T := TX3) (N := 6) hx hb hts hinX3 hown hE.1 hP 0 rfl rfl 3 (by decide) (hts _ (List.mem_of_getElem? (i := 3) rfl)) (fun _ h9 => h9) rfl dX3_readInto_127 ?_
      refine lv_isub hx hb dX3_readInto_130 ?_
      obtain ⟨q0, g0⟩ := Prod.mk.inj (Option.some.inj h)
      obtain ⟨q1, g1⟩ := Prod.mk.inj g0
      obtain ⟨q2, g2⟩ := Prod.mk.inj g1
      obtain ⟨q3, g3⟩ := Prod.mk.inj g2
      obtain ⟨q4, g4⟩ := Prod.mk.inj g3
      obtain ⟨q5, g5⟩ := Prod.mk.inj g4
      obtain ⟨q6, g6⟩ := Prod.mk.inj g5
      obtain ⟨q7, g7⟩ := Prod.mk.inj g6
      obtain ⟨q8, q9⟩ := Prod.mk.inj g7
      subst q0 q1 q2 q3 q4 q5 q6 q7 q8 q9
      exact eMi C0 hP hS rfl rfl dX3_readInto_131
    · have h := ifn c_3 h
      refine lv_aload_n hx hb dX3_readInto_17 rfl (lv_at hl 0 rfl) ?_
      obtain ⟨z_4, e_5, h⟩ := bds h
      have hPc := hP.sub (ws' := (wX3 cI cS a0 a1 bs ln so be en va)) [0, 1] rfl
      refine kRi (rV C0 (tX3_kindAtHand l D cI cS cs F a0 a1 bs ln so be en va  z_4 e_5) RX3 gX3_readInto_X3_kindAtHand rfl ⟨rfl, rfl⟩ pdX3_kindAtHand rfl ⟨Nat.le_of_ble_eq_true rfl, Nat.le_of_ble_eq_true rfl⟩ (fun _ _ _ _ q => ⟨q.1, q.2.call⟩) (va_recv hE.1 hPc (ci := 2) (q0 := 0) rfl rfl) (fun U hU hW _ => ⟨by rw [hU]; exact hPc, by rw [hU]; exact ((hCS.kept hS.2.1).narrow (fun _ q => q.elim)).warm hW⟩) hl.1 rfl (Nat.le_of_ble_eq_true rfl) dX3_readInto_18 ⟨Nat.zero_le _, Nat.zero_le _⟩) ?_
      refine lv_istore_n (lv' := [(3, .int z_4), (0, .ref a0), (1, .ref a2), (2, .int v2)]) hx hb dX3_readInto_21 rfl hl (by decide) rfl (fun ls hl => ?_)
      refine lv_iload_n hx hb dX3_readInto_22 rfl (lv_at hl 0 rfl) ?_
      refine lv_iconst (v := (-1)) hx hb dX3_readInto_23 (by decide) ?_
      refine lv_icmp_eq (tgt := 38) hx hb dX3_readInto_24 (by decide) (fun c_6 => ?_) (fun c_6 => ?_)
      · have h := ifp c_6 h
        refine lv_aload_n hx hb dX3_readInto_38 rfl (lv_at hl 1 rfl) ?_
        refine va_ldcS hx hb hown (show vk_R RX3 52 "ship" (cs.1 7) s from hCS.2.2.2.1 ("VaguePort$Tape", 52, "ship", 7) (List.mem_of_getElem? (i := 9) rfl)) dX3_readInto_39 ?_
        obtain ⟨z_7, e_8, h⟩ := bds h
        have hPc := hP.sub (ws' := (wX3 cI cS a0 a1 bs ln so be en va)) [0, 1] rfl
        refine kRi (rV C0 (tX3_isWord l D cI cS cs F a0 a1 bs ln so be en va 7 z_7 e_8 (by decide)) RX3 gX3_readInto_X3_isWord rfl ⟨rfl, rfl⟩ pdX3_isWord rfl ⟨Nat.le_of_ble_eq_true rfl, Nat.le_of_ble_eq_true rfl⟩ (fun _ _ _ _ q => ⟨q.1, q.2.call⟩) (va_recv hE.1 hPc (ci := 2) (q0 := 0) rfl rfl) (fun U hU hW _ => ⟨by rw [hU]; exact hPc, by rw [hU]; exact ((hCS.kept hS.2.1).narrow (fun _ q => q.elim)).warm hW⟩) hl.1 rfl (Nat.le_of_ble_eq_true rfl) dX3_readInto_41 ⟨Nat.zero_le _, Nat.zero_le _⟩) ?_
        refine lv_if_eq (tgt := 57) hx hb dX3_readInto_44 (by decide) (fun c_9 => ?_) (fun c_9 => ?_)
        · have h := ifp c_9 h
          refine lv_aload_n hx hb dX3_readInto_57 rfl (lv_at hl 1 rfl) ?_
          refine va_ldcS hx hb hown (show vk_R RX3 62 "finish" (cs.1 8) s from hCS.2.2.2.1 ("VaguePort$Tape", 62, "finish", 8) (List.mem_of_getElem? (i := 10) rfl)) dX3_readInto_58 ?_
          obtain ⟨z_10, e_11, h⟩ := bds h
          have hPc := hP.sub (ws' := (wX3 cI cS a0 a1 bs ln so be en va)) [0, 1] rfl
          refine kRi (rV C0 (tX3_isWord l D cI cS cs F a0 a1 bs ln so be en va 8 z_10 e_11 (by decide)) RX3 gX3_readInto_X3_isWord rfl ⟨rfl, rfl⟩ pdX3_isWord rfl ⟨Nat.le_of_ble_eq_true rfl, Nat.le_of_ble_eq_true rfl⟩ (fun _ _ _ _ q => ⟨q.1, q.2.call⟩) (va_recv hE.1 hPc (ci := 2) (q0 := 0) rfl rfl) (fun U hU hW _ => ⟨by rw [hU]; exact hPc, by rw [hU]; exact ((hCS.kept hS.2.1).narrow (fun _ q => q.elim)).warm hW⟩) hl.1 rfl (Nat.le_of_ble_eq_true rfl) dX3_readInto_60 ⟨Nat.zero_le _, Nat.zero_le _⟩) ?_
          refine lv_if_eq (tgt := 78) hx hb dX3_readInto_63 (by decide) (fun c_12 => ?_) (fun c_12 => ?_)
          · have h := ifp c_12 h
            refine lv_iconst (v := 0) hx hb dX3_readInto_78 (by decide) ?_
            refine lv_istore (lv' := [(4, .int 0), (3, .int z_4), (0, .ref a0), (1, .ref a2), (2, .int v2)]) hx hb dX3_readInto_79 hl (by decide) rfl (fun ls hl => ?_)
            refine lv_iload hx hb dX3_readInto_81 (lv_at hl 0 rfl) ?_
            refine lv_if_eq (tgt := 95) hx hb dX3_readInto_83 (by decide) (fun c_13 => ?_) (fun c_13 => ?_)
            · refine lv_iload hx hb dX3_readInto_95 (lv_at hl 0 rfl) ?_
              refine lv_if_eq (tgt := 108) hx hb dX3_readInto_97 (by decide) (fun c_14 => ?_) (fun c_14 => ?_)
              · refine lv_iconst (v := (-1)) hx hb dX3_readInto_108 (by decide) ?_
                refine lv_aload_n hx hb dX3_readInto_109 rfl (lv_at hl 2 rfl) ?_
                refine va_get (D := D) (ci := 2) (v := .int be) (C := RX3) (T := TX3) (N := 6) hx hb hts hinX3 hown hE.1 hP 0 rfl rfl 3 (by decide) (hts _ (List.mem_of_getElem? (i := 3) rfl)) (fun _ h9 => h9) rfl dX3_readInto_110 ?_
                refine lv_isub hx hb dX3_readInto_113 ?_
                obtain ⟨q0, g0⟩ := Prod.mk.inj (Option.some.inj h)
                obtain ⟨q1, g1⟩ := Prod.mk.inj g0
                obtain ⟨q2, g2⟩ := Prod.mk.inj g1
                obtain ⟨q3, g3⟩ := Prod.mk.inj g2
                obtain ⟨q4, g4⟩ := Prod.mk.inj g3
                obtain ⟨q5, g5⟩ := Prod.mk.inj g4
                obtain ⟨q6, g6⟩ := Prod.mk.inj g5
                obtain ⟨q7, g7⟩ := Prod.mk.inj g6
                obtain ⟨q8, q9⟩ := Prod.mk.inj g7
                subst q0 q1 q2 q3 q4 q5 q6 q7 q8 q9
                exact eMi C0 hP hS rfl rfl dX3_readInto_114
              · exact absurd c_14 (by decide)
            · exact absurd c_13 (by decide)
          · have h := ifn c_12 h
            refine lv_aload_n hx hb dX3_readInto_66 rfl (lv_at hl 1 rfl) ?_
            refine lv_aload_n hx hb dX3_readInto_67 rfl (lv_at hl 2 rfl) ?_
            obtain ⟨z_15, e_16, h⟩ := bds h
            have hPc := hP.sub (ws' := (wTE cI cS a0 a1 a2 a3 a4 a5 a6 bs pl sp sy sh ln so be en va sc nc dy zz)) [0, 1, 2, 3, 4, 5, 6] rfl
            refine kMi (wf' := (wTE cI cS a0 a1 a2 a3 a4 a5 a6 bs z_15.2.1 sp sy sh ln z_15.2.2.1 z_15.2.2.2.1 z_15.2.2.2.2.1 z_15.2.2.2.2.2 sc nc dy zz)) [0, 1, 2, 3, 4, 5, 6] [some 0, some 1, some 2, some 3, some 4, some 5, some 6] (rV C0 (tX3_readFinish l D cI cS F a0 a1 a2 a3 a4 a5 a6 bs pl sp sy sh ln so be en va sc nc dy zz  z_15.1 z_15.2.1 z_15.2.2.1 z_15.2.2.2.1 z_15.2.2.2.2.1 z_15.2.2.2.2.2 e_16 (((hD (wTE cI cS a0 a1 a2 a3 a4 a5 a6 bs pl sp sy sh ln so be en va sc nc dy zz) rfl).sub [0, 1, 2, 3, 4, 5, 6] (by decide) rfl).weaken (fun _ _ _ _ => trivial))) RX3 gX3_readInto_X3_readFinish rfl ⟨rfl, rfl⟩ pdX3_readFinish rfl ⟨Nat.le_of_ble_eq_true rfl, Nat.le_of_ble_eq_true rfl⟩ (fun _ _ _ _ q => q) (va_recv hE.1 hPc (ci := 2) (q0 := 0) rfl rfl) (fun U hU _ _ => by rw [hU]; exact hPc) hl.1 rfl (Nat.le_of_ble_eq_true rfl) dX3_readInto_68 ⟨Nat.zero_le _, Nat.zero_le _⟩) hP (hD _ rfl) hS rfl rfl rfl (fun H locs hP hS => ?_)
            refine lv_if_eq (tgt := 78) hx hb dX3_readInto_71 (by decide) (fun c_17 => ?_) (fun c_17 => ?_)
            · have h := ifp c_17 h
              refine lv_iconst (v := 0) hx hb dX3_readInto_78 (by decide) ?_
              refine lv_istore (lv' := [(4, .int 0), (3, .int z_4), (0, .ref a0), (1, .ref a2), (2, .int v2)]) hx hb dX3_readInto_79 hl (by decide) rfl (fun ls hl => ?_)
              refine lv_iload hx hb dX3_readInto_81 (lv_at hl 0 rfl) ?_
              refine lv_if_eq (tgt := 95) hx hb dX3_readInto_83 (by decide) (fun c_18 => ?_) (fun c_18 => ?_)
              · refine lv_iload hx hb dX3_readInto_95 (lv_at hl 0 rfl) ?_
                refine lv_if_eq (tgt := 108) hx hb dX3_readInto_97 (by decide) (fun c_19 => ?_) (fun c_19 => ?_)
                · refine lv_iconst (v := (-1)) hx hb dX3_readInto_108 (by decide) ?_
                  refine lv_aload_n hx hb dX3_readInto_109 rfl (lv_at hl 2 rfl) ?_
                  refine va_get (D := D) (ci := 2) (v := .int z_15.2.2.2.1) (C := RX3) (T := TX3) (N := 6) hx hb hts hinX3 hown hE.1 hP 0 rfl rfl 3 (by decide) (hts _ (List.mem_of_getElem? (i := 3) rfl)) (fun _ h9 => h9) rfl dX3_readInto_110 ?_
                  refine lv_isub hx hb dX3_readInto_113 ?_
                  obtain ⟨q0, g0⟩ := Prod.mk.inj (Option.some.inj h)
                  obtain ⟨q1, g1⟩ := Prod.mk.inj g0
                  obtain ⟨q2, g2⟩ := Prod.mk.inj g1
                  obtain ⟨q3, g3⟩ := Prod.mk.inj g2
                  obtain ⟨q4, g4⟩ := Prod.mk.inj g3
                  obtain ⟨q5, g5⟩ := Prod.mk.inj g4
                  obtain ⟨q6, g6⟩ := Prod.mk.inj g5
                  obtain ⟨q7, g7⟩ := Prod.mk.inj g6
                  obtain ⟨q8, q9⟩ := Prod.mk.inj g7
                  subst q0 q1 q2 q3 q4 q5 q6 q7 q8 q9
                  exact eMi C0 hP hS rfl rfl dX3_readInto_114
                · exact absurd c_19 (by decide)
              · exact absurd c_18 (by decide)
            · have h := ifn c_17 h
              refine lv_iconst (v := 1) hx hb dX3_readInto_74 (by decide) ?_
              refine lv_goto (tgt := 79) hx hb dX3_readInto_75 (by decide) ?_
              refine lv_istore (lv' := [(4, .int 1), (3, .int z_4), (0, .ref a0), (1, .ref a2), (2, .int v2)]) hx hb dX3_readInto_79 hl (by decide) rfl (fun ls hl => ?_)
              refine lv_iload hx hb dX3_readInto_81 (lv_at hl 0 rfl) ?_
              refine lv_if_eq (tgt := 95) hx hb dX3_readInto_83 (by decide) (fun c_20 => ?_) (fun c_20 => ?_)
              · exact absurd c_20 (by decide)
              · refine lv_aload_n hx hb dX3_readInto_86 rfl (lv_at hl 2 rfl) ?_
                refine va_get (D := D) (ci := 2) (v := .int z_15.2.2.1) (C := RX3) (T := TX3) (N := 6) hx hb hts hinX3 hown hE.1 hP 0 rfl rfl 2 (by decide) (hts _ (List.mem_of_getElem? (i := 2) rfl)) (fun _ h9 => h9) rfl dX3_readInto_87 ?_
                refine lv_if_ne (tgt := 95) hx hb dX3_readInto_90 (by decide) (fun c_21 => ?_) (fun c_21 => ?_)
                · have h := ifn c_21 h
                  refine lv_iload hx hb dX3_readInto_95 (lv_at hl 0 rfl) ?_
                  refine lv_if_eq (tgt := 108) hx hb dX3_readInto_97 (by decide) (fun c_22 => ?_) (fun c_22 => ?_)
                  · exact absurd c_22 (by decide)
                  · refine lv_aload_n hx hb dX3_readInto_100 rfl (lv_at hl 2 rfl) ?_
                    refine va_get (D := D) (ci := 2) (v := .int z_15.2.2.1) (C := RX3) (T := TX3) (N := 6) hx hb hts hinX3 hown hE.1 hP 0 rfl rfl 2 (by decide) (hts _ (List.mem_of_getElem? (i := 2) rfl)) (fun _ h9 => h9) rfl dX3_readInto_101 ?_
                    refine lv_iconst (v := 3) hx hb dX3_readInto_104 (by decide) ?_
                    refine lv_icmp_eq (tgt := 115) hx hb dX3_readInto_105 (by decide) (fun c_23 => ?_) (fun c_23 => ?_)
                    · have h := ifp c_23 h
                      refine lv_aload_n hx hb dX3_readInto_115 rfl (lv_at hl 2 rfl) ?_
                      obtain ⟨z_24, e_25, h⟩ := bds h
                      have hPc := hP.sub (ws' := (wX3 cI cS a0 a1 bs ln z_15.2.2.1 z_15.2.2.2.1 z_15.2.2.2.2.1 z_15.2.2.2.2.2)) [0, 1] rfl
                      refine kMv (wf' := (wTE cI cS a0 a1 a2 a3 a4 a5 a6 bs z_15.2.1 sp sy sh ln z_24.1 z_24.2.1 z_24.2.2.1 z_24.2.2.2 sc nc dy zz)) [0, 1] [some 0, some 1, none, none, none, none, none] (rV C0 (tX3_advance l D cI cS F a0 a1 bs ln z_15.2.2.1 z_15.2.2.2.1 z_15.2.2.2.2.1 z_15.2.2.2.2.2  z_24.1 z_24.2.1 z_24.2.2.1 z_24.2.2.2 e_25 (((hD (wTE cI cS a0 a1 a2 a3 a4 a5 a6 bs z_15.2.1 sp sy sh ln z_15.2.2.1 z_15.2.2.2.1 z_15.2.2.2.2.1 z_15.2.2.2.2.2 sc nc dy zz) rfl).sub [0, 1] (by decide) rfl).weaken (fun _ _ _ _ => trivial))) RX3 gX3_readInto_X3_advance rfl ⟨rfl, rfl⟩ pdX3_advance rfl ⟨Nat.le_of_ble_eq_true rfl, Nat.le_of_ble_eq_true rfl⟩ (fun _ _ _ _ q => q) (va_recv hE.1 hPc (ci := 2) (q0 := 0) rfl rfl) (fun U hU _ _ => by rw [hU]; exact hPc) hl.1 rfl (Nat.le_of_ble_eq_true rfl) dX3_readInto_116 ⟨Nat.zero_le _, Nat.zero_le _⟩) hP (hD _ rfl) hS rfl rfl rfl (fun H locs hP hS => ?_)
                      refine lv_iinc (v := v2 + 1) (lv' := [(2, .int (v2 + 1)), (4, .int 1), (3, .int z_4), (0, .ref a0), (1, .ref a2)]) hx hb dX3_readInto_119 hl (k := 4) rfl rfl (by decide) rfl (fun ls hl => ?_)
                      refine lv_goto (tgt := 11) hx hb dX3_readInto_122 (by decide) ?_
                      exact ih (v2 + 1) z_15.2.1 sy sh z_24.1 z_24.2.1 z_24.2.2.1 z_24.2.2.2 sc nc _ _ hP hS _ (lv_sub hl [3, 4, 0] rfl) h
                    · have h := ifn c_23 h
                      refine lv_iconst (v := (-1)) hx hb dX3_readInto_108 (by decide) ?_
                      refine lv_aload_n hx hb dX3_readInto_109 rfl (lv_at hl 2 rfl) ?_
                      refine va_get (D := D) (ci := 2) (v := .int z_15.2.2.2.1) (C := RX3) (T := TX3) (N := 6) hx hb hts hinX3 hown hE.1 hP 0 rfl rfl 3 (by decide) (hts _ (List.mem_of_getElem? (i := 3) rfl)) (fun _ h9 => h9) rfl dX3_readInto_110 ?_
                      refine lv_isub hx hb dX3_readInto_113 ?_
                      obtain ⟨q0, g0⟩ := Prod.mk.inj (Option.some.inj h)
                      obtain ⟨q1, g1⟩ := Prod.mk.inj g0
                      obtain ⟨q2, g2⟩ := Prod.mk.inj g1
                      obtain ⟨q3, g3⟩ := Prod.mk.inj g2
                      obtain ⟨q4, g4⟩ := Prod.mk.inj g3
                      obtain ⟨q5, g5⟩ := Prod.mk.inj g4
                      obtain ⟨q6, g6⟩ := Prod.mk.inj g5
                      obtain ⟨q7, g7⟩ := Prod.mk.inj g6
                      obtain ⟨q8, q9⟩ := Prod.mk.inj g7
                      subst q0 q1 q2 q3 q4 q5 q6 q7 q8 q9
                      exact eMi C0 hP hS rfl rfl dX3_readInto_114
                · have h := ifp c_21 h
                  refine lv_iload_n hx hb dX3_readInto_93 rfl (lv_at hl 4 rfl) ?_
                  obtain ⟨q0, g0⟩ := Prod.mk.inj (Option.some.inj h)
                  obtain ⟨q1, g1⟩ := Prod.mk.inj g0
                  obtain ⟨q2, g2⟩ := Prod.mk.inj g1
                  obtain ⟨q3, g3⟩ := Prod.mk.inj g2
                  obtain ⟨q4, g4⟩ := Prod.mk.inj g3
                  obtain ⟨q5, g5⟩ := Prod.mk.inj g4
                  obtain ⟨q6, g6⟩ := Prod.mk.inj g5
                  obtain ⟨q7, g7⟩ := Prod.mk.inj g6
                  obtain ⟨q8, q9⟩ := Prod.mk.inj g7
                  subst q0 q1 q2 q3 q4 q5 q6 q7 q8 q9
                  exact eMi C0 hP hS rfl rfl dX3_readInto_94
        · have h := ifn c_9 h
          refine lv_aload_n hx hb dX3_readInto_47 rfl (lv_at hl 1 rfl) ?_
          refine lv_aload_n hx hb dX3_readInto_48 rfl (lv_at hl 2 rfl) ?_
          obtain ⟨z_26, e_27, h⟩ := bds h
          have hPc := hP.sub (ws' := (wTE cI cS a0 a1 a2 a3 a4 a5 a6 bs pl sp sy sh ln so be en va sc nc dy zz)) [0, 1, 2, 3, 4, 5, 6] rfl
          refine kMi (wf' := (wTE cI cS a0 a1 a2 a3 a4 a5 a6 bs pl sp sy z_26.2.1 ln z_26.2.2.1 z_26.2.2.2.1 z_26.2.2.2.2.1 z_26.2.2.2.2.2.1 sc z_26.2.2.2.2.2.2 dy zz)) [0, 1, 2, 3, 4, 5, 6] [some 0, some 1, some 2, some 3, some 4, some 5, some 6] (rV C0 (tX3_readShip l D cI cS cs F a0 a1 a2 a3 a4 a5 a6 bs pl sp sy sh ln so be en va sc nc dy zz  z_26.1 z_26.2.1 z_26.2.2.1 z_26.2.2.2.1 z_26.2.2.2.2.1 z_26.2.2.2.2.2.1 z_26.2.2.2.2.2.2 e_27 (((hD (wTE cI cS a0 a1 a2 a3 a4 a5 a6 bs pl sp sy sh ln so be en va sc nc dy zz) rfl).sub [0, 1, 2, 3, 4, 5, 6] (by decide) rfl).weaken (fun _ _ _ _ => trivial))) RX3 gX3_readInto_X3_readShip rfl ⟨rfl, rfl⟩ pdX3_readShip rfl ⟨Nat.le_of_ble_eq_true rfl, Nat.le_of_ble_eq_true rfl⟩ (fun _ _ _ _ q => ⟨q.1, q.2.call⟩) (va_recv hE.1 hPc (ci := 2) (q0 := 0) rfl rfl) (fun U hU hW _ => ⟨by rw [hU]; exact hPc, by rw [hU]; exact ((hCS.kept hS.2.1).narrow (fun q h => va_D.inA (hD (wTE cI cS a0 a1 a2 a3 a4 a5 a6 bs pl sp sy sh ln so be en va sc nc dy zz) rfl) [0, 1, 2, 3, 4, 5, 6] rfl h)).warm hW⟩) hl.1 rfl (Nat.le_of_ble_eq_true rfl) dX3_readInto_49 ⟨Nat.zero_le _, Nat.zero_le _⟩) hP (hD _ rfl) hS rfl rfl rfl (fun H locs hP hS => ?_)
          refine lv_istore (lv' := [(4, .int z_26.1), (3, .int z_4), (0, .ref a0), (1, .ref a2), (2, .int v2)]) hx hb dX3_readInto_52 hl (by decide) rfl (fun ls hl => ?_)
          refine lv_goto (tgt := 81) hx hb dX3_readInto_54 (by decide) ?_
          refine lv_iload hx hb dX3_readInto_81 (lv_at hl 0 rfl) ?_
          refine lv_if_eq (tgt := 95) hx hb dX3_readInto_83 (by decide) (fun c_28 => ?_) (fun c_28 => ?_)
          · have h := ifp c_28 h
            refine lv_iload hx hb dX3_readInto_95 (lv_at hl 0 rfl) ?_
            refine lv_if_eq (tgt := 108) hx hb dX3_readInto_97 (by decide) (fun c_29 => ?_) (fun c_29 => ?_)
            · have h := ifp c_29 h
              refine lv_iconst (v := (-1)) hx hb dX3_readInto_108 (by decide) ?_
              refine lv_aload_n hx hb dX3_readInto_109 rfl (lv_at hl 2 rfl) ?_
              refine va_get (D := D) (ci := 2) (v := .int z_26.2.2.2.1) (C := RX3) (T := TX3) (N := 6) hx hb hts hinX3 hown hE.1 hP 0 rfl rfl 3 (by decide) (hts _ (List.mem_of_getElem? (i := 3) rfl)) (fun _ h9 => h9) rfl dX3_readInto_110 ?_
              refine lv_isub hx hb dX3_readInto_113 ?_
              obtain ⟨q0, g0⟩ := Prod.mk.inj (Option.some.inj h)
              obtain ⟨q1, g1⟩ := Prod.mk.inj g0
              obtain ⟨q2, g2⟩ := Prod.mk.inj g1
              obtain ⟨q3, g3⟩ := Prod.mk.inj g2
              obtain ⟨q4, g4⟩ := Prod.mk.inj g3
              obtain ⟨q5, g5⟩ := Prod.mk.inj g4
              obtain ⟨q6, g6⟩ := Prod.mk.inj g5
              obtain ⟨q7, g7⟩ := Prod.mk.inj g6
              obtain ⟨q8, q9⟩ := Prod.mk.inj g7
              subst q0 q1 q2 q3 q4 q5 q6 q7 q8 q9
              exact eMi C0 hP hS rfl rfl dX3_readInto_114
            · have h := ifn c_29 h
              refine lv_aload_n hx hb dX3_readInto_100 rfl (lv_at hl 2 rfl) ?_
              refine va_get (D := D) (ci := 2) (v := .int z_26.2.2.1) (C := RX3) (T := TX3) (N := 6) hx hb hts hinX3 hown hE.1 hP 0 rfl rfl 2 (by decide) (hts _ (List.mem_of_getElem? (i := 2) rfl)) (fun _ h9 => h9) rfl dX3_readInto_101 ?_
              refine lv_iconst (v := 3) hx hb dX3_readInto_104 (by decide) ?_
              refine lv_icmp_eq (tgt := 115) hx hb dX3_readInto_105 (by decide) (fun c_30 => ?_) (fun c_30 => ?_)
              · have h := ifp c_30 h
                refine lv_aload_n hx hb dX3_readInto_115 rfl (lv_at hl 2 rfl) ?_
                obtain ⟨z_31, e_32, h⟩ := bds h
                have hPc := hP.sub (ws' := (wX3 cI cS a0 a1 bs ln z_26.2.2.1 z_26.2.2.2.1 z_26.2.2.2.2.1 z_26.2.2.2.2.2.1)) [0, 1] rfl
                refine kMv (wf' := (wTE cI cS a0 a1 a2 a3 a4 a5 a6 bs pl sp sy z_26.2.1 ln z_31.1 z_31.2.1 z_31.2.2.1 z_31.2.2.2 sc z_26.2.2.2.2.2.2 dy zz)) [0, 1] [some 0, some 1, none, none, none, none, none] (rV C0 (tX3_advance l D cI cS F a0 a1 bs ln z_26.2.2.1 z_26.2.2.2.1 z_26.2.2.2.2.1 z_26.2.2.2.2.2.1  z_31.1 z_31.2.1 z_31.2.2.1 z_31.2.2.2 e_32 (((hD (wTE cI cS a0 a1 a2 a3 a4 a5 a6 bs pl sp sy z_26.2.1 ln z_26.2.2.1 z_26.2.2.2.1 z_26.2.2.2.2.1 z_26.2.2.2.2.2.1 sc z_26.2.2.2.2.2.2 dy zz) rfl).sub [0, 1] (by decide) rfl).weaken (fun _ _ _ _ => trivial))) RX3 gX3_readInto_X3_advance rfl ⟨rfl, rfl⟩ pdX3_advance rfl ⟨Nat.le_of_ble_eq_true rfl, Nat.le_of_ble_eq_true rfl⟩ (fun _ _ _ _ q => q) (va_recv hE.1 hPc (ci := 2) (q0 := 0) rfl rfl) (fun U hU _ _ => by rw [hU]; exact hPc) hl.1 rfl (Nat.le_of_ble_eq_true rfl) dX3_readInto_116 ⟨Nat.zero_le _, Nat.zero_le _⟩) hP (hD _ rfl) hS rfl rfl rfl (fun H locs hP hS => ?_)
                refine lv_iinc (v := v2 + 1) (lv' := [(2, .int (v2 + 1)), (4, .int z_26.1), (3, .int z_4), (0, .ref a0), (1, .ref a2)]) hx hb dX3_readInto_119 hl (k := 4) rfl rfl (by decide) rfl (fun ls hl => ?_)
                refine lv_goto (tgt := 11) hx hb dX3_readInto_122 (by decide) ?_
                exact ih (v2 + 1) pl sy z_26.2.1 z_31.1 z_31.2.1 z_31.2.2.1 z_31.2.2.2 sc z_26.2.2.2.2.2.2 _ _ hP hS _ (lv_sub hl [3, 4, 0] rfl) h
              · have h := ifn c_30 h
                refine lv_iconst (v := (-1)) hx hb dX3_readInto_108 (by decide) ?_
                refine lv_aload_n hx hb dX3_readInto_109 rfl (lv_at hl 2 rfl) ?_
                refine va_get (D := D) (ci := 2) (v := .int z_26.2.2.2.1) (C := RX3) (T := TX3) (N := 6) hx hb hts hinX3 hown hE.1 hP 0 rfl rfl 3 (by decide) (hts _ (List.mem_of_getElem? (i := 3) rfl)) (fun _ h9 => h9) rfl dX3_readInto_110 ?_
                refine lv_isub hx hb dX3_readInto_113 ?_
                obtain ⟨q0, g0⟩ := Prod.mk.inj (Option.some.inj h)
                obtain ⟨q1, g1⟩ := Prod.mk.inj g0
                obtain ⟨q2, g2⟩ := Prod.mk.inj g1
                obtain ⟨q3, g3⟩ := Prod.mk.inj g2
                obtain ⟨q4, g4⟩ := Prod.mk.inj g3
                obtain ⟨q5, g5⟩ := Prod.mk.inj g4
                obtain ⟨q6, g6⟩ := Prod.mk.inj g5
                obtain ⟨q7, g7⟩ := Prod.mk.inj g6
                obtain ⟨q8, q9⟩ := Prod.mk.inj g7
                subst q0 q1 q2 q3 q4 q5 q6 q7 q8 q9
                exact eMi C0 hP hS rfl rfl dX3_readInto_114
          · have h := ifn c_28 h
            refine lv_aload_n hx hb dX3_readInto_86 rfl (lv_at hl 2 rfl) ?_
            refine va_get (D := D) (ci := 2) (v := .int z_26.2.2.1) (C := RX3) (T := TX3) (N := 6) hx hb hts hinX3 hown hE.1 hP 0 rfl rfl 2 (by decide) (hts _ (List.mem_of_getElem? (i := 2) rfl)) (fun _ h9 => h9) rfl dX3_readInto_87 ?_
            refine lv_if_ne (tgt := 95) hx hb dX3_readInto_90 (by decide) (fun c_33 => ?_) (fun c_33 => ?_)
            · have h := ifn c_33 h
              refine lv_iload hx hb dX3_readInto_95 (lv_at hl 0 rfl) ?_
              refine lv_if_eq (tgt := 108) hx hb dX3_readInto_97 (by decide) (fun c_34 => ?_) (fun c_34 => ?_)
              · have h := ifp c_34 h
                refine lv_iconst (v := (-1)) hx hb dX3_readInto_108 (by decide) ?_
                refine lv_aload_n hx hb dX3_readInto_109 rfl (lv_at hl 2 rfl) ?_
                refine va_get (D := D) (ci := 2) (v := .int z_26.2.2.2.1) (C := RX3) (T := TX3) (N := 6) hx hb hts hinX3 hown hE.1 hP 0 rfl rfl 3 (by decide) (hts _ (List.mem_of_getElem? (i := 3) rfl)) (fun _ h9 => h9) rfl dX3_readInto_110 ?_
                refine lv_isub hx hb dX3_readInto_113 ?_
                obtain ⟨q0, g0⟩ := Prod.mk.inj (Option.some.inj h)
                obtain ⟨q1, g1⟩ := Prod.mk.inj g0
                obtain ⟨q2, g2⟩ := Prod.mk.inj g1
                obtain ⟨q3, g3⟩ := Prod.mk.inj g2
                obtain ⟨q4, g4⟩ := Prod.mk.inj g3
                obtain ⟨q5, g5⟩ := Prod.mk.inj g4
                obtain ⟨q6, g6⟩ := Prod.mk.inj g5
                obtain ⟨q7, g7⟩ := Prod.mk.inj g6
                obtain ⟨q8, q9⟩ := Prod.mk.inj g7
                subst q0 q1 q2 q3 q4 q5 q6 q7 q8 q9
                exact eMi C0 hP hS rfl rfl dX3_readInto_114
              · have h := ifn c_34 h
                refine lv_aload_n hx hb dX3_readInto_100 rfl (lv_at hl 2 rfl) ?_
                refine va_get (D := D) (ci := 2) (v := .int z_26.2.2.1) (C := RX3) (T := TX3) (N := 6) hx hb hts hinX3 hown hE.1 hP 0 rfl rfl 2 (by decide) (hts _ (List.mem_of_getElem? (i := 2) rfl)) (fun _ h9 => h9) rfl dX3_readInto_101 ?_
                refine lv_iconst (v := 3) hx hb dX3_readInto_104 (by decide) ?_
                refine lv_icmp_eq (tgt := 115) hx hb dX3_readInto_105 (by decide) (fun c_35 => ?_) (fun c_35 => ?_)
                · have h := ifp c_35 h
                  refine lv_aload_n hx hb dX3_readInto_115 rfl (lv_at hl 2 rfl) ?_
                  obtain ⟨z_36, e_37, h⟩ := bds h
                  have hPc := hP.sub (ws' := (wX3 cI cS a0 a1 bs ln z_26.2.2.1 z_26.2.2.2.1 z_26.2.2.2.2.1 z_26.2.2.2.2.2.1)) [0, 1] rfl
                  refine kMv (wf' := (wTE cI cS a0 a1 a2 a3 a4 a5 a6 bs pl sp sy z_26.2.1 ln z_36.1 z_36.2.1 z_36.2.2.1 z_36.2.2.2 sc z_26.2.2.2.2.2.2 dy zz)) [0, 1] [some 0, some 1, none, none, none, none, none] (rV C0 (tX3_advance l D cI cS F a0 a1 bs ln z_26.2.2.1 z_26.2.2.2.1 z_26.2.2.2.2.1 z_26.2.2.2.2.2.1  z_36.1 z_36.2.1 z_36.2.2.1 z_36.2.2.2 e_37 (((hD (wTE cI cS a0 a1 a2 a3 a4 a5 a6 bs pl sp sy z_26.2.1 ln z_26.2.2.1 z_26.2.2.2.1 z_26.2.2.2.2.1 z_26.2.2.2.2.2.1 sc z_26.2.2.2.2.2.2 dy zz) rfl).sub [0, 1] (by decide) rfl).weaken (fun _ _ _ _ => trivial))) RX3 gX3_readInto_X3_advance rfl ⟨rfl, rfl⟩ pdX3_advance rfl ⟨Nat.le_of_ble_eq_true rfl, Nat.le_of_ble_eq_true rfl⟩ (fun _ _ _ _ q => q) (va_recv hE.1 hPc (ci := 2) (q0 := 0) rfl rfl) (fun U hU _ _ => by rw [hU]; exact hPc) hl.1 rfl (Nat.le_of_ble_eq_true rfl) dX3_readInto_116 ⟨Nat.zero_le _, Nat.zero_le _⟩) hP (hD _ rfl) hS rfl rfl rfl (fun H locs hP hS => ?_)
                  refine lv_iinc (v := v2 + 1) (lv' := [(2, .int (v2 + 1)), (4, .int z_26.1), (3, .int z_4), (0, .ref a0), (1, .ref a2)]) hx hb dX3_readInto_119 hl (k := 4) rfl rfl (by decide) rfl (fun ls hl => ?_)
                  refine lv_goto (tgt := 11) hx hb dX3_readInto_122 (by decide) ?_
                  exact ih (v2 + 1) pl sy z_26.2.1 z_36.1 z_36.2.1 z_36.2.2.1 z_36.2.2.2 sc z_26.2.2.2.2.2.2 _ _ hP hS _ (lv_sub hl [3, 4, 0] rfl) h
                · have h := ifn c_35 h
                  refine lv_iconst (v := (-1)) hx hb dX3_readInto_108 (by decide) ?_
                  refine lv_aload_n hx hb dX3_readInto_109 rfl (lv_at hl 2 rfl) ?_
                  refine va_get (D := D) (ci := 2) (v := .int z_26.2.2.2.1) (C := RX3) (T := TX3) (N := 6) hx hb hts hinX3 hown hE.1 hP 0 rfl rfl 3 (by decide) (hts _ (List.mem_of_getElem? (i := 3) rfl)) (fun _ h9 => h9) rfl dX3_readInto_110 ?_
                  refine lv_isub hx hb dX3_readInto_113 ?_
                  obtain ⟨q0, g0⟩ := Prod.mk.inj (Option.some.inj h)
                  obtain ⟨q1, g1⟩ := Prod.mk.inj g0
                  obtain ⟨q2, g2⟩ := Prod.mk.inj g1
                  obtain ⟨q3, g3⟩ := Prod.mk.inj g2
                  obtain ⟨q4, g4⟩ := Prod.mk.inj g3
                  obtain ⟨q5, g5⟩ := Prod.mk.inj g4
                  obtain ⟨q6, g6⟩ := Prod.mk.inj g5
                  obtain ⟨q7, g7⟩ := Prod.mk.inj g6
                  obtain ⟨q8, q9⟩ := Prod.mk.inj g7
                  subst q0 q1 q2 q3 q4 q5 q6 q7 q8 q9
                  exact eMi C0 hP hS rfl rfl dX3_readInto_114
            · have h := ifp c_33 h
              refine lv_iload_n hx hb dX3_readInto_93 rfl (lv_at hl 4 rfl) ?_
              obtain ⟨q0, g0⟩ := Prod.mk.inj (Option.some.inj h)
              obtain ⟨q1, g1⟩ := Prod.mk.inj g0
              obtain ⟨q2, g2⟩ := Prod.mk.inj g1
              obtain ⟨q3, g3⟩ := Prod.mk.inj g2
              obtain ⟨q4, g4⟩ := Prod.mk.inj g3
              obtain ⟨q5, g5⟩ := Prod.mk.inj g4
              obtain ⟨q6, g6⟩ := Prod.mk.inj g5
              obtain ⟨q7, g7⟩ := Prod.mk.inj g6
              obtain ⟨q8, q9⟩ := Prod.mk.inj g7
              subst q0 q1 q2 q3 q4 q5 q6 q7 q8 q9
              exact eMi C0 hP hS rfl rfl dX3_readInto_94
      · have h := ifn c_6 h
        refine lv_aload_n hx hb dX3_readInto_27 rfl (lv_at hl 1 rfl) ?_
        refine lv_aload_n hx hb dX3_readInto_28 rfl (lv_at hl 2 rfl) ?_
        refine lv_iload_n hx hb dX3_readInto_29 rfl (lv_at hl 0 rfl) ?_
        obtain ⟨z_38, e_39, h⟩ := bds h
        have hPc := hP.sub (ws' := (wTE cI cS a0 a1 a2 a3 a4 a5 a6 bs pl sp sy sh ln so be en va sc nc dy zz)) [0, 1, 2, 3, 4, 5, 6] rfl
        refine kMi (wf' := (wTE cI cS a0 a1 a2 a3 a4 a5 a6 bs pl sp z_38.2.1 sh ln z_38.2.2.1 z_38.2.2.2.1 z_38.2.2.2.2.1 z_38.2.2.2.2.2.1 z_38.2.2.2.2.2.2 nc dy zz)) [0, 1, 2, 3, 4, 5, 6] [some 0, some 1, some 2, some 3, some 4, some 5, some 6] (rV C0 (tX3_readSaying l D cI cS cs F a0 a1 a2 a3 a4 a5 a6 bs pl sp sy sh ln so be en va sc nc dy zz z_4 z_38.1 z_38.2.1 z_38.2.2.1 z_38.2.2.2.1 z_38.2.2.2.2.1 z_38.2.2.2.2.2.1 z_38.2.2.2.2.2.2 e_39 (((hD (wTE cI cS a0 a1 a2 a3 a4 a5 a6 bs pl sp sy sh ln so be en va sc nc dy zz) rfl).sub [0, 1, 2, 3, 4, 5, 6] (by decide) rfl).weaken (fun _ _ _ _ => trivial))) RX3 gX3_readInto_X3_readSaying rfl ⟨rfl, rfl⟩ pdX3_readSaying rfl ⟨Nat.le_of_ble_eq_true rfl, Nat.le_of_ble_eq_true rfl⟩ (fun _ _ _ _ q => ⟨q.1, q.2.call⟩) (va_recv hE.1 hPc (ci := 2) (q0 := 0) rfl rfl) (fun U hU hW _ => ⟨by rw [hU]; exact hPc, by rw [hU]; exact ((hCS.kept hS.2.1).narrow (fun q h => va_D.inA (hD (wTE cI cS a0 a1 a2 a3 a4 a5 a6 bs pl sp sy sh ln so be en va sc nc dy zz) rfl) [0, 1, 2, 3, 4, 5, 6] rfl h)).warm hW⟩) hl.1 rfl (Nat.le_of_ble_eq_true rfl) dX3_readInto_30 ⟨Nat.zero_le _, Nat.zero_le _⟩) hP (hD _ rfl) hS rfl rfl rfl (fun H locs hP hS => ?_)
        refine lv_istore (lv' := [(4, .int z_38.1), (3, .int z_4), (0, .ref a0), (1, .ref a2), (2, .int v2)]) hx hb dX3_readInto_33 hl (by decide) rfl (fun ls hl => ?_)
        refine lv_goto (tgt := 81) hx hb dX3_readInto_35 (by decide) ?_
        refine lv_iload hx hb dX3_readInto_81 (lv_at hl 0 rfl) ?_
        refine lv_if_eq (tgt := 95) hx hb dX3_readInto_83 (by decide) (fun c_40 => ?_) (fun c_40 => ?_)
        · have h := ifp c_40 h
          refine lv_iload hx hb dX3_readInto_95 (lv_at hl 0 rfl) ?_
          refine lv_if_eq (tgt := 108) hx hb dX3_readInto_97 (by decide) (fun c_41 => ?_) (fun c_41 => ?_)
          · have h := ifp c_41 h
            refine lv_iconst (v := (-1)) hx hb dX3_readInto_108 (by decide) ?_
            refine lv_aload_n hx hb dX3_readInto_109 rfl (lv_at hl 2 rfl) ?_
            refine va_get (D := D) (ci := 2) (v := .int z_38.2.2.2.1) (C := RX3) (T := TX3) (N := 6) hx hb hts hinX3 hown hE.1 hP 0 rfl rfl 3 (by decide) (hts _ (List.mem_of_getElem? (i := 3) rfl)) (fun _ h9 => h9) rfl dX3_readInto_110 ?_
            refine lv_isub hx hb dX3_readInto_113 ?_
            obtain ⟨q0, g0⟩ := Prod.mk.inj (Option.some.inj h)
            obtain ⟨q1, g1⟩ := Prod.mk.inj g0
            obtain ⟨q2, g2⟩ := Prod.mk.inj g1
            obtain ⟨q3, g3⟩ := Prod.mk.inj g2
            obtain ⟨q4, g4⟩ := Prod.mk.inj g3
            obtain ⟨q5, g5⟩ := Prod.mk.inj g4
            obtain ⟨q6, g6⟩ := Prod.mk.inj g5
            obtain ⟨q7, g7⟩ := Prod.mk.inj g6
            obtain ⟨q8, q9⟩ := Prod.mk.inj g7
            subst q0 q1 q2 q3 q4 q5 q6 q7 q8 q9
            exact eMi C0 hP hS rfl rfl dX3_readInto_114
          · have h := ifn c_41 h
            refine lv_aload_n hx hb dX3_readInto_100 rfl (lv_at hl 2 rfl) ?_
            refine va_get (D := D) (ci := 2) (v := .int z_38.2.2.1) (C := RX3) (T := TX3) (N := 6) hx hb hts hinX3 hown hE.1 hP 0 rfl rfl 2 (by decide) (hts _ (List.mem_of_getElem? (i := 2) rfl)) (fun _ h9 => h9) rfl dX3_readInto_101 ?_
            refine lv_iconst (v := 3) hx hb dX3_readInto_104 (by decide) ?_
            refine lv_icmp_eq (tgt := 115) hx hb dX3_readInto_105 (by decide) (fun c_42 => ?_) (fun c_42 => ?_)
            · have h := ifp c_42 h
              refine lv_aload_n hx hb dX3_readInto_115 rfl (lv_at hl 2 rfl) ?_
              obtain ⟨z_43, e_44, h⟩ := bds h
              have hPc := hP.sub (ws' := (wX3 cI cS a0 a1 bs ln z_38.2.2.1 z_38.2.2.2.1 z_38.2.2.2.2.1 z_38.2.2.2.2.2.1)) [0, 1] rfl
              refine kMv (wf' := (wTE cI cS a0 a1 a2 a3 a4 a5 a6 bs pl sp z_38.2.1 sh ln z_43.1 z_43.2.1 z_43.2.2.1 z_43.2.2.2 z_38.2.2.2.2.2.2 nc dy zz)) [0, 1] [some 0, some 1, none, none, none, none, none] (rV C0 (tX3_advance l D cI cS F a0 a1 bs ln z_38.2.2.1 z_38.2.2.2.1 z_38.2.2.2.2.1 z_38.2.2.2.2.2.1  z_43.1 z_43.2.1 z_43.2.2.1 z_43.2.2.2 e_44 (((hD (wTE cI cS a0 a1 a2 a3 a4 a5 a6 bs pl sp z_38.2.1 sh ln z_38.2.2.1 z_38.2.2.2.1 z_38.2.2.2.2.1 z_38.2.2.2.2.2.1 z_38.2.2.2.2.2.2 nc dy zz) rfl).sub [0, 1] (by decide) rfl).weaken (fun _ _ _ _ => trivial))) RX3 gX3_readInto_X3_advance rfl ⟨rfl, rfl⟩ pdX3_advance rfl ⟨Nat.le_of_ble_eq_true rfl, Nat.le_of_ble_eq_true rfl⟩ (fun _ _ _ _ q => q) (va_recv hE.1 hPc (ci := 2) (q0 := 0) rfl rfl) (fun U hU _ _ => by rw [hU]; exact hPc) hl.1 rfl (Nat.le_of_ble_eq_true rfl) dX3_readInto_116 ⟨Nat.zero_le _, Nat.zero_le _⟩) hP (hD _ rfl) hS rfl rfl rfl (fun H locs hP hS => ?_)
              refine lv_iinc (v := v2 + 1) (lv' := [(2, .int (v2 + 1)), (4, .int z_38.1), (3, .int z_4), (0, .ref a0), (1, .ref a2)]) hx hb dX3_readInto_119 hl (k := 4) rfl rfl (by decide) rfl (fun ls hl => ?_)
              refine lv_goto (tgt := 11) hx hb dX3_readInto_122 (by decide) ?_
              exact ih (v2 + 1) pl z_38.2.1 sh z_43.1 z_43.2.1 z_43.2.2.1 z_43.2.2.2 z_38.2.2.2.2.2.2 nc _ _ hP hS _ (lv_sub hl [3, 4, 0] rfl) h
            · have h := ifn c_42 h
              refine lv_iconst (v := (-1)) hx hb dX3_readInto_108 (by decide) ?_
              refine lv_aload_n hx hb dX3_readInto_109 rfl (lv_at hl 2 rfl) ?_
              refine va_get (D := D) (ci := 2) (v := .int z_38.2.2.2.1) (C := RX3) (T := TX3) (N := 6) hx hb hts hinX3 hown hE.1 hP 0 rfl rfl 3 (by decide) (hts _ (List.mem_of_getElem? (i := 3) rfl)) (fun _ h9 => h9) rfl dX3_readInto_110 ?_
              refine lv_isub hx hb dX3_readInto_113 ?_
              obtain ⟨q0, g0⟩ := Prod.mk.inj (Option.some.inj h)
              obtain ⟨q1, g1⟩ := Prod.mk.inj g0
              obtain ⟨q2, g2⟩ := Prod.mk.inj g1
              obtain ⟨q3, g3⟩ := Prod.mk.inj g2
              obtain ⟨q4, g4⟩ := Prod.mk.inj g3
              obtain ⟨q5, g5⟩ := Prod.mk.inj g4
              obtain ⟨q6, g6⟩ := Prod.mk.inj g5
              obtain ⟨q7, g7⟩ := Prod.mk.inj g6
              obtain ⟨q8, q9⟩ := Prod.mk.inj g7
              subst q0 q1 q2 q3 q4 q5 q6 q7 q8 q9
              exact eMi C0 hP hS rfl rfl dX3_readInto_114
        · have h := ifn c_40 h
          refine lv_aload_n hx hb dX3_readInto_86 rfl (lv_at hl 2 rfl) ?_
          refine va_get (D := D) (ci := 2) (v := .int z_38.2.2.1) (C := RX3) (T := TX3) (N := 6) hx hb hts hinX3 hown hE.1 hP 0 rfl rfl 2 (by decide) (hts _ (List.mem_of_getElem? (i := 2) rfl)) (fun _ h9 => h9) rfl dX3_readInto_87 ?_
          refine lv_if_ne (tgt := 95) hx hb dX3_readInto_90 (by decide) (fun c_45 => ?_) (fun c_45 => ?_)
          · have h := ifn c_45 h
            refine lv_iload hx hb dX3_readInto_95 (lv_at hl 0 rfl) ?_
            refine lv_if_eq (tgt := 108) hx hb dX3_readInto_97 (by decide) (fun c_46 => ?_) (fun c_46 => ?_)
            · have h := ifp c_46 h
              refine lv_iconst (v := (-1)) hx hb dX3_readInto_108 (by decide) ?_
              refine lv_aload_n hx hb dX3_readInto_109 rfl (lv_at hl 2 rfl) ?_
              refine va_get (D := D) (ci := 2) (v := .int z_38.2.2.2.1) (C := RX3) (T := TX3) (N := 6) hx hb hts hinX3 hown hE.1 hP 0 rfl rfl 3 (by decide) (hts _ (List.mem_of_getElem? (i := 3) rfl)) (fun _ h9 => h9) rfl dX3_readInto_110 ?_
              refine lv_isub hx hb dX3_readInto_113 ?_
              obtain ⟨q0, g0⟩ := Prod.mk.inj (Option.some.inj h)
              obtain ⟨q1, g1⟩ := Prod.mk.inj g0
              obtain ⟨q2, g2⟩ := Prod.mk.inj g1
              obtain ⟨q3, g3⟩ := Prod.mk.inj g2
              obtain ⟨q4, g4⟩ := Prod.mk.inj g3
              obtain ⟨q5, g5⟩ := Prod.mk.inj g4
              obtain ⟨q6, g6⟩ := Prod.mk.inj g5
              obtain ⟨q7, g7⟩ := Prod.mk.inj g6
              obtain ⟨q8, q9⟩ := Prod.mk.inj g7
              subst q0 q1 q2 q3 q4 q5 q6 q7 q8 q9
              exact eMi C0 hP hS rfl rfl dX3_readInto_114
            · have h := ifn c_46 h
              refine lv_aload_n hx hb dX3_readInto_100 rfl (lv_at hl 2 rfl) ?_
              refine va_get (D := D) (ci := 2) (v := .int z_38.2.2.1) (C := RX3) (T := TX3) (N := 6) hx hb hts hinX3 hown hE.1 hP 0 rfl rfl 2 (by decide) (hts _ (List.mem_of_getElem? (i := 2) rfl)) (fun _ h9 => h9) rfl dX3_readInto_101 ?_
              refine lv_iconst (v := 3) hx hb dX3_readInto_104 (by decide) ?_
              refine lv_icmp_eq (tgt := 115) hx hb dX3_readInto_105 (by decide) (fun c_47 => ?_) (fun c_47 => ?_)
              · have h := ifp c_47 h
                refine lv_aload_n hx hb dX3_readInto_115 rfl (lv_at hl 2 rfl) ?_
                obtain ⟨z_48, e_49, h⟩ := bds h
                have hPc := hP.sub (ws' := (wX3 cI cS a0 a1 bs ln z_38.2.2.1 z_38.2.2.2.1 z_38.2.2.2.2.1 z_38.2.2.2.2.2.1)) [0, 1] rfl
                refine kMv (wf' := (wTE cI cS a0 a1 a2 a3 a4 a5 a6 bs pl sp z_38.2.1 sh ln z_48.1 z_48.2.1 z_48.2.2.1 z_48.2.2.2 z_38.2.2.2.2.2.2 nc dy zz)) [0, 1] [some 0, some 1, none, none, none, none, none] (rV C0 (tX3_advance l D cI cS F a0 a1 bs ln z_38.2.2.1 z_38.2.2.2.1 z_38.2.2.2.2.1 z_38.2.2.2.2.2.1  z_48.1 z_48.2.1 z_48.2.2.1 z_48.2.2.2 e_49 (((hD (wTE cI cS a0 a1 a2 a3 a4 a5 a6 bs pl sp z_38.2.1 sh ln z_38.2.2.1 z_38.2.2.2.1 z_38.2.2.2.2.1 z_38.2.2.2.2.2.1 z_38.2.2.2.2.2.2 nc dy zz) rfl).sub [0, 1] (by decide) rfl).weaken (fun _ _ _ _ => trivial))) RX3 gX3_readInto_X3_advance rfl ⟨rfl, rfl⟩ pdX3_advance rfl ⟨Nat.le_of_ble_eq_true rfl, Nat.le_of_ble_eq_true rfl⟩ (fun _ _ _ _ q => q) (va_recv hE.1 hPc (ci := 2) (q0 := 0) rfl rfl) (fun U hU _ _ => by rw [hU]; exact hPc) hl.1 rfl (Nat.le_of_ble_eq_true rfl) dX3_readInto_116 ⟨Nat.zero_le _, Nat.zero_le _⟩) hP (hD _ rfl) hS rfl rfl rfl (fun H locs hP hS => ?_)
                refine lv_iinc (v := v2 + 1) (lv' := [(2, .int (v2 + 1)), (4, .int z_38.1), (3, .int z_4), (0, .ref a0), (1, .ref a2)]) hx hb dX3_readInto_119 hl (k := 4) rfl rfl (by decide) rfl (fun ls hl => ?_)
                refine lv_goto (tgt := 11) hx hb dX3_readInto_122 (by decide) ?_
                exact ih (v2 + 1) pl z_38.2.1 sh z_48.1 z_48.2.1 z_48.2.2.1 z_48.2.2.2 z_38.2.2.2.2.2.2 nc _ _ hP hS _ (lv_sub hl [3, 4, 0] rfl) h
              · have h := ifn c_47 h
                refine lv_iconst (v := (-1)) hx hb dX3_readInto_108 (by decide) ?_
                refine lv_aload_n hx hb dX3_readInto_109 rfl (lv_at hl 2 rfl) ?_
                refine va_get (D := D) (ci := 2) (v := .int z_38.2.2.2.1) (C := RX3) (T := TX3) (N := 6) hx hb hts hinX3 hown hE.1 hP 0 rfl rfl 3 (by decide) (hts _ (List.mem_of_getElem? (i := 3) rfl)) (fun _ h9 => h9) rfl dX3_readInto_110 ?_
                refine lv_isub hx hb dX3_readInto_113 ?_
                obtain ⟨q0, g0⟩ := Prod.mk.inj (Option.some.inj h)
                obtain ⟨q1, g1⟩ := Prod.mk.inj g0
                obtain ⟨q2, g2⟩ := Prod.mk.inj g1
                obtain ⟨q3, g3⟩ := Prod.mk.inj g2
                obtain ⟨q4, g4⟩ := Prod.mk.inj g3
                obtain ⟨q5, g5⟩ := Prod.mk.inj g4
                obtain ⟨q6, g6⟩ := Prod.mk.inj g5
                obtain ⟨q7, g7⟩ := Prod.mk.inj g6
                obtain ⟨q8, q9⟩ := Prod.mk.inj g7
                subst q0 q1 q2 q3 q4 q5 q6 q7 q8 q9
                exact eMi C0 hP hS rfl rfl dX3_readInto_114
          · have h := ifp c_45 h
            refine lv_iload_n hx hb dX3_readInto_93 rfl (lv_at hl 4 rfl) ?_
            obtain ⟨q0, g0⟩ := Prod.mk.inj (Option.some.inj h)
            obtain ⟨q1, g1⟩ := Prod.mk.inj g0
            obtain ⟨q2, g2⟩ := Prod.mk.inj g1
            obtain ⟨q3, g3⟩ := Prod.mk.inj g2
            obtain ⟨q4, g4⟩ := Prod.mk.inj g3
            obtain ⟨q5, g5⟩ := Prod.mk.inj g4
            obtain ⟨q6, g6⟩ := Prod.mk.inj g5
            obtain ⟨q7, g7⟩ := Prod.mk.inj g6
            obtain ⟨q8, q9⟩ := Prod.mk.inj g7
            subst q0 q1 q2 q3 q4 q5 q6 q7 q8 q9
            exact eMi C0 hP hS rfl rfl dX3_readInto_94
set_option maxHeartbeats 4000000 in
set_option maxRecDepth 100000 in
theorem tX3_readInto (l : Launch) (D : va_G) (cI cS : ClassId) (cs : CSt) (F : Nat) (a0 a1 a2 a3 a4 a5 a6 : Nat) (bs : Nat → Int32) (pl : Nat → Int32) (sp : Nat → Int32) (sy : Nat → Int32) (sh : Nat → Int32) (ln : Int32) (so : Int32) (be : Int32) (en : Int32) (va : Int32) (sc : Int32) (nc : Int32) (dy : Int32) (zz : Int32) (z0 : Int32) (z1 : Nat → Int32) (z2 : Nat → Int32) (z3 : Nat → Int32) (z4 : Int32) (z5 : Int32) (z6 : Int32) (z7 : Int32) (z8 : Int32) (z9 : Int32) (h : fX3_readInto F bs pl sy sh ln so be en va sc nc = some (z0, z1, z2, z3, z4, z5, z6, z7, z8, z9)) (hD0 : va_D (fun _ => True) (wTE cI cS a0 a1 a2 a3 a4 a5 a6 bs pl sp sy sh ln so be en va sc nc dy zz)) : Met l yX3_readInto wsX3_readInto rmX3_readInto (PZ D cI cS [.ref a0, .ref a2] (fun U => va_P D vwCl (wTE cI cS a0 a1 a2 a3 a4 a5 a6 bs pl sp sy sh ln so be en va sc nc dy zz) U.heap ∧ CST cs (wA (wTE cI cS a0 a1 a2 a3 a4 a5 a6 bs pl sp sy sh ln so be en va sc nc dy zz)) U U.heap)) (qI D (wTE cI cS a0 a1 a2 a3 a4 a5 a6 bs pl sp sy sh ln so be en va sc nc dy zz) (wTE cI cS a0 a1 a2 a3 a4 a5 a6 bs z1 sp z2 z3 ln z4 z5 z6 z7 z8 z9 dy zz) z0) 0 0 (wA (wTE cI cS a0 a1 a2 a3 a4 a5 a6 bs pl sp sy sh ln so be en va sc nc dy zz)) := by
  refine Met.mk RX3 (by decide) rfl rfl (Nat.le_of_ble_eq_true rfl) ?_
  intro p e s m below meth c ls C0 hP hl
  obtain ⟨hP, hCS⟩ := hP
  have hl : lv_has ls 5 [(0, .ref a0), (1, .ref a2)] := hl
  obtain ⟨hx, hb, hr, hml, hown, hts, hlk, hE⟩ := id C0
  have hinX3 : ∀ w ∈ u_ws RX3 TX3 6, w ∈ wsX3_readInto := by decide +kernel
  have hD : ∀ W : va_W, W.map Prod.fst = [a0, a1, a2, a3, a4, a5, a6] → va_D (wA (wTE cI cS a0 a1 a2 a3 a4 a5 a6 bs pl sp sy sh ln so be en va sc nc dy zz)) W := fun W hW => hD0.own.re hW
  have hS : va_S (wA (wTE cI cS a0 a1 a2 a3 a4 a5 a6 bs pl sp sy sh ln so be en va sc nc dy zz)) s.heap s.heap [] := va_S.rf
  have hP : va_P D vwCl (wTE cI cS a0 a1 a2 a3 a4 a5 a6 bs pl sp sy sh ln so be en va sc nc dy zz) s.heap := hP
  rw [fX3_readInto] at h
  refine lv_aload_n hx hb dX3_readInto_0 rfl (lv_at hl 0 rfl) ?_
  refine lv_iconst (v := 0) hx hb dX3_readInto_1 (by decide) ?_
  refine va_put (D := D) (ci := 2) (v := .int 0) (ty := .int) (C := RX3) (T := TX3) (N := 6) hx hb hts hinX3 tyX3 tyX3_ok nmX3 hown hE.1 hP (hD _ rfl) hS 0 rfl rfl 4 (by decide) (hts _ (List.mem_of_getElem? (i := 1) rfl)) (fun _ h9 => h9) rfl (by decide +kernel) rfl rfl (Nat.le_of_ble_eq_true rfl) dX3_readInto_2 (fun H locs hP _ hS => ?_)
  have hP : va_P D vwCl (wTE cI cS a0 a1 a2 a3 a4 a5 a6 bs pl sp sy sh ln so be 0 va sc nc dy zz) H := hP
  refine lv_aload_n hx hb dX3_readInto_5 rfl (lv_at hl 0 rfl) ?_
  obtain ⟨z_1, e_2, h⟩ := bds h
  have hPc := hP.sub (ws' := (wX3 cI cS a0 a1 bs ln so be 0 va)) [0, 1] rfl
  refine kMv (wf' := (wTE cI cS a0 a1 a2 a3 a4 a5 a6 bs pl sp sy sh ln z_1.1 z_1.2.1 z_1.2.2.1 z_1.2.2.2 sc nc dy zz)) [0, 1] [some 0, some 1, none, none, none, none, none] (rV C0 (tX3_advance l D cI cS F a0 a1 bs ln so be 0 va  z_1.1 z_1.2.1 z_1.2.2.1 z_1.2.2.2 e_2 (((hD (wTE cI cS a0 a1 a2 a3 a4 a5 a6 bs pl sp sy sh ln so be 0 va sc nc dy zz) rfl).sub [0, 1] (by decide) rfl).weaken (fun _ _ _ _ => trivial))) RX3 gX3_readInto_X3_advance rfl ⟨rfl, rfl⟩ pdX3_advance rfl ⟨Nat.le_of_ble_eq_true rfl, Nat.le_of_ble_eq_true rfl⟩ (fun _ _ _ _ q => q) (va_recv hE.1 hPc (ci := 2) (q0 := 0) rfl rfl) (fun U hU _ _ => by rw [hU]; exact hPc) hl.1 rfl (Nat.le_of_ble_eq_true rfl) dX3_readInto_6 ⟨Nat.zero_le _, Nat.zero_le _⟩) hP (hD _ rfl) hS rfl rfl rfl (fun H locs hP hS => ?_)
  refine lv_iconst (v := 1) hx hb dX3_readInto_9 (by decide) ?_
  refine lv_istore_n (lv' := [(2, .int 1), (0, .ref a0), (1, .ref a2)]) hx hb dX3_readInto_10 rfl hl (by decide) rfl (fun ls hl => ?_)
  exact lX3_readInto_11 (l := l) (e := e) (below := below) C0 F bs sp ln dy zz z0 z1 z2 z3 z4 z5 z6 z7 z8 z9 cs hCS hD F 1 pl sy sh z_1.1 z_1.2.1 z_1.2.2.1 z_1.2.2.2 sc nc _ _ hP hS _ (lv_sub hl [1, 2, 0] rfl) h
def fX4_text (F : Nat) (ppl : Nat → Int32) (psp : Nat → Int32) (psy : Nat → Int32) (psh : Nat → Int32) (tpl : Nat → Int32) (tsp : Nat → Int32) (tsy : Nat → Int32) (tsh : Nat → Int32) (bs : Nat → Int32) (psc : Int32) (pnc : Int32) (pdy : Int32) (pzz : Int32) (tsc : Int32) (tnc : Int32) (tdy : Int32) (tzz : Int32) (ln : Int32) (so : Int32) (be : Int32) (en : Int32) (va : Int32) : Option (Int32 × (Nat → Int32) × (Nat → Int32) × (Nat → Int32) × (Nat → Int32) × (Nat → Int32) × (Nat → Int32) × (Nat → Int32) × (Nat → Int32) × Int32 × Int32 × Int32 × Int32 × Int32 × Int32 × Int32 × Int32 × Int32 × Int32 × Int32 × Int32 × Int32) := Option.bind (fX3_readInto F bs (fX0_become_o0 tpl tsp tsy tsh ppl psp psy psh tsc tnc tdy tzz psc pnc pdy pzz) (fX0_become_o2 tpl tsp tsy tsh ppl psp psy psh tsc tnc tdy tzz psc pnc pdy pzz) (fX0_become_o3 tpl tsp tsy tsh ppl psp psy psh tsc tnc tdy tzz psc pnc pdy pzz) ln so be en va (fX0_become_o4 tpl tsp tsy tsh ppl psp psy psh tsc tnc tdy tzz psc pnc pdy pzz) (fX0_become_o5 tpl tsp tsy tsh ppl psp psy psh tsc tnc tdy tzz psc pnc pdy pzz)) (fun z_1 => (if z_1.1 < 0 then some (z_1.1, ppl, psp, psy, psh, z_1.2.1, fX0_become_o1 tpl tsp tsy tsh ppl psp psy psh tsc tnc tdy tzz psc pnc pdy pzz, z_1.2.2.1, z_1.2.2.2.1, psc, pnc, pdy, pzz, z_1.2.2.2.2.2.2.2.2.1, z_1.2.2.2.2.2.2.2.2.2, fX0_become_o6 tpl tsp tsy tsh ppl psp psy psh tsc tnc tdy tzz psc pnc pdy pzz, fX0_become_o7 tpl tsp tsy tsh ppl psp psy psh tsc tnc tdy tzz psc pnc pdy pzz, 0, z_1.2.2.2.2.1, z_1.2.2.2.2.2.1, z_1.2.2.2.2.2.2.1, z_1.2.2.2.2.2.2.2.1) else some (z_1.1, fX0_become_o0 ppl psp psy psh z_1.2.1 (fX0_become_o1 tpl tsp tsy tsh ppl psp psy psh tsc tnc tdy tzz psc pnc pdy pzz) z_1.2.2.1 z_1.2.2.2.1 psc pnc pdy pzz z_1.2.2.2.2.2.2.2.2.1 z_1.2.2.2.2.2.2.2.2.2 (fX0_become_o6 tpl tsp tsy tsh ppl psp psy psh tsc tnc tdy tzz psc pnc pdy pzz) (fX0_become_o7 tpl tsp tsy tsh ppl psp psy psh tsc tnc tdy tzz psc pnc pdy pzz), fX0_become_o1 ppl psp psy psh z_1.2.1 (fX0_become_o1 tpl tsp tsy tsh ppl psp psy psh tsc tnc tdy tzz psc pnc pdy pzz) z_1.2.2.1 z_1.2.2.2.1 psc pnc pdy pzz z_1.2.2.2.2.2.2.2.2.1 z_1.2.2.2.2.2.2.2.2.2 (fX0_become_o6 tpl tsp tsy tsh ppl psp psy psh tsc tnc tdy tzz psc pnc pdy pzz) (fX0_become_o7 tpl tsp tsy tsh ppl psp psy psh tsc tnc tdy tzz psc pnc pdy pzz), fX0_become_o2 ppl psp psy psh z_1.2.1 (fX0_become_o1 tpl tsp tsy tsh ppl psp psy psh tsc tnc tdy tzz psc pnc pdy pzz) z_1.2.2.1 z_1.2.2.2.1 psc pnc pdy pzz z_1.2.2.2.2.2.2.2.2.1 z_1.2.2.2.2.2.2.2.2.2 (fX0_become_o6 tpl tsp tsy tsh ppl psp psy psh tsc tnc tdy tzz psc pnc pdy pzz) (fX0_become_o7 tpl tsp tsy tsh ppl psp psy psh tsc tnc tdy tzz psc pnc pdy pzz), fX0_become_o3 ppl psp psy psh z_1.2.1 (fX0_become_o1 tpl tsp tsy tsh ppl psp psy psh tsc tnc tdy tzz psc pnc pdy pzz) z_1.2.2.1 z_1.2.2.2.1 psc pnc pdy pzz z_1.2.2.2.2.2.2.2.2.1 z_1.2.2.2.2.2.2.2.2.2 (fX0_become_o6 tpl tsp tsy tsh ppl psp psy psh tsc tnc tdy tzz psc pnc pdy pzz) (fX0_become_o7 tpl tsp tsy tsh ppl psp psy psh tsc tnc tdy tzz psc pnc pdy pzz), z_1.2.1, fX0_become_o1 tpl tsp tsy tsh ppl psp psy psh tsc tnc tdy tzz psc pnc pdy pzz, z_1.2.2.1, z_1.2.2.2.1, fX0_become_o4 ppl psp psy psh z_1.2.1 (fX0_become_o1 tpl tsp tsy tsh ppl psp psy psh tsc tnc tdy tzz psc pnc pdy pzz) z_1.2.2.1 z_1.2.2.2.1 psc pnc pdy pzz z_1.2.2.2.2.2.2.2.2.1 z_1.2.2.2.2.2.2.2.2.2 (fX0_become_o6 tpl tsp tsy tsh ppl psp psy psh tsc tnc tdy tzz psc pnc pdy pzz) (fX0_become_o7 tpl tsp tsy tsh ppl psp psy psh tsc tnc tdy tzz psc pnc pdy pzz), fX0_become_o5 ppl psp psy psh z_1.2.1 (fX0_become_o1 tpl tsp tsy tsh ppl psp psy psh tsc tnc tdy tzz psc pnc pdy pzz) z_1.2.2.1 z_1.2.2.2.1 psc pnc pdy pzz z_1.2.2.2.2.2.2.2.2.1 z_1.2.2.2.2.2.2.2.2.2 (fX0_become_o6 tpl tsp tsy tsh ppl psp psy psh tsc tnc tdy tzz psc pnc pdy pzz) (fX0_become_o7 tpl tsp tsy tsh ppl psp psy psh tsc tnc tdy tzz psc pnc pdy pzz), fX0_become_o6 ppl psp psy psh z_1.2.1 (fX0_become_o1 tpl tsp tsy tsh ppl psp psy psh tsc tnc tdy tzz psc pnc pdy pzz) z_1.2.2.1 z_1.2.2.2.1 psc pnc pdy pzz z_1.2.2.2.2.2.2.2.2.1 z_1.2.2.2.2.2.2.2.2.2 (fX0_become_o6 tpl tsp tsy tsh ppl psp psy psh tsc tnc tdy tzz psc pnc pdy pzz) (fX0_become_o7 tpl tsp tsy tsh ppl psp psy psh tsc tnc tdy tzz psc pnc pdy pzz), fX0_become_o7 ppl psp psy psh z_1.2.1 (fX0_become_o1 tpl tsp tsy tsh ppl psp psy psh tsc tnc tdy tzz psc pnc pdy pzz) z_1.2.2.1 z_1.2.2.2.1 psc pnc pdy pzz z_1.2.2.2.2.2.2.2.2.1 z_1.2.2.2.2.2.2.2.2.2 (fX0_become_o6 tpl tsp tsy tsh ppl psp psy psh tsc tnc tdy tzz psc pnc pdy pzz) (fX0_become_o7 tpl tsp tsy tsh ppl psp psy psh tsc tnc tdy tzz psc pnc pdy pzz), z_1.2.2.2.2.2.2.2.2.1, z_1.2.2.2.2.2.2.2.2.2, fX0_become_o6 tpl tsp tsy tsh ppl psp psy psh tsc tnc tdy tzz psc pnc pdy pzz, fX0_become_o7 tpl tsp tsy tsh ppl psp psy psh tsc tnc tdy tzz psc pnc pdy pzz, 0, z_1.2.2.2.2.1, z_1.2.2.2.2.2.1, z_1.2.2.2.2.2.2.1, z_1.2.2.2.2.2.2.2.1)))
abbrev rmX4_text : Room := { frames := 8, cells := 0, slots := 0, locals := 181 }
theorem pdX4_text : (yX4_text.cls = RX4 ∧ yX4_text.cls ≠ "java/lang/invoke/MethodHandle" ∧ yX4_text.cls ≠ "java/lang/invoke/VarHandle" ∧ (parseMethodDescriptor yX4_text.desc).map (fun d => d.parameters.length) = some 0) := by decide +kernel
set_option maxHeartbeats 4000000 in
set_option maxRecDepth 100000 in
theorem tX4_text (l : Launch) (D : va_G) (cI cS : ClassId) (cs : CSt) (F : Nat) (a0 a1 a2 a3 a4 a5 a6 a7 a8 a9 a10 a11 a12 a13 a14 a15 a16 a17 a18 a19 a20 a21 a22 : Nat) (ppl : Nat → Int32) (psp : Nat → Int32) (psy : Nat → Int32) (psh : Nat → Int32) (tpl : Nat → Int32) (tsp : Nat → Int32) (tsy : Nat → Int32) (tsh : Nat → Int32) (kpl : Nat → Int32) (ksp : Nat → Int32) (ksy : Nat → Int32) (ksh : Nat → Int32) (bs : Nat → Int32) (bt : Nat → Int32) (sz : Nat → Int32) (nm : Nat → Int32) (fd : Nat → Int32) (ik : Int32) (psc : Int32) (pnc : Int32) (pdy : Int32) (pzz : Int32) (tsc : Int32) (tnc : Int32) (tdy : Int32) (tzz : Int32) (ksc : Int32) (knc : Int32) (kdy : Int32) (kzz : Int32) (ln : Int32) (so : Int32) (be : Int32) (en : Int32) (va : Int32) (z0 : Int32) (z1 : Nat → Int32) (z2 : Nat → Int32) (z3 : Nat → Int32) (z4 : Nat → Int32) (z5 : Nat → Int32) (z6 : Nat → Int32) (z7 : Nat → Int32) (z8 : Nat → Int32) (z9 : Int32) (z10 : Int32) (z11 : Int32) (z12 : Int32) (z13 : Int32) (z14 : Int32) (z15 : Int32) (z16 : Int32) (z17 : Int32) (z18 : Int32) (z19 : Int32) (z20 : Int32) (z21 : Int32) (h : fX4_text F ppl psp psy psh tpl tsp tsy tsh bs psc pnc pdy pzz tsc tnc tdy tzz ln so be en va = some (z0, z1, z2, z3, z4, z5, z6, z7, z8, z9, z10, z11, z12, z13, z14, z15, z16, z17, z18, z19, z20, z21)) (hD0 : va_D (fun _ => True) (wX4 cI cS a0 a1 a2 a3 a4 a5 a6 a7 a8 a9 a10 a11 a12 a13 a14 a15 a16 a17 a18 a19 a20 a21 a22 ppl psp psy psh tpl tsp tsy tsh kpl ksp ksy ksh bs bt sz nm fd ik psc pnc pdy pzz tsc tnc tdy tzz ksc knc kdy kzz ln so be en va)) : Met l yX4_text wsX4_text rmX4_text (PZ D cI cS [.ref a0] (fun U => va_P D vwCl (wX4 cI cS a0 a1 a2 a3 a4 a5 a6 a7 a8 a9 a10 a11 a12 a13 a14 a15 a16 a17 a18 a19 a20 a21 a22 ppl psp psy psh tpl tsp tsy tsh kpl ksp ksy ksh bs bt sz nm fd ik psc pnc pdy pzz tsc tnc tdy tzz ksc knc kdy kzz ln so be en va) U.heap ∧ CST cs (wA (wX4 cI cS a0 a1 a2 a3 a4 a5 a6 a7 a8 a9 a10 a11 a12 a13 a14 a15 a16 a17 a18 a19 a20 a21 a22 ppl psp psy psh tpl tsp tsy tsh kpl ksp ksy ksh bs bt sz nm fd ik psc pnc pdy pzz tsc tnc tdy tzz ksc knc kdy kzz ln so be en va)) U U.heap)) (qI D (wX4 cI cS a0 a1 a2 a3 a4 a5 a6 a7 a8 a9 a10 a11 a12 a13 a14 a15 a16 a17 a18 a19 a20 a21 a22 ppl psp psy psh tpl tsp tsy tsh kpl ksp ksy ksh bs bt sz nm fd ik psc pnc pdy pzz tsc tnc tdy tzz ksc knc kdy kzz ln so be en va) (wX4 cI cS a0 a1 a2 a3 a4 a5 a6 a7 a8 a9 a10 a11 a12 a13 a14 a15 a16 a17 a18 a19 a20 a21 a22 z1 z2 z3 z4 z5 z6 z7 z8 kpl ksp ksy ksh bs bt sz nm fd ik z9 z10 z11 z12 z13 z14 z15 z16 ksc knc kdy kzz z17 z18 z19 z20 z21) z0) 0 0 (wA (wX4 cI cS a0 a1 a2 a3 a4 a5 a6 a7 a8 a9 a10 a11 a12 a13 a14 a15 a16 a17 a18 a19 a20 a21 a22 ppl psp psy psh tpl tsp tsy tsh kpl ksp ksy ksh bs bt sz nm fd ik psc pnc pdy pzz tsc tnc tdy tzz ksc knc kdy kzz ln so be en va)) := by
  refine Met.mk RX4 (by decide) rfl rfl (Nat.le_of_ble_eq_true rfl) ?_
  intro p e s m below meth c ls C0 hP hl
  obtain ⟨hP, hCS⟩ := hP
  have hl : lv_has ls 2 [(0, .ref a0)] := hl
  obtain ⟨hx, hb, hr, hml, hown, hts, hlk, hE⟩ := id C0
  have hinX3 : ∀ w ∈ u_ws RX3 TX3 6, w ∈ wsX4_text := by decide +kernel
  have hinX4 : ∀ w ∈ u_ws RX4 TX4 7, w ∈ wsX4_text := by decide +kernel
  have hD : ∀ W : va_W, W.map Prod.fst = [a0, a1, a2, a3, a4, a5, a6, a7, a8, a9, a10, a11, a12, a13, a14, a15, a16, a17, a18, a19, a20, a21, a22] → va_D (wA (wX4 cI cS a0 a1 a2 a3 a4 a5 a6 a7 a8 a9 a10 a11 a12 a13 a14 a15 a16 a17 a18 a19 a20 a21 a22 ppl psp psy psh tpl tsp tsy tsh kpl ksp ksy ksh bs bt sz nm fd ik psc pnc pdy pzz tsc tnc tdy tzz ksc knc kdy kzz ln so be en va)) W := fun W hW => hD0.own.re hW
  have hS : va_S (wA (wX4 cI cS a0 a1 a2 a3 a4 a5 a6 a7 a8 a9 a10 a11 a12 a13 a14 a15 a16 a17 a18 a19 a20 a21 a22 ppl psp psy psh tpl tsp tsy tsh kpl ksp ksy ksh bs bt sz nm fd ik psc pnc pdy pzz tsc tnc tdy tzz ksc knc kdy kzz ln so be en va)) s.heap s.heap [] := va_S.rf
  have hP : va_P D vwCl (wX4 cI cS a0 a1 a2 a3 a4 a5 a6 a7 a8 a9 a10 a11 a12 a13 a14 a15 a16 a17 a18 a19 a20 a21 a22 ppl psp psy psh tpl tsp tsy tsh kpl ksp ksy ksh bs bt sz nm fd ik psc pnc pdy pzz tsc tnc tdy tzz ksc knc kdy kzz ln so be en va) s.heap := hP
  rw [fX4_text] at h
  refine lv_aload_n hx hb dX4_text_0 rfl (lv_at hl 0 rfl) ?_
  refine va_get (D := D) (ci := 3) (v := .ref a6) (C := RX4) (T := TX4) (N := 7) hx hb hts hinX4 hown hE.1 hP 0 rfl rfl 1 (by decide) (hts _ (List.mem_of_getElem? (i := 1) rfl)) (fun _ h9 => h9) rfl dX4_text_1 ?_
  refine lv_aload_n hx hb dX4_text_4 rfl (lv_at hl 0 rfl) ?_
  refine va_get (D := D) (ci := 3) (v := .ref a1) (C := RX4) (T := TX4) (N := 7) hx hb hts hinX4 hown hE.1 hP 0 rfl rfl 0 (by decide) (hts _ (List.mem_of_getElem? (i := 2) rfl)) (fun _ h9 => h9) rfl dX4_text_5 ?_
  have hPc := hP.sub (ws' := (wE2 cI cS a6 a7 a8 a9 a10 a1 a2 a3 a4 a5 tpl tsp tsy tsh ppl psp psy psh tsc tnc tdy tzz psc pnc pdy pzz)) [6, 7, 8, 9, 10, 1, 2, 3, 4, 5] rfl
  refine kMv (wf' := (wX4 cI cS a0 a1 a2 a3 a4 a5 a6 a7 a8 a9 a10 a11 a12 a13 a14 a15 a16 a17 a18 a19 a20 a21 a22 ppl psp psy psh (fX0_become_o0 tpl tsp tsy tsh ppl psp psy psh tsc tnc tdy tzz psc pnc pdy pzz) (fX0_become_o1 tpl tsp tsy tsh ppl psp psy psh tsc tnc tdy tzz psc pnc pdy pzz) (fX0_become_o2 tpl tsp tsy tsh ppl psp psy psh tsc tnc tdy tzz psc pnc pdy pzz) (fX0_become_o3 tpl tsp tsy tsh ppl psp psy psh tsc tnc tdy tzz psc pnc pdy pzz) kpl ksp ksy ksh bs bt sz nm fd ik psc pnc pdy pzz (fX0_become_o4 tpl tsp tsy tsh ppl psp psy psh tsc tnc tdy tzz psc pnc pdy pzz) (fX0_become_o5 tpl tsp tsy tsh ppl psp psy psh tsc tnc tdy tzz psc pnc pdy pzz) (fX0_become_o6 tpl tsp tsy tsh ppl psp psy psh tsc tnc tdy tzz psc pnc pdy pzz) (fX0_become_o7 tpl tsp tsy tsh ppl psp psy psh tsc tnc tdy tzz psc pnc pdy pzz) ksc knc kdy kzz ln so be en va)) [6, 7, 8, 9, 10, 1, 2, 3, 4, 5] [none, some 5, some 6, some 7, some 8, some 9, some 0, some 1, some 2, some 3, some 4, none, none, none, none, none, none, none, none, none, none, none, none] (rV C0 (tX0_become l D cI cS a6 a7 a8 a9 a10 a1 a2 a3 a4 a5 tpl tsp tsy tsh ppl psp psy psh tsc tnc tdy tzz psc pnc pdy pzz  (fX0_become_o0 tpl tsp tsy tsh ppl psp psy psh tsc tnc tdy tzz psc pnc pdy pzz) (fX0_become_o1 tpl tsp tsy tsh ppl psp psy psh tsc tnc tdy tzz psc pnc pdy pzz) (fX0_become_o2 tpl tsp tsy tsh ppl psp psy psh tsc tnc tdy tzz psc pnc pdy pzz) (fX0_become_o3 tpl tsp tsy tsh ppl psp psy psh tsc tnc tdy tzz psc pnc pdy pzz) (fX0_become_o4 tpl tsp tsy tsh ppl psp psy psh tsc tnc tdy tzz psc pnc pdy pzz) (fX0_become_o5 tpl tsp tsy tsh ppl psp psy psh tsc tnc tdy tzz psc pnc pdy pzz) (fX0_become_o6 tpl tsp tsy tsh ppl psp psy psh tsc tnc tdy tzz psc pnc pdy pzz) (fX0_become_o7 tpl tsp tsy tsh ppl psp psy psh tsc tnc tdy tzz psc pnc pdy pzz) (eeX0_become ..) (((hD (wX4 cI cS a0 a1 a2 a3 a4 a5 a6 a7 a8 a9 a10 a11 a12 a13 a14 a15 a16 a17 a18 a19 a20 a21 a22 ppl psp psy psh tpl tsp tsy tsh kpl ksp ksy ksh bs bt sz nm fd ik psc pnc pdy pzz tsc tnc tdy tzz ksc knc kdy kzz ln so be en va) rfl).sub [6, 7, 8, 9, 10, 1, 2, 3, 4, 5] (by decide) rfl).weaken (fun _ _ _ _ => trivial))) RX0 gX4_text_X0_become rfl ⟨rfl, rfl⟩ pdX0_become rfl ⟨Nat.le_of_ble_eq_true rfl, Nat.le_of_ble_eq_true rfl⟩ (fun _ _ _ _ q => q) (va_recv hE.1 hPc (ci := 0) (q0 := 0) rfl rfl) (fun U hU _ _ => by rw [hU]; exact hPc) hl.1 rfl (Nat.le_of_ble_eq_true rfl) dX4_text_8 ⟨Nat.zero_le _, Nat.zero_le _⟩) hP (hD _ rfl) hS rfl rfl rfl (fun H locs hP hS => ?_)
  refine lv_aload_n hx hb dX4_text_11 rfl (lv_at hl 0 rfl) ?_
  refine va_get (D := D) (ci := 3) (v := .ref a16) (C := RX4) (T := TX4) (N := 7) hx hb hts hinX4 hown hE.1 hP 0 rfl rfl 4 (by decide) (hts _ (List.mem_of_getElem? (i := 3) rfl)) (fun _ h9 => h9) rfl dX4_text_12 ?_
  refine lv_aload_n hx hb dX4_text_15 rfl (lv_at hl 0 rfl) ?_
  refine va_get (D := D) (ci := 3) (v := .ref a6) (C := RX4) (T := TX4) (N := 7) hx hb hts hinX4 hown hE.1 hP 0 rfl rfl 1 (by decide) (hts _ (List.mem_of_getElem? (i := 1) rfl)) (fun _ h9 => h9) rfl dX4_text_16 ?_
  obtain ⟨z_1, e_2, h⟩ := bds h
  have hPc := hP.sub (ws' := (wTE cI cS a16 a17 a6 a7 a8 a9 a10 bs (fX0_become_o0 tpl tsp tsy tsh ppl psp psy psh tsc tnc tdy tzz psc pnc pdy pzz) (fX0_become_o1 tpl tsp tsy tsh ppl psp psy psh tsc tnc tdy tzz psc pnc pdy pzz) (fX0_become_o2 tpl tsp tsy tsh ppl psp psy psh tsc tnc tdy tzz psc pnc pdy pzz) (fX0_become_o3 tpl tsp tsy tsh ppl psp psy psh tsc tnc tdy tzz psc pnc pdy pzz) ln so be en va (fX0_become_o4 tpl tsp tsy tsh ppl psp psy psh tsc tnc tdy tzz psc pnc pdy pzz) (fX0_become_o5 tpl tsp tsy tsh ppl psp psy psh tsc tnc tdy tzz psc pnc pdy pzz) (fX0_become_o6 tpl tsp tsy tsh ppl psp psy psh tsc tnc tdy tzz psc pnc pdy pzz) (fX0_become_o7 tpl tsp tsy tsh ppl psp psy psh tsc tnc tdy tzz psc pnc pdy pzz))) [16, 17, 6, 7, 8, 9, 10] rfl
  refine kMi (wf' := (wX4 cI cS a0 a1 a2 a3 a4 a5 a6 a7 a8 a9 a10 a11 a12 a13 a14 a15 a16 a17 a18 a19 a20 a21 a22 ppl psp psy psh z_1.2.1 (fX0_become_o1 tpl tsp tsy tsh ppl psp psy psh tsc tnc tdy tzz psc pnc pdy pzz) z_1.2.2.1 z_1.2.2.2.1 kpl ksp ksy ksh bs bt sz nm fd ik psc pnc pdy pzz z_1.2.2.2.2.2.2.2.2.1 z_1.2.2.2.2.2.2.2.2.2 (fX0_become_o6 tpl tsp tsy tsh ppl psp psy psh tsc tnc tdy tzz psc pnc pdy pzz) (fX0_become_o7 tpl tsp tsy tsh ppl psp psy psh tsc tnc tdy tzz psc pnc pdy pzz) ksc knc kdy kzz ln z_1.2.2.2.2.1 z_1.2.2.2.2.2.1 z_1.2.2.2.2.2.2.1 z_1.2.2.2.2.2.2.2.1)) [16, 17, 6, 7, 8, 9, 10] [none, none, none, none, none, none, some 2, some 3, some 4, some 5, some 6, none, none, none, none, none, some 0, some 1, none, none, none, none, none] (rV C0 (tX3_readInto l D cI cS cs F a16 a17 a6 a7 a8 a9 a10 bs (fX0_become_o0 tpl tsp tsy tsh ppl psp psy psh tsc tnc tdy tzz psc pnc pdy pzz) (fX0_become_o1 tpl tsp tsy tsh ppl psp psy psh tsc tnc tdy tzz psc pnc pdy pzz) (fX0_become_o2 tpl tsp tsy tsh ppl psp psy psh tsc tnc tdy tzz psc pnc pdy pzz) (fX0_become_o3 tpl tsp tsy tsh ppl psp psy psh tsc tnc tdy tzz psc pnc pdy pzz) ln so be en va (fX0_become_o4 tpl tsp tsy tsh ppl psp psy psh tsc tnc tdy tzz psc pnc pdy pzz) (fX0_become_o5 tpl tsp tsy tsh ppl psp psy psh tsc tnc tdy tzz psc pnc pdy pzz) (fX0_become_o6 tpl tsp tsy tsh ppl psp psy psh tsc tnc tdy tzz psc pnc pdy pzz) (fX0_become_o7 tpl tsp tsy tsh ppl psp psy psh tsc tnc tdy tzz psc pnc pdy pzz)  z_1.1 z_1.2.1 z_1.2.2.1 z_1.2.2.2.1 z_1.2.2.2.2.1 z_1.2.2.2.2.2.1 z_1.2.2.2.2.2.2.1 z_1.2.2.2.2.2.2.2.1 z_1.2.2.2.2.2.2.2.2.1 z_1.2.2.2.2.2.2.2.2.2 e_2 (((hD (wX4 cI cS a0 a1 a2 a3 a4 a5 a6 a7 a8 a9 a10 a11 a12 a13 a14 a15 a16 a17 a18 a19 a20 a21 a22 ppl psp psy psh (fX0_become_o0 tpl tsp tsy tsh ppl psp psy psh tsc tnc tdy tzz psc pnc pdy pzz) (fX0_become_o1 tpl tsp tsy tsh ppl psp psy psh tsc tnc tdy tzz psc pnc pdy pzz) (fX0_become_o2 tpl tsp tsy tsh ppl psp psy psh tsc tnc tdy tzz psc pnc pdy pzz) (fX0_become_o3 tpl tsp tsy tsh ppl psp psy psh tsc tnc tdy tzz psc pnc pdy pzz) kpl ksp ksy ksh bs bt sz nm fd ik psc pnc pdy pzz (fX0_become_o4 tpl tsp tsy tsh ppl psp psy psh tsc tnc tdy tzz psc pnc pdy pzz) (fX0_become_o5 tpl tsp tsy tsh ppl psp psy psh tsc tnc tdy tzz psc pnc pdy pzz) (fX0_become_o6 tpl tsp tsy tsh ppl psp psy psh tsc tnc tdy tzz psc pnc pdy pzz) (fX0_become_o7 tpl tsp tsy tsh ppl psp psy psh tsc tnc tdy tzz psc pnc pdy pzz) ksc knc kdy kzz ln so be en va) rfl).sub [16, 17, 6, 7, 8, 9, 10] (by decide) rfl).weaken (fun _ _ _ _ => trivial))) RX3 gX4_text_X3_readInto rfl ⟨rfl, rfl⟩ pdX3_readInto rfl ⟨Nat.le_of_ble_eq_true rfl, Nat.le_of_ble_eq_true rfl⟩ (fun _ _ _ _ q => ⟨q.1, q.2.call⟩) (va_recv hE.1 hPc (ci := 2) (q0 := 0) rfl rfl) (fun U hU hW _ => ⟨by rw [hU]; exact hPc, by rw [hU]; exact ((hCS.kept hS.2.1).narrow (fun q h => va_D.inA (hD (wX4 cI cS a0 a1 a2 a3 a4 a5 a6 a7 a8 a9 a10 a11 a12 a13 a14 a15 a16 a17 a18 a19 a20 a21 a22 ppl psp psy psh (fX0_become_o0 tpl tsp tsy tsh ppl psp psy psh tsc tnc tdy tzz psc pnc pdy pzz) (fX0_become_o1 tpl tsp tsy tsh ppl psp psy psh tsc tnc tdy tzz psc pnc pdy pzz) (fX0_become_o2 tpl tsp tsy tsh ppl psp psy psh tsc tnc tdy tzz psc pnc pdy pzz) (fX0_become_o3 tpl tsp tsy tsh ppl psp psy psh tsc tnc tdy tzz psc pnc pdy pzz) kpl ksp ksy ksh bs bt sz nm fd ik psc pnc pdy pzz (fX0_become_o4 tpl tsp tsy tsh ppl psp psy psh tsc tnc tdy tzz psc pnc pdy pzz) (fX0_become_o5 tpl tsp tsy tsh ppl psp psy psh tsc tnc tdy tzz psc pnc pdy pzz) (fX0_become_o6 tpl tsp tsy tsh ppl psp psy psh tsc tnc tdy tzz psc pnc pdy pzz) (fX0_become_o7 tpl tsp tsy tsh ppl psp psy psh tsc tnc tdy tzz psc pnc pdy pzz) ksc knc kdy kzz ln so be en va) rfl) [16, 17, 6, 7, 8, 9, 10] rfl h)).warm hW⟩) hl.1 rfl (Nat.le_of_ble_eq_true rfl) dX4_text_19 ⟨Nat.zero_le _, Nat.zero_le _⟩) hP (hD _ rfl) hS rfl rfl rfl (fun H locs hP hS => ?_)
  refine lv_istore_n (lv' := [(1, .int z_1.1), (0, .ref a0)]) hx hb dX4_text_22 rfl hl (by decide) rfl (fun ls hl => ?_)
  refine lv_iload_n hx hb dX4_text_23 rfl (lv_at hl 0 rfl) ?_
  refine lv_if_lt (tgt := 38) hx hb dX4_text_24 (by decide) (fun c_3 => ?_) (fun c_3 => ?_)
  · have h := ifp c_3 h
    refine lv_aload_n hx hb dX4_text_38 rfl (lv_at hl 1 rfl) ?_
    refine va_get (D := D) (ci := 3) (v := .ref a16) (C := RX4) (T := TX4) (N := 7) hx hb hts hinX4 hown hE.1 hP 0 rfl rfl 4 (by decide) (hts _ (List.mem_of_getElem? (i := 3) rfl)) (fun _ h9 => h9) rfl dX4_text_39 ?_
    refine lv_iconst (v := 0) hx hb dX4_text_42 (by decide) ?_
    refine va_putN (D := D) (ci := 2) (v := .int 0) (ty := .int) (C := RX3) (T := TX3) (N := 6) hx hb hts hinX3 tyX3 tyX3_ok nmX3 hown hE.1 hP (hD _ rfl) hS 16 rfl rfl 1 (by decide) (va_Nw.use rfl (hE.2 _ (List.mem_of_getElem? (i := 7) rfl))) (fun _ h9 => h9) rfl (by decide +kernel) rfl rfl (Nat.le_of_ble_eq_true rfl) dX4_text_43 (fun H locs hP _ hS => ?_)
    have hP : va_P D vwCl (wX4 cI cS a0 a1 a2 a3 a4 a5 a6 a7 a8 a9 a10 a11 a12 a13 a14 a15 a16 a17 a18 a19 a20 a21 a22 ppl psp psy psh z_1.2.1 (fX0_become_o1 tpl tsp tsy tsh ppl psp psy psh tsc tnc tdy tzz psc pnc pdy pzz) z_1.2.2.1 z_1.2.2.2.1 kpl ksp ksy ksh bs bt sz nm fd ik psc pnc pdy pzz z_1.2.2.2.2.2.2.2.2.1 z_1.2.2.2.2.2.2.2.2.2 (fX0_become_o6 tpl tsp tsy tsh ppl psp psy psh tsc tnc tdy tzz psc pnc pdy pzz) (fX0_become_o7 tpl tsp tsy tsh ppl psp psy psh tsc tnc tdy tzz psc pnc pdy pzz) ksc knc kdy kzz 0 z_1.2.2.2.2.1 z_1.2.2.2.2.2.1 z_1.2.2.2.2.2.2.1 z_1.2.2.2.2.2.2.2.1) H := hP
    refine lv_iload_n hx hb dX4_text_46 rfl (lv_at hl 0 rfl) ?_
    obtain ⟨q0, g0⟩ := Prod.mk.inj (Option.some.inj h)
    obtain ⟨q1, g1⟩ := Prod.mk.inj g0
    obtain ⟨q2, g2⟩ := Prod.mk.inj g1
    obtain ⟨q3, g3⟩ := Prod.mk.inj g2
    obtain ⟨q4, g4⟩ := Prod.mk.inj g3
    obtain ⟨q5, g5⟩ := Prod.mk.inj g4
    obtain ⟨q6, g6⟩ := Prod.mk.inj g5
    obtain ⟨q7, g7⟩ := Prod.mk.inj g6
    obtain ⟨q8, g8⟩ := Prod.mk.inj g7
    obtain ⟨q9, g9⟩ := Prod.mk.inj g8
    obtain ⟨q10, g10⟩ := Prod.mk.inj g9
    obtain ⟨q11, g11⟩ := Prod.mk.inj g10
    obtain ⟨q12, g12⟩ := Prod.mk.inj g11
    obtain ⟨q13, g13⟩ := Prod.mk.inj g12
    obtain ⟨q14, g14⟩ := Prod.mk.inj g13
    obtain ⟨q15, g15⟩ := Prod.mk.inj g14
    obtain ⟨q16, g16⟩ := Prod.mk.inj g15
    obtain ⟨q17, g17⟩ := Prod.mk.inj g16
    obtain ⟨q18, g18⟩ := Prod.mk.inj g17
    obtain ⟨q19, g19⟩ := Prod.mk.inj g18
    obtain ⟨q20, q21⟩ := Prod.mk.inj g19
    subst q0 q1 q2 q3 q4 q5 q6 q7 q8 q9 q10 q11 q12 q13 q14 q15 q16 q17 q18 q19 q20 q21
    exact eMi C0 hP hS rfl rfl dX4_text_47
  · have h := ifn c_3 h
    refine lv_aload_n hx hb dX4_text_27 rfl (lv_at hl 1 rfl) ?_
    refine va_get (D := D) (ci := 3) (v := .ref a1) (C := RX4) (T := TX4) (N := 7) hx hb hts hinX4 hown hE.1 hP 0 rfl rfl 0 (by decide) (hts _ (List.mem_of_getElem? (i := 2) rfl)) (fun _ h9 => h9) rfl dX4_text_28 ?_
    refine lv_aload_n hx hb dX4_text_31 rfl (lv_at hl 1 rfl) ?_
    refine va_get (D := D) (ci := 3) (v := .ref a6) (C := RX4) (T := TX4) (N := 7) hx hb hts hinX4 hown hE.1 hP 0 rfl rfl 1 (by decide) (hts _ (List.mem_of_getElem? (i := 1) rfl)) (fun _ h9 => h9) rfl dX4_text_32 ?_
    have hPc := hP.sub (ws' := (wE2 cI cS a1 a2 a3 a4 a5 a6 a7 a8 a9 a10 ppl psp psy psh z_1.2.1 (fX0_become_o1 tpl tsp tsy tsh ppl psp psy psh tsc tnc tdy tzz psc pnc pdy pzz) z_1.2.2.1 z_1.2.2.2.1 psc pnc pdy pzz z_1.2.2.2.2.2.2.2.2.1 z_1.2.2.2.2.2.2.2.2.2 (fX0_become_o6 tpl tsp tsy tsh ppl psp psy psh tsc tnc tdy tzz psc pnc pdy pzz) (fX0_become_o7 tpl tsp tsy tsh ppl psp psy psh tsc tnc tdy tzz psc pnc pdy pzz))) [1, 2, 3, 4, 5, 6, 7, 8, 9, 10] rfl
    refine kMv (wf' := (wX4 cI cS a0 a1 a2 a3 a4 a5 a6 a7 a8 a9 a10 a11 a12 a13 a14 a15 a16 a17 a18 a19 a20 a21 a22 (fX0_become_o0 ppl psp psy psh z_1.2.1 (fX0_become_o1 tpl tsp tsy tsh ppl psp psy psh tsc tnc tdy tzz psc pnc pdy pzz) z_1.2.2.1 z_1.2.2.2.1 psc pnc pdy pzz z_1.2.2.2.2.2.2.2.2.1 z_1.2.2.2.2.2.2.2.2.2 (fX0_become_o6 tpl tsp tsy tsh ppl psp psy psh tsc tnc tdy tzz psc pnc pdy pzz) (fX0_become_o7 tpl tsp tsy tsh ppl psp psy psh tsc tnc tdy tzz psc pnc pdy pzz)) (fX0_become_o1 ppl psp psy psh z_1.2.1 (fX0_become_o1 tpl tsp tsy tsh ppl psp psy psh tsc tnc tdy tzz psc pnc pdy pzz) z_1.2.2.1 z_1.2.2.2.1 psc pnc pdy pzz z_1.2.2.2.2.2.2.2.2.1 z_1.2.2.2.2.2.2.2.2.2 (fX0_become_o6 tpl tsp tsy tsh ppl psp psy psh tsc tnc tdy tzz psc pnc pdy pzz) (fX0_become_o7 tpl tsp tsy tsh ppl psp psy psh tsc tnc tdy tzz psc pnc pdy pzz)) (fX0_become_o2 ppl psp psy psh z_1.2.1 (fX0_become_o1 tpl tsp tsy tsh ppl psp psy psh tsc tnc tdy tzz psc pnc pdy pzz) z_1.2.2.1 z_1.2.2.2.1 psc pnc pdy pzz z_1.2.2.2.2.2.2.2.2.1 z_1.2.2.2.2.2.2.2.2.2 (fX0_become_o6 tpl tsp tsy tsh ppl psp psy psh tsc tnc tdy tzz psc pnc pdy pzz) (fX0_become_o7 tpl tsp tsy tsh ppl psp psy psh tsc tnc tdy tzz psc pnc pdy pzz)) (fX0_become_o3 ppl psp psy psh z_1.2.1 (fX0_become_o1 tpl tsp tsy tsh ppl psp psy psh tsc tnc tdy tzz psc pnc pdy pzz) z_1.2.2.1 z_1.2.2.2.1 psc pnc pdy pzz z_1.2.2.2.2.2.2.2.2.1 z_1.2.2.2.2.2.2.2.2.2 (fX0_become_o6 tpl tsp tsy tsh ppl psp psy psh tsc tnc tdy tzz psc pnc pdy pzz) (fX0_become_o7 tpl tsp tsy tsh ppl psp psy psh tsc tnc tdy tzz psc pnc pdy pzz)) z_1.2.1 (fX0_become_o1 tpl tsp tsy tsh ppl psp psy psh tsc tnc tdy tzz psc pnc pdy pzz) z_1.2.2.1 z_1.2.2.2.1 kpl ksp ksy ksh bs bt sz nm fd ik (fX0_become_o4 ppl psp psy psh z_1.2.1 (fX0_become_o1 tpl tsp tsy tsh ppl psp psy psh tsc tnc tdy tzz psc pnc pdy pzz) z_1.2.2.1 z_1.2.2.2.1 psc pnc pdy pzz z_1.2.2.2.2.2.2.2.2.1 z_1.2.2.2.2.2.2.2.2.2 (fX0_become_o6 tpl tsp tsy tsh ppl psp psy psh tsc tnc tdy tzz psc pnc pdy pzz) (fX0_become_o7 tpl tsp tsy tsh ppl psp psy psh tsc tnc tdy tzz psc pnc pdy pzz)) (fX0_become_o5 ppl psp psy psh z_1.2.1 (fX0_become_o1 tpl tsp tsy tsh ppl psp psy psh tsc tnc tdy tzz psc pnc pdy pzz) z_1.2.2.1 z_1.2.2.2.1 psc pnc pdy pzz z_1.2.2.2.2.2.2.2.2.1 z_1.2.2.2.2.2.2.2.2.2 (fX0_become_o6 tpl tsp tsy tsh ppl psp psy psh tsc tnc tdy tzz psc pnc pdy pzz) (fX0_become_o7 tpl tsp tsy tsh ppl psp psy psh tsc tnc tdy tzz psc pnc pdy pzz)) (fX0_become_o6 ppl psp psy psh z_1.2.1 (fX0_become_o1 tpl tsp tsy tsh ppl psp psy psh tsc tnc tdy tzz psc pnc pdy pzz) z_1.2.2.1 z_1.2.2.2.1 psc pnc pdy pzz z_1.2.2.2.2.2.2.2.2.1 z_1.2.2.2.2.2.2.2.2.2 (fX0_become_o6 tpl tsp tsy tsh ppl psp psy psh tsc tnc tdy tzz psc pnc pdy pzz) (fX0_become_o7 tpl tsp tsy tsh ppl psp psy psh tsc tnc tdy tzz psc pnc pdy pzz)) (fX0_become_o7 ppl psp psy psh z_1.2.1 (fX0_become_o1 tpl tsp tsy tsh ppl psp psy psh tsc tnc tdy tzz psc pnc pdy pzz) z_1.2.2.1 z_1.2.2.2.1 psc pnc pdy pzz z_1.2.2.2.2.2.2.2.2.1 z_1.2.2.2.2.2.2.2.2.2 (fX0_become_o6 tpl tsp tsy tsh ppl psp psy psh tsc tnc tdy tzz psc pnc pdy pzz) (fX0_become_o7 tpl tsp tsy tsh ppl psp psy psh tsc tnc tdy tzz psc pnc pdy pzz)) z_1.2.2.2.2.2.2.2.2.1 z_1.2.2.2.2.2.2.2.2.2 (fX0_become_o6 tpl tsp tsy tsh ppl psp psy psh tsc tnc tdy tzz psc pnc pdy pzz) (fX0_become_o7 tpl tsp tsy tsh ppl psp psy psh tsc tnc tdy tzz psc pnc pdy pzz) ksc knc kdy kzz ln z_1.2.2.2.2.1 z_1.2.2.2.2.2.1 z_1.2.2.2.2.2.2.1 z_1.2.2.2.2.2.2.2.1)) [1, 2, 3, 4, 5, 6, 7, 8, 9, 10] [none, some 0, some 1, some 2, some 3, some 4, some 5, some 6, some 7, some 8, some 9, none, none, none, none, none, none, none, none, none, none, none, none] (rV C0 (tX0_become l D cI cS a1 a2 a3 a4 a5 a6 a7 a8 a9 a10 ppl psp psy psh z_1.2.1 (fX0_become_o1 tpl tsp tsy tsh ppl psp psy psh tsc tnc tdy tzz psc pnc pdy pzz) z_1.2.2.1 z_1.2.2.2.1 psc pnc pdy pzz z_1.2.2.2.2.2.2.2.2.1 z_1.2.2.2.2.2.2.2.2.2 (fX0_become_o6 tpl tsp tsy tsh ppl psp psy psh tsc tnc tdy tzz psc pnc pdy pzz) (fX0_become_o7 tpl tsp tsy tsh ppl psp psy psh tsc tnc tdy tzz psc pnc pdy pzz)  (fX0_become_o0 ppl psp psy psh z_1.2.1 (fX0_become_o1 tpl tsp tsy tsh ppl psp psy psh tsc tnc tdy tzz psc pnc pdy pzz) z_1.2.2.1 z_1.2.2.2.1 psc pnc pdy pzz z_1.2.2.2.2.2.2.2.2.1 z_1.2.2.2.2.2.2.2.2.2 (fX0_become_o6 tpl tsp tsy tsh ppl psp psy psh tsc tnc tdy tzz psc pnc pdy pzz) (fX0_become_o7 tpl tsp tsy tsh ppl psp psy psh tsc tnc tdy tzz psc pnc pdy pzz)) (fX0_become_o1 ppl psp psy psh z_1.2.1 (fX0_become_o1 tpl tsp tsy tsh ppl psp psy psh tsc tnc tdy tzz psc pnc pdy pzz) z_1.2.2.1 z_1.2.2.2.1 psc pnc pdy pzz z_1.2.2.2.2.2.2.2.2.1 z_1.2.2.2.2.2.2.2.2.2 (fX0_become_o6 tpl tsp tsy tsh ppl psp psy psh tsc tnc tdy tzz psc pnc pdy pzz) (fX0_become_o7 tpl tsp tsy tsh ppl psp psy psh tsc tnc tdy tzz psc pnc pdy pzz)) (fX0_become_o2 ppl psp psy psh z_1.2.1 (fX0_become_o1 tpl tsp tsy tsh ppl psp psy psh tsc tnc tdy tzz psc pnc pdy pzz) z_1.2.2.1 z_1.2.2.2.1 psc pnc pdy pzz z_1.2.2.2.2.2.2.2.2.1 z_1.2.2.2.2.2.2.2.2.2 (fX0_become_o6 tpl tsp tsy tsh ppl psp psy psh tsc tnc tdy tzz psc pnc pdy pzz) (fX0_become_o7 tpl tsp tsy tsh ppl psp psy psh tsc tnc tdy tzz psc pnc pdy pzz)) (fX0_become_o3 ppl psp psy psh z_1.2.1 (fX0_become_o1 tpl tsp tsy tsh ppl psp psy psh tsc tnc tdy tzz psc pnc pdy pzz) z_1.2.2.1 z_1.2.2.2.1 psc pnc pdy pzz z_1.2.2.2.2.2.2.2.2.1 z_1.2.2.2.2.2.2.2.2.2 (fX0_become_o6 tpl tsp tsy tsh ppl psp psy psh tsc tnc tdy tzz psc pnc pdy pzz) (fX0_become_o7 tpl tsp tsy tsh ppl psp psy psh tsc tnc tdy tzz psc pnc pdy pzz)) (fX0_become_o4 ppl psp psy psh z_1.2.1 (fX0_become_o1 tpl tsp tsy tsh ppl psp psy psh tsc tnc tdy tzz psc pnc pdy pzz) z_1.2.2.1 z_1.2.2.2.1 psc pnc pdy pzz z_1.2.2.2.2.2.2.2.2.1 z_1.2.2.2.2.2.2.2.2.2 (fX0_become_o6 tpl tsp tsy tsh ppl psp psy psh tsc tnc tdy tzz psc pnc pdy pzz) (fX0_become_o7 tpl tsp tsy tsh ppl psp psy psh tsc tnc tdy tzz psc pnc pdy pzz)) (fX0_become_o5 ppl psp psy psh z_1.2.1 (fX0_become_o1 tpl tsp tsy tsh ppl psp psy psh tsc tnc tdy tzz psc pnc pdy pzz) z_1.2.2.1 z_1.2.2.2.1 psc pnc pdy pzz z_1.2.2.2.2.2.2.2.2.1 z_1.2.2.2.2.2.2.2.2.2 (fX0_become_o6 tpl tsp tsy tsh ppl psp psy psh tsc tnc tdy tzz psc pnc pdy pzz) (fX0_become_o7 tpl tsp tsy tsh ppl psp psy psh tsc tnc tdy tzz psc pnc pdy pzz)) (fX0_become_o6 ppl psp psy psh z_1.2.1 (fX0_become_o1 tpl tsp tsy tsh ppl psp psy psh tsc tnc tdy tzz psc pnc pdy pzz) z_1.2.2.1 z_1.2.2.2.1 psc pnc pdy pzz z_1.2.2.2.2.2.2.2.2.1 z_1.2.2.2.2.2.2.2.2.2 (fX0_become_o6 tpl tsp tsy tsh ppl psp psy psh tsc tnc tdy tzz psc pnc pdy pzz) (fX0_become_o7 tpl tsp tsy tsh ppl psp psy psh tsc tnc tdy tzz psc pnc pdy pzz)) (fX0_become_o7 ppl psp psy psh z_1.2.1 (fX0_become_o1 tpl tsp tsy tsh ppl psp psy psh tsc tnc tdy tzz psc pnc pdy pzz) z_1.2.2.1 z_1.2.2.2.1 psc pnc pdy pzz z_1.2.2.2.2.2.2.2.2.1 z_1.2.2.2.2.2.2.2.2.2 (fX0_become_o6 tpl tsp tsy tsh ppl psp psy psh tsc tnc tdy tzz psc pnc pdy pzz) (fX0_become_o7 tpl tsp tsy tsh ppl psp psy psh tsc tnc tdy tzz psc pnc pdy pzz)) (eeX0_become ..) (((hD (wX4 cI cS a0 a1 a2 a3 a4 a5 a6 a7 a8 a9 a10 a11 a12 a13 a14 a15 a16 a17 a18 a19 a20 a21 a22 ppl psp psy psh z_1.2.1 (fX0_become_o1 tpl tsp tsy tsh ppl psp psy psh tsc tnc tdy tzz psc pnc pdy pzz) z_1.2.2.1 z_1.2.2.2.1 kpl ksp ksy ksh bs bt sz nm fd ik psc pnc pdy pzz z_1.2.2.2.2.2.2.2.2.1 z_1.2.2.2.2.2.2.2.2.2 (fX0_become_o6 tpl tsp tsy tsh ppl psp psy psh tsc tnc tdy tzz psc pnc pdy pzz) (fX0_become_o7 tpl tsp tsy tsh ppl psp psy psh tsc tnc tdy tzz psc pnc pdy pzz) ksc knc kdy kzz ln z_1.2.2.2.2.1 z_1.2.2.2.2.2.1 z_1.2.2.2.2.2.2.1 z_1.2.2.2.2.2.2.2.1) rfl).sub [1, 2, 3, 4, 5, 6, 7, 8, 9, 10] (by decide) rfl).weaken (fun _ _ _ _ => trivial))) RX0 gX4_text_X0_become rfl ⟨rfl, rfl⟩ pdX0_become rfl ⟨Nat.le_of_ble_eq_true rfl, Nat.le_of_ble_eq_true rfl⟩ (fun _ _ _ _ q => q) (va_recv hE.1 hPc (ci := 0) (q0 := 0) rfl rfl) (fun U hU _ _ => by rw [hU]; exact hPc) hl.1 rfl (Nat.le_of_ble_eq_true rfl) dX4_text_35 ⟨Nat.zero_le _, Nat.zero_le _⟩) hP (hD _ rfl) hS rfl rfl rfl (fun H locs hP hS => ?_)
    refine lv_aload_n hx hb dX4_text_38 rfl (lv_at hl 1 rfl) ?_
    refine va_get (D := D) (ci := 3) (v := .ref a16) (C := RX4) (T := TX4) (N := 7) hx hb hts hinX4 hown hE.1 hP 0 rfl rfl 4 (by decide) (hts _ (List.mem_of_getElem? (i := 3) rfl)) (fun _ h9 => h9) rfl dX4_text_39 ?_
    refine lv_iconst (v := 0) hx hb dX4_text_42 (by decide) ?_
    refine va_putN (D := D) (ci := 2) (v := .int 0) (ty := .int) (C := RX3) (T := TX3) (N := 6) hx hb hts hinX3 tyX3 tyX3_ok nmX3 hown hE.1 hP (hD _ rfl) hS 16 rfl rfl 1 (by decide) (va_Nw.use rfl (hE.2 _ (List.mem_of_getElem? (i := 7) rfl))) (fun _ h9 => h9) rfl (by decide +kernel) rfl rfl (Nat.le_of_ble_eq_true rfl) dX4_text_43 (fun H locs hP _ hS => ?_)
    have hP : va_P D vwCl (wX4 cI cS a0 a1 a2 a3 a4 a5 a6 a7 a8 a9 a10 a11 a12 a13 a14 a15 a16 a17 a18 a19 a20 a21 a22 (fX0_become_o0 ppl psp psy psh z_1.2.1 (fX0_become_o1 tpl tsp tsy tsh ppl psp psy psh tsc tnc tdy tzz psc pnc pdy pzz) z_1.2.2.1 z_1.2.2.2.1 psc pnc pdy pzz z_1.2.2.2.2.2.2.2.2.1 z_1.2.2.2.2.2.2.2.2.2 (fX0_become_o6 tpl tsp tsy tsh ppl psp psy psh tsc tnc tdy tzz psc pnc pdy pzz) (fX0_become_o7 tpl tsp tsy tsh ppl psp psy psh tsc tnc tdy tzz psc pnc pdy pzz)) (fX0_become_o1 ppl psp psy psh z_1.2.1 (fX0_become_o1 tpl tsp tsy tsh ppl psp psy psh tsc tnc tdy tzz psc pnc pdy pzz) z_1.2.2.1 z_1.2.2.2.1 psc pnc pdy pzz z_1.2.2.2.2.2.2.2.2.1 z_1.2.2.2.2.2.2.2.2.2 (fX0_become_o6 tpl tsp tsy tsh ppl psp psy psh tsc tnc tdy tzz psc pnc pdy pzz) (fX0_become_o7 tpl tsp tsy tsh ppl psp psy psh tsc tnc tdy tzz psc pnc pdy pzz)) (fX0_become_o2 ppl psp psy psh z_1.2.1 (fX0_become_o1 tpl tsp tsy tsh ppl psp psy psh tsc tnc tdy tzz psc pnc pdy pzz) z_1.2.2.1 z_1.2.2.2.1 psc pnc pdy pzz z_1.2.2.2.2.2.2.2.2.1 z_1.2.2.2.2.2.2.2.2.2 (fX0_become_o6 tpl tsp tsy tsh ppl psp psy psh tsc tnc tdy tzz psc pnc pdy pzz) (fX0_become_o7 tpl tsp tsy tsh ppl psp psy psh tsc tnc tdy tzz psc pnc pdy pzz)) (fX0_become_o3 ppl psp psy psh z_1.2.1 (fX0_become_o1 tpl tsp tsy tsh ppl psp psy psh tsc tnc tdy tzz psc pnc pdy pzz) z_1.2.2.1 z_1.2.2.2.1 psc pnc pdy pzz z_1.2.2.2.2.2.2.2.2.1 z_1.2.2.2.2.2.2.2.2.2 (fX0_become_o6 tpl tsp tsy tsh ppl psp psy psh tsc tnc tdy tzz psc pnc pdy pzz) (fX0_become_o7 tpl tsp tsy tsh ppl psp psy psh tsc tnc tdy tzz psc pnc pdy pzz)) z_1.2.1 (fX0_become_o1 tpl tsp tsy tsh ppl psp psy psh tsc tnc tdy tzz psc pnc pdy pzz) z_1.2.2.1 z_1.2.2.2.1 kpl ksp ksy ksh bs bt sz nm fd ik (fX0_become_o4 ppl psp psy psh z_1.2.1 (fX0_become_o1 tpl tsp tsy tsh ppl psp psy psh tsc tnc tdy tzz psc pnc pdy pzz) z_1.2.2.1 z_1.2.2.2.1 psc pnc pdy pzz z_1.2.2.2.2.2.2.2.2.1 z_1.2.2.2.2.2.2.2.2.2 (fX0_become_o6 tpl tsp tsy tsh ppl psp psy psh tsc tnc tdy tzz psc pnc pdy pzz) (fX0_become_o7 tpl tsp tsy tsh ppl psp psy psh tsc tnc tdy tzz psc pnc pdy pzz)) (fX0_become_o5 ppl psp psy psh z_1.2.1 (fX0_become_o1 tpl tsp tsy tsh ppl psp psy psh tsc tnc tdy tzz psc pnc pdy pzz) z_1.2.2.1 z_1.2.2.2.1 psc pnc pdy pzz z_1.2.2.2.2.2.2.2.2.1 z_1.2.2.2.2.2.2.2.2.2 (fX0_become_o6 tpl tsp tsy tsh ppl psp psy psh tsc tnc tdy tzz psc pnc pdy pzz) (fX0_become_o7 tpl tsp tsy tsh ppl psp psy psh tsc tnc tdy tzz psc pnc pdy pzz)) (fX0_become_o6 ppl psp psy psh z_1.2.1 (fX0_become_o1 tpl tsp tsy tsh ppl psp psy psh tsc tnc tdy tzz psc pnc pdy pzz) z_1.2.2.1 z_1.2.2.2.1 psc pnc pdy pzz z_1.2.2.2.2.2.2.2.2.1 z_1.2.2.2.2.2.2.2.2.2 (fX0_become_o6 tpl tsp tsy tsh ppl psp psy psh tsc tnc tdy tzz psc pnc pdy pzz) (fX0_become_o7 tpl tsp tsy tsh ppl psp psy psh tsc tnc tdy tzz psc pnc pdy pzz)) (fX0_become_o7 ppl psp psy psh z_1.2.1 (fX0_become_o1 tpl tsp tsy tsh ppl psp psy psh tsc tnc tdy tzz psc pnc pdy pzz) z_1.2.2.1 z_1.2.2.2.1 psc pnc pdy pzz z_1.2.2.2.2.2.2.2.2.1 z_1.2.2.2.2.2.2.2.2.2 (fX0_become_o6 tpl tsp tsy tsh ppl psp psy psh tsc tnc tdy tzz psc pnc pdy pzz) (fX0_become_o7 tpl tsp tsy tsh ppl psp psy psh tsc tnc tdy tzz psc pnc pdy pzz)) z_1.2.2.2.2.2.2.2.2.1 z_1.2.2.2.2.2.2.2.2.2 (fX0_become_o6 tpl tsp tsy tsh ppl psp psy psh tsc tnc tdy tzz psc pnc pdy pzz) (fX0_become_o7 tpl tsp tsy tsh ppl psp psy psh tsc tnc tdy tzz psc pnc pdy pzz) ksc knc kdy kzz 0 z_1.2.2.2.2.1 z_1.2.2.2.2.2.1 z_1.2.2.2.2.2.2.1 z_1.2.2.2.2.2.2.2.1) H := hP
    refine lv_iload_n hx hb dX4_text_46 rfl (lv_at hl 0 rfl) ?_
    obtain ⟨q0, g0⟩ := Prod.mk.inj (Option.some.inj h)
    obtain ⟨q1, g1⟩ := Prod.mk.inj g0
    obtain ⟨q2, g2⟩ := Prod.mk.inj g1
    obtain ⟨q3, g3⟩ := Prod.mk.inj g2
    obtain ⟨q4, g4⟩ := Prod.mk.inj g3
    obtain ⟨q5, g5⟩ := Prod.mk.inj g4
    obtain ⟨q6, g6⟩ := Prod.mk.inj g5
    obtain ⟨q7, g7⟩ := Prod.mk.inj g6
    obtain ⟨q8, g8⟩ := Prod.mk.inj g7
    obtain ⟨q9, g9⟩ := Prod.mk.inj g8
    obtain ⟨q10, g10⟩ := Prod.mk.inj g9
    obtain ⟨q11, g11⟩ := Prod.mk.inj g10
    obtain ⟨q12, g12⟩ := Prod.mk.inj g11
    obtain ⟨q13, g13⟩ := Prod.mk.inj g12
    obtain ⟨q14, g14⟩ := Prod.mk.inj g13
    obtain ⟨q15, g15⟩ := Prod.mk.inj g14
    obtain ⟨q16, g16⟩ := Prod.mk.inj g15
    obtain ⟨q17, g17⟩ := Prod.mk.inj g16
    obtain ⟨q18, g18⟩ := Prod.mk.inj g17
    obtain ⟨q19, g19⟩ := Prod.mk.inj g18
    obtain ⟨q20, q21⟩ := Prod.mk.inj g19
    subst q0 q1 q2 q3 q4 q5 q6 q7 q8 q9 q10 q11 q12 q13 q14 q15 q16 q17 q18 q19 q20 q21
    exact eMi C0 hP hS rfl rfl dX4_text_47
def fX4_change (psy : Nat → Int32) (fd : Nat → Int32) (psc : Int32) (v1 : Int32) (v2 : Int32) (v3 : Int32) : Int32 × (Nat → Int32) × (Nat → Int32) := (if (fX0_hasSaying psc v1) = 0 then ((-1000001), psy, fX4_finding_o1 fd (-1000001)) else (if (fX4_within v2 0 4) = 0 then ((-1000001), psy, fX4_finding_o1 fd (-1000001)) else (if (fX4_within v3 0 (fX4_numberAt 5 stH v2)) = 0 then ((-1000001), psy, fX4_finding_o1 fd (-1000001)) else ((fX0_sayingHas psy v1 v2), (fX0_setOfSaying psy v1 v2 v3), fd))))
def fX4_change_o0 (psy : Nat → Int32) (fd : Nat → Int32) (psc : Int32) (v1 : Int32) (v2 : Int32) (v3 : Int32) : Int32 := (fX4_change psy fd psc v1 v2 v3).1
def fX4_change_o1 (psy : Nat → Int32) (fd : Nat → Int32) (psc : Int32) (v1 : Int32) (v2 : Int32) (v3 : Int32) : Nat → Int32 := (fX4_change psy fd psc v1 v2 v3).2.1
def fX4_change_o2 (psy : Nat → Int32) (fd : Nat → Int32) (psc : Int32) (v1 : Int32) (v2 : Int32) (v3 : Int32) : Nat → Int32 := (fX4_change psy fd psc v1 v2 v3).2.2
theorem eeX4_change (psy : Nat → Int32) (fd : Nat → Int32) (psc : Int32) (v1 : Int32) (v2 : Int32) (v3 : Int32) : fX4_change psy fd psc v1 v2 v3 = (fX4_change_o0 psy fd psc v1 v2 v3, fX4_change_o1 psy fd psc v1 v2 v3, fX4_change_o2 psy fd psc v1 v2 v3) := rfl
abbrev rmX4_change : Room := { frames := 2, cells := 0, slots := 0, locals := 45 }
theorem pdX4_change : (yX4_change.cls = RX4 ∧ yX4_change.cls ≠ "java/lang/invoke/MethodHandle" ∧ yX4_change.cls ≠ "java/lang/invoke/VarHandle" ∧ (parseMethodDescriptor yX4_change.desc).map (fun d => d.parameters.length) = some 3) := by decide +kernel
set_option maxHeartbeats 4000000 in
set_option maxRecDepth 100000 in
theorem tX4_change (l : Launch) (D : va_G) (cI cS : ClassId) (cs : CSt) (a0 a1 a2 a3 a4 a5 a6 a7 a8 a9 a10 a11 a12 a13 a14 a15 a16 a17 a18 a19 a20 a21 a22 : Nat) (ppl : Nat → Int32) (psp : Nat → Int32) (psy : Nat → Int32) (psh : Nat → Int32) (tpl : Nat → Int32) (tsp : Nat → Int32) (tsy : Nat → Int32) (tsh : Nat → Int32) (kpl : Nat → Int32) (ksp : Nat → Int32) (ksy : Nat → Int32) (ksh : Nat → Int32) (bs : Nat → Int32) (bt : Nat → Int32) (sz : Nat → Int32) (nm : Nat → Int32) (fd : Nat → Int32) (ik : Int32) (psc : Int32) (pnc : Int32) (pdy : Int32) (pzz : Int32) (tsc : Int32) (tnc : Int32) (tdy : Int32) (tzz : Int32) (ksc : Int32) (knc : Int32) (kdy : Int32) (kzz : Int32) (ln : Int32) (so : Int32) (be : Int32) (en : Int32) (va : Int32) (v1 : Int32) (v2 : Int32) (v3 : Int32) (z0 : Int32) (z1 : Nat → Int32) (z2 : Nat → Int32) (h : fX4_change psy fd psc v1 v2 v3 = (z0, z1, z2)) (hD0 : va_D (fun _ => True) (wX4 cI cS a0 a1 a2 a3 a4 a5 a6 a7 a8 a9 a10 a11 a12 a13 a14 a15 a16 a17 a18 a19 a20 a21 a22 ppl psp psy psh tpl tsp tsy tsh kpl ksp ksy ksh bs bt sz nm fd ik psc pnc pdy pzz tsc tnc tdy tzz ksc knc kdy kzz ln so be en va)) : Met l yX4_change wsX4_change rmX4_change (PZ D cI cS [.ref a0, .int v1, .int v2, .int v3] (fun U => va_P D vwCl (wX4 cI cS a0 a1 a2 a3 a4 a5 a6 a7 a8 a9 a10 a11 a12 a13 a14 a15 a16 a17 a18 a19 a20 a21 a22 ppl psp psy psh tpl tsp tsy tsh kpl ksp ksy ksh bs bt sz nm fd ik psc pnc pdy pzz tsc tnc tdy tzz ksc knc kdy kzz ln so be en va) U.heap ∧ CST cs (wA (wX4 cI cS a0 a1 a2 a3 a4 a5 a6 a7 a8 a9 a10 a11 a12 a13 a14 a15 a16 a17 a18 a19 a20 a21 a22 ppl psp psy psh tpl tsp tsy tsh kpl ksp ksy ksh bs bt sz nm fd ik psc pnc pdy pzz tsc tnc tdy tzz ksc knc kdy kzz ln so be en va)) U U.heap)) (qI D (wX4 cI cS a0 a1 a2 a3 a4 a5 a6 a7 a8 a9 a10 a11 a12 a13 a14 a15 a16 a17 a18 a19 a20 a21 a22 ppl psp psy psh tpl tsp tsy tsh kpl ksp ksy ksh bs bt sz nm fd ik psc pnc pdy pzz tsc tnc tdy tzz ksc knc kdy kzz ln so be en va) (wX4 cI cS a0 a1 a2 a3 a4 a5 a6 a7 a8 a9 a10 a11 a12 a13 a14 a15 a16 a17 a18 a19 a20 a21 a22 ppl psp z1 psh tpl tsp tsy tsh kpl ksp ksy ksh bs bt sz nm z2 ik psc pnc pdy pzz tsc tnc tdy tzz ksc knc kdy kzz ln so be en va) z0) 0 0 (wA (wX4 cI cS a0 a1 a2 a3 a4 a5 a6 a7 a8 a9 a10 a11 a12 a13 a14 a15 a16 a17 a18 a19 a20 a21 a22 ppl psp psy psh tpl tsp tsy tsh kpl ksp ksy ksh bs bt sz nm fd ik psc pnc pdy pzz tsc tnc tdy tzz ksc knc kdy kzz ln so be en va)) := by
  refine Met.mk RX4 (by decide) rfl rfl (Nat.le_of_ble_eq_true rfl) ?_
  intro p e s m below meth c ls C0 hP hl
  obtain ⟨hP, hCS⟩ := hP
  have hl : lv_has ls 5 [(0, .ref a0), (1, .int v1), (2, .int v2), (3, .int v3)] := hl
  obtain ⟨hx, hb, hr, hml, hown, hts, hlk, hE⟩ := id C0
  have hinX4 : ∀ w ∈ u_ws RX4 TX4 7, w ∈ wsX4_change := by decide +kernel
  have hD : ∀ W : va_W, W.map Prod.fst = [a0, a1, a2, a3, a4, a5, a6, a7, a8, a9, a10, a11, a12, a13, a14, a15, a16, a17, a18, a19, a20, a21, a22] → va_D (wA (wX4 cI cS a0 a1 a2 a3 a4 a5 a6 a7 a8 a9 a10 a11 a12 a13 a14 a15 a16 a17 a18 a19 a20 a21 a22 ppl psp psy psh tpl tsp tsy tsh kpl ksp ksy ksh bs bt sz nm fd ik psc pnc pdy pzz tsc tnc tdy tzz ksc knc kdy kzz ln so be en va)) W := fun W hW => hD0.own.re hW
  have hS : va_S (wA (wX4 cI cS a0 a1 a2 a3 a4 a5 a6 a7 a8 a9 a10 a11 a12 a13 a14 a15 a16 a17 a18 a19 a20 a21 a22 ppl psp psy psh tpl tsp tsy tsh kpl ksp ksy ksh bs bt sz nm fd ik psc pnc pdy pzz tsc tnc tdy tzz ksc knc kdy kzz ln so be en va)) s.heap s.heap [] := va_S.rf
  have hP : va_P D vwCl (wX4 cI cS a0 a1 a2 a3 a4 a5 a6 a7 a8 a9 a10 a11 a12 a13 a14 a15 a16 a17 a18 a19 a20 a21 a22 ppl psp psy psh tpl tsp tsy tsh kpl ksp ksy ksh bs bt sz nm fd ik psc pnc pdy pzz tsc tnc tdy tzz ksc knc kdy kzz ln so be en va) s.heap := hP
  rw [fX4_change] at h
  refine lv_aload_n hx hb dX4_change_0 rfl (lv_at hl 0 rfl) ?_
  refine va_get (D := D) (ci := 3) (v := .ref a1) (C := RX4) (T := TX4) (N := 7) hx hb hts hinX4 hown hE.1 hP 0 rfl rfl 0 (by decide) (hts _ (List.mem_of_getElem? (i := 1) rfl)) (fun _ h9 => h9) rfl dX4_change_1 ?_
  refine lv_iload_n hx hb dX4_change_4 rfl (lv_at hl 1 rfl) ?_
  have hPc := hP.sub (ws' := (wX0 cI cS a1 a2 a3 a4 a5 ppl psp psy psh psc pnc pdy pzz)) [1, 2, 3, 4, 5] rfl
  refine kRi (rV C0 (tX0_hasSaying l D cI cS a1 a2 a3 a4 a5 ppl psp psy psh psc pnc pdy pzz v1 (fX0_hasSaying psc v1) rfl) RX0 gX4_change_X0_hasSaying rfl ⟨rfl, rfl⟩ pdX0_hasSaying rfl ⟨Nat.le_of_ble_eq_true rfl, Nat.le_of_ble_eq_true rfl⟩ (fun _ _ _ _ q => q) (va_recv hE.1 hPc (ci := 0) (q0 := 0) rfl rfl) (fun U hU _ _ => by rw [hU]; exact hPc) hl.1 rfl (Nat.le_of_ble_eq_true rfl) dX4_change_5 ⟨Nat.zero_le _, Nat.zero_le _⟩) ?_
  refine lv_if_eq (tgt := 20) hx hb dX4_change_8 (by decide) (fun c_1 => ?_) (fun c_1 => ?_)
  · have h := ifp c_1 h
    refine lv_aload_n hx hb dX4_change_20 rfl (lv_at hl 0 rfl) ?_
    refine lv_ldc (v := (-1000001)) hx hb hown (hts _ (List.mem_of_getElem? (i := 2) rfl)) dX4_change_21 ?_
    have hPc := hP.sub (ws' := (wX4 cI cS a0 a1 a2 a3 a4 a5 a6 a7 a8 a9 a10 a11 a12 a13 a14 a15 a16 a17 a18 a19 a20 a21 a22 ppl psp psy psh tpl tsp tsy tsh kpl ksp ksy ksh bs bt sz nm fd ik psc pnc pdy pzz tsc tnc tdy tzz ksc knc kdy kzz ln so be en va)) [0, 1, 2, 3, 4, 5, 6, 7, 8, 9, 10, 11, 12, 13, 14, 15, 16, 17, 18, 19, 20, 21, 22] rfl
    refine kMi (wf' := (wX4 cI cS a0 a1 a2 a3 a4 a5 a6 a7 a8 a9 a10 a11 a12 a13 a14 a15 a16 a17 a18 a19 a20 a21 a22 ppl psp psy psh tpl tsp tsy tsh kpl ksp ksy ksh bs bt sz nm (fX4_finding_o1 fd (-1000001)) ik psc pnc pdy pzz tsc tnc tdy tzz ksc knc kdy kzz ln so be en va)) [0, 1, 2, 3, 4, 5, 6, 7, 8, 9, 10, 11, 12, 13, 14, 15, 16, 17, 18, 19, 20, 21, 22] [some 0, some 1, some 2, some 3, some 4, some 5, some 6, some 7, some 8, some 9, some 10, some 11, some 12, some 13, some 14, some 15, some 16, some 17, some 18, some 19, some 20, some 21, some 22] (rV C0 (tX4_finding l D cI cS a0 a1 a2 a3 a4 a5 a6 a7 a8 a9 a10 a11 a12 a13 a14 a15 a16 a17 a18 a19 a20 a21 a22 ppl psp psy psh tpl tsp tsy tsh kpl ksp ksy ksh bs bt sz nm fd ik psc pnc pdy pzz tsc tnc tdy tzz ksc knc kdy kzz ln so be en va (-1000001) (-1000001) (fX4_finding_o1 fd (-1000001)) (eeX4_finding ..) (((hD (wX4 cI cS a0 a1 a2 a3 a4 a5 a6 a7 a8 a9 a10 a11 a12 a13 a14 a15 a16 a17 a18 a19 a20 a21 a22 ppl psp psy psh tpl tsp tsy tsh kpl ksp ksy ksh bs bt sz nm fd ik psc pnc pdy pzz tsc tnc tdy tzz ksc knc kdy kzz ln so be en va) rfl).sub [0, 1, 2, 3, 4, 5, 6, 7, 8, 9, 10, 11, 12, 13, 14, 15, 16, 17, 18, 19, 20, 21, 22] (by decide) rfl).weaken (fun _ _ _ _ => trivial))) RX4 gX4_change_X4_finding rfl ⟨rfl, rfl⟩ pdX4_finding rfl ⟨Nat.le_of_ble_eq_true rfl, Nat.le_of_ble_eq_true rfl⟩ (fun _ _ _ _ q => q) (va_recv hE.1 hPc (ci := 3) (q0 := 0) rfl rfl) (fun U hU _ _ => by rw [hU]; exact hPc) hl.1 rfl (Nat.le_of_ble_eq_true rfl) dX4_change_23 ⟨Nat.zero_le _, Nat.zero_le _⟩) hP (hD _ rfl) hS rfl rfl rfl (fun H locs hP hS => ?_)
    obtain ⟨q0, g0⟩ := Prod.mk.inj (h)
    obtain ⟨q1, q2⟩ := Prod.mk.inj g0
    subst q0 q1 q2
    exact eMi C0 hP hS rfl rfl dX4_change_26
  · have h := ifn c_1 h
    refine lv_iload_n hx hb dX4_change_11 rfl (lv_at hl 2 rfl) ?_
    refine lv_iconst (v := 0) hx hb dX4_change_12 (by decide) ?_
    refine lv_iconst (v := 4) hx hb dX4_change_13 (by decide) ?_
    refine kRi (rS C0 (tX4_within l D cI cS v2 0 4 (fX4_within v2 0 4) rfl) gX4_change_X4_within rfl ⟨rfl, rfl⟩ pdX4_within rfl ⟨Nat.le_of_ble_eq_true rfl, Nat.le_of_ble_eq_true rfl⟩ (fun _ _ _ _ q => q) (fun _ _ _ _ => vp0) hl.1 rfl (Nat.le_of_ble_eq_true rfl) dX4_change_14 ⟨Nat.zero_le _, Nat.zero_le _⟩) ?_
    refine lv_if_ne (tgt := 27) hx hb dX4_change_17 (by decide) (fun c_2 => ?_) (fun c_2 => ?_)
    · have h := ifn c_2 h
      refine lv_iload_n hx hb dX4_change_27 rfl (lv_at hl 3 rfl) ?_
      refine lv_iconst (v := 0) hx hb dX4_change_28 (by decide) ?_
      refine va_gets hx hb hCS.2.2.2.2.1.1 hS hown (hts _ (List.mem_of_getElem? (i := 3) rfl)) (fun _ h9 => h9) dX4_change_29 ?_
      refine lv_iload_n hx hb dX4_change_32 rfl (lv_at hl 2 rfl) ?_
      refine kRi (rS C0 (tX4_numberT l D cI cS cs.2.2.1 5 stH v2 (by decide)) gX4_change_X4_numberAt rfl ⟨rfl, rfl⟩ pdX4_numberAt rfl ⟨Nat.le_of_ble_eq_true rfl, Nat.le_of_ble_eq_true rfl⟩ (fun _ _ _ _ q => va_T.moved (Vm.Alike.refl _) q) (fun U hU hW _ => by rw [hU]; exact (((hCS.kept hS.2.1).narrow (fun _ q => q.elim)).warm hW).2.2.2.2.1.2) hl.1 rfl (Nat.le_of_ble_eq_true rfl) dX4_change_33 ⟨Nat.zero_le _, Nat.zero_le _⟩) ?_
      refine kRi (rS C0 (tX4_within l D cI cS v3 0 (fX4_numberAt 5 stH v2) (fX4_within v3 0 (fX4_numberAt 5 stH v2)) rfl) gX4_change_X4_within rfl ⟨rfl, rfl⟩ pdX4_within rfl ⟨Nat.le_of_ble_eq_true rfl, Nat.le_of_ble_eq_true rfl⟩ (fun _ _ _ _ q => q) (fun _ _ _ _ => vp0) hl.1 rfl (Nat.le_of_ble_eq_true rfl) dX4_change_36 ⟨Nat.zero_le _, Nat.zero_le _⟩) ?_
      refine lv_if_ne (tgt := 49) hx hb dX4_change_39 (by decide) (fun c_3 => ?_) (fun c_3 => ?_)
      · have h := ifn c_3 h
        refine lv_aload_n hx hb dX4_change_49 rfl (lv_at hl 0 rfl) ?_
        refine va_get (D := D) (ci := 3) (v := .ref a1) (C := RX4) (T := TX4) (N := 7) hx hb hts hinX4 hown hE.1 hP 0 rfl rfl 0 (by decide) (hts _ (List.mem_of_getElem? (i := 1) rfl)) (fun _ h9 => h9) rfl dX4_change_50 ?_
        refine lv_iload_n hx hb dX4_change_53 rfl (lv_at hl 1 rfl) ?_
        refine lv_iload_n hx hb dX4_change_54 rfl (lv_at hl 2 rfl) ?_
        have hPc := hP.sub (ws' := (wX0 cI cS a1 a2 a3 a4 a5 ppl psp psy psh psc pnc pdy pzz)) [1, 2, 3, 4, 5] rfl
        refine kRi (rV C0 (tX0_sayingHas l D cI cS a1 a2 a3 a4 a5 ppl psp psy psh psc pnc pdy pzz v1 v2 (fX0_sayingHas psy v1 v2) rfl) RX0 gX4_change_X0_sayingHas rfl ⟨rfl, rfl⟩ pdX0_sayingHas rfl ⟨Nat.le_of_ble_eq_true rfl, Nat.le_of_ble_eq_true rfl⟩ (fun _ _ _ _ q => q) (va_recv hE.1 hPc (ci := 0) (q0 := 0) rfl rfl) (fun U hU _ _ => by rw [hU]; exact hPc) hl.1 rfl (Nat.le_of_ble_eq_true rfl) dX4_change_55 ⟨Nat.zero_le _, Nat.zero_le _⟩) ?_
        refine lv_istore (lv' := [(4, .int (fX0_sayingHas psy v1 v2)), (0, .ref a0), (1, .int v1), (2, .int v2), (3, .int v3)]) hx hb dX4_change_58 hl (by decide) rfl (fun ls hl => ?_)
        refine lv_aload_n hx hb dX4_change_60 rfl (lv_at hl 1 rfl) ?_
        refine va_get (D := D) (ci := 3) (v := .ref a1) (C := RX4) (T := TX4) (N := 7) hx hb hts hinX4 hown hE.1 hP 0 rfl rfl 0 (by decide) (hts _ (List.mem_of_getElem? (i := 1) rfl)) (fun _ h9 => h9) rfl dX4_change_61 ?_
        refine lv_iload_n hx hb dX4_change_64 rfl (lv_at hl 2 rfl) ?_
        refine lv_iload_n hx hb dX4_change_65 rfl (lv_at hl 3 rfl) ?_
        refine lv_iload_n hx hb dX4_change_66 rfl (lv_at hl 4 rfl) ?_
        have hPc := hP.sub (ws' := (wX0 cI cS a1 a2 a3 a4 a5 ppl psp psy psh psc pnc pdy pzz)) [1, 2, 3, 4, 5] rfl
        refine kMv (wf' := (wX4 cI cS a0 a1 a2 a3 a4 a5 a6 a7 a8 a9 a10 a11 a12 a13 a14 a15 a16 a17 a18 a19 a20 a21 a22 ppl psp (fX0_setOfSaying psy v1 v2 v3) psh tpl tsp tsy tsh kpl ksp ksy ksh bs bt sz nm fd ik psc pnc pdy pzz tsc tnc tdy tzz ksc knc kdy kzz ln so be en va)) [1, 2, 3, 4, 5] [none, some 0, some 1, some 2, some 3, some 4, none, none, none, none, none, none, none, none, none, none, none, none, none, none, none, none, none] (rV C0 (tX0_setOfSaying l D cI cS a1 a2 a3 a4 a5 ppl psp psy psh psc pnc pdy pzz v1 v2 v3 (fX0_setOfSaying psy v1 v2 v3) rfl (((hD (wX4 cI cS a0 a1 a2 a3 a4 a5 a6 a7 a8 a9 a10 a11 a12 a13 a14 a15 a16 a17 a18 a19 a20 a21 a22 ppl psp psy psh tpl tsp tsy tsh kpl ksp ksy ksh bs bt sz nm fd ik psc pnc pdy pzz tsc tnc tdy tzz ksc knc kdy kzz ln so be en va) rfl).sub [1, 2, 3, 4, 5] (by decide) rfl).weaken (fun _ _ _ _ => trivial))) RX0 gX4_change_X0_setOfSaying rfl ⟨rfl, rfl⟩ pdX0_setOfSaying rfl ⟨Nat.le_of_ble_eq_true rfl, Nat.le_of_ble_eq_true rfl⟩ (fun _ _ _ _ q => q) (va_recv hE.1 hPc (ci := 0) (q0 := 0) rfl rfl) (fun U hU _ _ => by rw [hU]; exact hPc) hl.1 rfl (Nat.le_of_ble_eq_true rfl) dX4_change_67 ⟨Nat.zero_le _, Nat.zero_le _⟩) hP (hD _ rfl) hS rfl rfl rfl (fun H locs hP hS => ?_)
        refine lv_iload hx hb dX4_change_70 (lv_at hl 0 rfl) ?_
        obtain ⟨q0, g0⟩ := Prod.mk.inj (h)
        obtain ⟨q1, q2⟩ := Prod.mk.inj g0
        subst q0 q1 q2
        exact eMi C0 hP hS rfl rfl dX4_change_72
      · have h := ifp c_3 h
        refine lv_aload_n hx hb dX4_change_42 rfl (lv_at hl 0 rfl) ?_
        refine lv_ldc (v := (-1000001)) hx hb hown (hts _ (List.mem_of_getElem? (i := 2) rfl)) dX4_change_43 ?_
        have hPc := hP.sub (ws' := (wX4 cI cS a0 a1 a2 a3 a4 a5 a6 a7 a8 a9 a10 a11 a12 a13 a14 a15 a16 a17 a18 a19 a20 a21 a22 ppl psp psy psh tpl tsp tsy tsh kpl ksp ksy ksh bs bt sz nm fd ik psc pnc pdy pzz tsc tnc tdy tzz ksc knc kdy kzz ln so be en va)) [0, 1, 2, 3, 4, 5, 6, 7, 8, 9, 10, 11, 12, 13, 14, 15, 16, 17, 18, 19, 20, 21, 22] rfl
        refine kMi (wf' := (wX4 cI cS a0 a1 a2 a3 a4 a5 a6 a7 a8 a9 a10 a11 a12 a13 a14 a15 a16 a17 a18 a19 a20 a21 a22 ppl psp psy psh tpl tsp tsy tsh kpl ksp ksy ksh bs bt sz nm (fX4_finding_o1 fd (-1000001)) ik psc pnc pdy pzz tsc tnc tdy tzz ksc knc kdy kzz ln so be en va)) [0, 1, 2, 3, 4, 5, 6, 7, 8, 9, 10, 11, 12, 13, 14, 15, 16, 17, 18, 19, 20, 21, 22] [some 0, some 1, some 2, some 3, some 4, some 5, some 6, some 7, some 8, some 9, some 10, some 11, some 12, some 13, some 14, some 15, some 16, some 17, some 18, some 19, some 20, some 21, some 22] (rV C0 (tX4_finding l D cI cS a0 a1 a2 a3 a4 a5 a6 a7 a8 a9 a10 a11 a12 a13 a14 a15 a16 a17 a18 a19 a20 a21 a22 ppl psp psy psh tpl tsp tsy tsh kpl ksp ksy ksh bs bt sz nm fd ik psc pnc pdy pzz tsc tnc tdy tzz ksc knc kdy kzz ln so be en va (-1000001) (-1000001) (fX4_finding_o1 fd (-1000001)) (eeX4_finding ..) (((hD (wX4 cI cS a0 a1 a2 a3 a4 a5 a6 a7 a8 a9 a10 a11 a12 a13 a14 a15 a16 a17 a18 a19 a20 a21 a22 ppl psp psy psh tpl tsp tsy tsh kpl ksp ksy ksh bs bt sz nm fd ik psc pnc pdy pzz tsc tnc tdy tzz ksc knc kdy kzz ln so be en va) rfl).sub [0, 1, 2, 3, 4, 5, 6, 7, 8, 9, 10, 11, 12, 13, 14, 15, 16, 17, 18, 19, 20, 21, 22] (by decide) rfl).weaken (fun _ _ _ _ => trivial))) RX4 gX4_change_X4_finding rfl ⟨rfl, rfl⟩ pdX4_finding rfl ⟨Nat.le_of_ble_eq_true rfl, Nat.le_of_ble_eq_true rfl⟩ (fun _ _ _ _ q => q) (va_recv hE.1 hPc (ci := 3) (q0 := 0) rfl rfl) (fun U hU _ _ => by rw [hU]; exact hPc) hl.1 rfl (Nat.le_of_ble_eq_true rfl) dX4_change_45 ⟨Nat.zero_le _, Nat.zero_le _⟩) hP (hD _ rfl) hS rfl rfl rfl (fun H locs hP hS => ?_)
        obtain ⟨q0, g0⟩ := Prod.mk.inj (h)
        obtain ⟨q1, q2⟩ := Prod.mk.inj g0
        subst q0 q1 q2
        exact eMi C0 hP hS rfl rfl dX4_change_48
    · have h := ifp c_2 h
      refine lv_aload_n hx hb dX4_change_20 rfl (lv_at hl 0 rfl) ?_
      refine lv_ldc (v := (-1000001)) hx hb hown (hts _ (List.mem_of_getElem? (i := 2) rfl)) dX4_change_21 ?_
      have hPc := hP.sub (ws' := (wX4 cI cS a0 a1 a2 a3 a4 a5 a6 a7 a8 a9 a10 a11 a12 a13 a14 a15 a16 a17 a18 a19 a20 a21 a22 ppl psp psy psh tpl tsp tsy tsh kpl ksp ksy ksh bs bt sz nm fd ik psc pnc pdy pzz tsc tnc tdy tzz ksc knc kdy kzz ln so be en va)) [0, 1, 2, 3, 4, 5, 6, 7, 8, 9, 10, 11, 12, 13, 14, 15, 16, 17, 18, 19, 20, 21, 22] rfl
      refine kMi (wf' := (wX4 cI cS a0 a1 a2 a3 a4 a5 a6 a7 a8 a9 a10 a11 a12 a13 a14 a15 a16 a17 a18 a19 a20 a21 a22 ppl psp psy psh tpl tsp tsy tsh kpl ksp ksy ksh bs bt sz nm (fX4_finding_o1 fd (-1000001)) ik psc pnc pdy pzz tsc tnc tdy tzz ksc knc kdy kzz ln so be en va)) [0, 1, 2, 3, 4, 5, 6, 7, 8, 9, 10, 11, 12, 13, 14, 15, 16, 17, 18, 19, 20, 21, 22] [some 0, some 1, some 2, some 3, some 4, some 5, some 6, some 7, some 8, some 9, some 10, some 11, some 12, some 13, some 14, some 15, some 16, some 17, some 18, some 19, some 20, some 21, some 22] (rV C0 (tX4_finding l D cI cS a0 a1 a2 a3 a4 a5 a6 a7 a8 a9 a10 a11 a12 a13 a14 a15 a16 a17 a18 a19 a20 a21 a22 ppl psp psy psh tpl tsp tsy tsh kpl ksp ksy ksh bs bt sz nm fd ik psc pnc pdy pzz tsc tnc tdy tzz ksc knc kdy kzz ln so be en va (-1000001) (-1000001) (fX4_finding_o1 fd (-1000001)) (eeX4_finding ..) (((hD (wX4 cI cS a0 a1 a2 a3 a4 a5 a6 a7 a8 a9 a10 a11 a12 a13 a14 a15 a16 a17 a18 a19 a20 a21 a22 ppl psp psy psh tpl tsp tsy tsh kpl ksp ksy ksh bs bt sz nm fd ik psc pnc pdy pzz tsc tnc tdy tzz ksc knc kdy kzz ln so be en va) rfl).sub [0, 1, 2, 3, 4, 5, 6, 7, 8, 9, 10, 11, 12, 13, 14, 15, 16, 17, 18, 19, 20, 21, 22] (by decide) rfl).weaken (fun _ _ _ _ => trivial))) RX4 gX4_change_X4_finding rfl ⟨rfl, rfl⟩ pdX4_finding rfl ⟨Nat.le_of_ble_eq_true rfl, Nat.le_of_ble_eq_true rfl⟩ (fun _ _ _ _ q => q) (va_recv hE.1 hPc (ci := 3) (q0 := 0) rfl rfl) (fun U hU _ _ => by rw [hU]; exact hPc) hl.1 rfl (Nat.le_of_ble_eq_true rfl) dX4_change_23 ⟨Nat.zero_le _, Nat.zero_le _⟩) hP (hD _ rfl) hS rfl rfl rfl (fun H locs hP hS => ?_)
      obtain ⟨q0, g0⟩ := Prod.mk.inj (h)
      obtain ⟨q1, q2⟩ := Prod.mk.inj g0
      subst q0 q1 q2
      exact eMi C0 hP hS rfl rfl dX4_change_26
def fX4_steer (psh : Nat → Int32) (fd : Nat → Int32) (pnc : Int32) (v1 : Int32) (v2 : Int32) (v3 : Int32) : Int32 × (Nat → Int32) × (Nat → Int32) := (if (fX0_hasShip pnc v1) = 0 then ((-1000001), psh, fX4_finding_o1 fd (-1000001)) else (if (fX4_within v2 0 3) = 0 then ((-1000001), psh, fX4_finding_o1 fd (-1000001)) else (if (fX4_within v3 (fX4_numberAt 4 stL v2) (fX4_numberAt 4 stM v2)) = 0 then ((-1000001), psh, fX4_finding_o1 fd (-1000001)) else ((fX0_shipHas psh v1 v2), (fX0_setOfShip psh v1 v2 v3), fd))))
def fX4_steer_o0 (psh : Nat → Int32) (fd : Nat → Int32) (pnc : Int32) (v1 : Int32) (v2 : Int32) (v3 : Int32) : Int32 := (fX4_steer psh fd pnc v1 v2 v3).1
def fX4_steer_o1 (psh : Nat → Int32) (fd : Nat → Int32) (pnc : Int32) (v1 : Int32) (v2 : Int32) (v3 : Int32) : Nat → Int32 := (fX4_steer psh fd pnc v1 v2 v3).2.1
def fX4_steer_o2 (psh : Nat → Int32) (fd : Nat → Int32) (pnc : Int32) (v1 : Int32) (v2 : Int32) (v3 : Int32) : Nat → Int32 := (fX4_steer psh fd pnc v1 v2 v3).2.2
theorem eeX4_steer (psh : Nat → Int32) (fd : Nat → Int32) (pnc : Int32) (v1 : Int32) (v2 : Int32) (v3 : Int32) : fX4_steer psh fd pnc v1 v2 v3 = (fX4_steer_o0 psh fd pnc v1 v2 v3, fX4_steer_o1 psh fd pnc v1 v2 v3, fX4_steer_o2 psh fd pnc v1 v2 v3) := rfl
abbrev rmX4_steer : Room := { frames := 2, cells := 0, slots := 0, locals := 45 }
theorem pdX4_steer : (yX4_steer.cls = RX4 ∧ yX4_steer.cls ≠ "java/lang/invoke/MethodHandle" ∧ yX4_steer.cls ≠ "java/lang/invoke/VarHandle" ∧ (parseMethodDescriptor yX4_steer.desc).map (fun d => d.parameters.length) = some 3) := by decide +kernel
set_option maxHeartbeats 4000000 in
set_option maxRecDepth 100000 in
theorem tX4_steer (l : Launch) (D : va_G) (cI cS : ClassId) (cs : CSt) (a0 a1 a2 a3 a4 a5 a6 a7 a8 a9 a10 a11 a12 a13 a14 a15 a16 a17 a18 a19 a20 a21 a22 : Nat) (ppl : Nat → Int32) (psp : Nat → Int32) (psy : Nat → Int32) (psh : Nat → Int32) (tpl : Nat → Int32) (tsp : Nat → Int32) (tsy : Nat → Int32) (tsh : Nat → Int32) (kpl : Nat → Int32) (ksp : Nat → Int32) (ksy : Nat → Int32) (ksh : Nat → Int32) (bs : Nat → Int32) (bt : Nat → Int32) (sz : Nat → Int32) (nm : Nat → Int32) (fd : Nat → Int32) (ik : Int32) (psc : Int32) (pnc : Int32) (pdy : Int32) (pzz : Int32) (tsc : Int32) (tnc : Int32) (tdy : Int32) (tzz : Int32) (ksc : Int32) (knc : Int32) (kdy : Int32) (kzz : Int32) (ln : Int32) (so : Int32) (be : Int32) (en : Int32) (va : Int32) (v1 : Int32) (v2 : Int32) (v3 : Int32) (z0 : Int32) (z1 : Nat → Int32) (z2 : Nat → Int32) (h : fX4_steer psh fd pnc v1 v2 v3 = (z0, z1, z2)) (hD0 : va_D (fun _ => True) (wX4 cI cS a0 a1 a2 a3 a4 a5 a6 a7 a8 a9 a10 a11 a12 a13 a14 a15 a16 a17 a18 a19 a20 a21 a22 ppl psp psy psh tpl tsp tsy tsh kpl ksp ksy ksh bs bt sz nm fd ik psc pnc pdy pzz tsc tnc tdy tzz ksc knc kdy kzz ln so be en va)) : Met l yX4_steer wsX4_steer rmX4_steer (PZ D cI cS [.ref a0, .int v1, .int v2, .int v3] (fun U => va_P D vwCl (wX4 cI cS a0 a1 a2 a3 a4 a5 a6 a7 a8 a9 a10 a11 a12 a13 a14 a15 a16 a17 a18 a19 a20 a21 a22 ppl psp psy psh tpl tsp tsy tsh kpl ksp ksy ksh bs bt sz nm fd ik psc pnc pdy pzz tsc tnc tdy tzz ksc knc kdy kzz ln so be en va) U.heap ∧ CST cs (wA (wX4 cI cS a0 a1 a2 a3 a4 a5 a6 a7 a8 a9 a10 a11 a12 a13 a14 a15 a16 a17 a18 a19 a20 a21 a22 ppl psp psy psh tpl tsp tsy tsh kpl ksp ksy ksh bs bt sz nm fd ik psc pnc pdy pzz tsc tnc tdy tzz ksc knc kdy kzz ln so be en va)) U U.heap)) (qI D (wX4 cI cS a0 a1 a2 a3 a4 a5 a6 a7 a8 a9 a10 a11 a12 a13 a14 a15 a16 a17 a18 a19 a20 a21 a22 ppl psp psy psh tpl tsp tsy tsh kpl ksp ksy ksh bs bt sz nm fd ik psc pnc pdy pzz tsc tnc tdy tzz ksc knc kdy kzz ln so be en va) (wX4 cI cS a0 a1 a2 a3 a4 a5 a6 a7 a8 a9 a10 a11 a12 a13 a14 a15 a16 a17 a18 a19 a20 a21 a22 ppl psp psy z1 tpl tsp tsy tsh kpl ksp ksy ksh bs bt sz nm z2 ik psc pnc pdy pzz tsc tnc tdy tzz ksc knc kdy kzz ln so be en va) z0) 0 0 (wA (wX4 cI cS a0 a1 a2 a3 a4 a5 a6 a7 a8 a9 a10 a11 a12 a13 a14 a15 a16 a17 a18 a19 a20 a21 a22 ppl psp psy psh tpl tsp tsy tsh kpl ksp ksy ksh bs bt sz nm fd ik psc pnc pdy pzz tsc tnc tdy tzz ksc knc kdy kzz ln so be en va)) := by
  refine Met.mk RX4 (by decide) rfl rfl (Nat.le_of_ble_eq_true rfl) ?_
  intro p e s m below meth c ls C0 hP hl
  obtain ⟨hP, hCS⟩ := hP
  have hl : lv_has ls 5 [(0, .ref a0), (1, .int v1), (2, .int v2), (3, .int v3)] := hl
  obtain ⟨hx, hb, hr, hml, hown, hts, hlk, hE⟩ := id C0
  have hinX4 : ∀ w ∈ u_ws RX4 TX4 7, w ∈ wsX4_steer := by decide +kernel
  have hD : ∀ W : va_W, W.map Prod.fst = [a0, a1, a2, a3, a4, a5, a6, a7, a8, a9, a10, a11, a12, a13, a14, a15, a16, a17, a18, a19, a20, a21, a22] → va_D (wA (wX4 cI cS a0 a1 a2 a3 a4 a5 a6 a7 a8 a9 a10 a11 a12 a13 a14 a15 a16 a17 a18 a19 a20 a21 a22 ppl psp psy psh tpl tsp tsy tsh kpl ksp ksy ksh bs bt sz nm fd ik psc pnc pdy pzz tsc tnc tdy tzz ksc knc kdy kzz ln so be en va)) W := fun W hW => hD0.own.re hW
  have hS : va_S (wA (wX4 cI cS a0 a1 a2 a3 a4 a5 a6 a7 a8 a9 a10 a11 a12 a13 a14 a15 a16 a17 a18 a19 a20 a21 a22 ppl psp psy psh tpl tsp tsy tsh kpl ksp ksy ksh bs bt sz nm fd ik psc pnc pdy pzz tsc tnc tdy tzz ksc knc kdy kzz ln so be en va)) s.heap s.heap [] := va_S.rf
  have hP : va_P D vwCl (wX4 cI cS a0 a1 a2 a3 a4 a5 a6 a7 a8 a9 a10 a11 a12 a13 a14 a15 a16 a17 a18 a19 a20 a21 a22 ppl psp psy psh tpl tsp tsy tsh kpl ksp ksy ksh bs bt sz nm fd ik psc pnc pdy pzz tsc tnc tdy tzz ksc knc kdy kzz ln so be en va) s.heap := hP
  rw [fX4_steer] at h
  refine lv_aload_n hx hb dX4_steer_0 rfl (lv_at hl 0 rfl) ?_
  refine va_get (D := D) (ci := 3) (v := .ref a1) (C := RX4) (T := TX4) (N := 7) hx hb hts hinX4 hown hE.1 hP 0 rfl rfl 0 (by decide) (hts _ (List.mem_of_getElem? (i := 1) rfl)) (fun _ h9 => h9) rfl dX4_steer_1 ?_
  refine lv_iload_n hx hb dX4_steer_4 rfl (lv_at hl 1 rfl) ?_
  have hPc := hP.sub (ws' := (wX0 cI cS a1 a2 a3 a4 a5 ppl psp psy psh psc pnc pdy pzz)) [1, 2, 3, 4, 5] rfl
  refine kRi (rV C0 (tX0_hasShip l D cI cS a1 a2 a3 a4 a5 ppl psp psy psh psc pnc pdy pzz v1 (fX0_hasShip pnc v1) rfl) RX0 gX4_steer_X0_hasShip rfl ⟨rfl, rfl⟩ pdX0_hasShip rfl ⟨Nat.le_of_ble_eq_true rfl, Nat.le_of_ble_eq_true rfl⟩ (fun _ _ _ _ q => q) (va_recv hE.1 hPc (ci := 0) (q0 := 0) rfl rfl) (fun U hU _ _ => by rw [hU]; exact hPc) hl.1 rfl (Nat.le_of_ble_eq_true rfl) dX4_steer_5 ⟨Nat.zero_le _, Nat.zero_le _⟩) ?_
  refine lv_if_eq (tgt := 20) hx hb dX4_steer_8 (by decide) (fun c_1 => ?_) (fun c_1 => ?_)
  · have h := ifp c_1 h
    refine lv_aload_n hx hb dX4_steer_20 rfl (lv_at hl 0 rfl) ?_
    refine lv_ldc (v := (-1000001)) hx hb hown (hts _ (List.mem_of_getElem? (i := 2) rfl)) dX4_steer_21 ?_
    have hPc := hP.sub (ws' := (wX4 cI cS a0 a1 a2 a3 a4 a5 a6 a7 a8 a9 a10 a11 a12 a13 a14 a15 a16 a17 a18 a19 a20 a21 a22 ppl psp psy psh tpl tsp tsy tsh kpl ksp ksy ksh bs bt sz nm fd ik psc pnc pdy pzz tsc tnc tdy tzz ksc knc kdy kzz ln so be en va)) [0, 1, 2, 3, 4, 5, 6, 7, 8, 9, 10, 11, 12, 13, 14, 15, 16, 17, 18, 19, 20, 21, 22] rfl
    refine kMi (wf' := (wX4 cI cS a0 a1 a2 a3 a4 a5 a6 a7 a8 a9 a10 a11 a12 a13 a14 a15 a16 a17 a18 a19 a20 a21 a22 ppl psp psy psh tpl tsp tsy tsh kpl ksp ksy ksh bs bt sz nm (fX4_finding_o1 fd (-1000001)) ik psc pnc pdy pzz tsc tnc tdy tzz ksc knc kdy kzz ln so be en va)) [0, 1, 2, 3, 4, 5, 6, 7, 8, 9, 10, 11, 12, 13, 14, 15, 16, 17, 18, 19, 20, 21, 22] [some 0, some 1, some 2, some 3, some 4, some 5, some 6, some 7, some 8, some 9, some 10, some 11, some 12, some 13, some 14, some 15, some 16, some 17, some 18, some 19, some 20, some 21, some 22] (rV C0 (tX4_finding l D cI cS a0 a1 a2 a3 a4 a5 a6 a7 a8 a9 a10 a11 a12 a13 a14 a15 a16 a17 a18 a19 a20 a21 a22 ppl psp psy psh tpl tsp tsy tsh kpl ksp ksy ksh bs bt sz nm fd ik psc pnc pdy pzz tsc tnc tdy tzz ksc knc kdy kzz ln so be en va (-1000001) (-1000001) (fX4_finding_o1 fd (-1000001)) (eeX4_finding ..) (((hD (wX4 cI cS a0 a1 a2 a3 a4 a5 a6 a7 a8 a9 a10 a11 a12 a13 a14 a15 a16 a17 a18 a19 a20 a21 a22 ppl psp psy psh tpl tsp tsy tsh kpl ksp ksy ksh bs bt sz nm fd ik psc pnc pdy pzz tsc tnc tdy tzz ksc knc kdy kzz ln so be en va) rfl).sub [0, 1, 2, 3, 4, 5, 6, 7, 8, 9, 10, 11, 12, 13, 14, 15, 16, 17, 18, 19, 20, 21, 22] (by decide) rfl).weaken (fun _ _ _ _ => trivial))) RX4 gX4_steer_X4_finding rfl ⟨rfl, rfl⟩ pdX4_finding rfl ⟨Nat.le_of_ble_eq_true rfl, Nat.le_of_ble_eq_true rfl⟩ (fun _ _ _ _ q => q) (va_recv hE.1 hPc (ci := 3) (q0 := 0) rfl rfl) (fun U hU _ _ => by rw [hU]; exact hPc) hl.1 rfl (Nat.le_of_ble_eq_true rfl) dX4_steer_23 ⟨Nat.zero_le _, Nat.zero_le _⟩) hP (hD _ rfl) hS rfl rfl rfl (fun H locs hP hS => ?_)
    obtain ⟨q0, g0⟩ := Prod.mk.inj (h)
    obtain ⟨q1, q2⟩ := Prod.mk.inj g0
    subst q0 q1 q2
    exact eMi C0 hP hS rfl rfl dX4_steer_26
  · have h := ifn c_1 h
    refine lv_iload_n hx hb dX4_steer_11 rfl (lv_at hl 2 rfl) ?_
    refine lv_iconst (v := 0) hx hb dX4_steer_12 (by decide) ?_
    refine lv_iconst (v := 3) hx hb dX4_steer_13 (by decide) ?_
    refine kRi (rS C0 (tX4_within l D cI cS v2 0 3 (fX4_within v2 0 3) rfl) gX4_steer_X4_within rfl ⟨rfl, rfl⟩ pdX4_within rfl ⟨Nat.le_of_ble_eq_true rfl, Nat.le_of_ble_eq_true rfl⟩ (fun _ _ _ _ q => q) (fun _ _ _ _ => vp0) hl.1 rfl (Nat.le_of_ble_eq_true rfl) dX4_steer_14 ⟨Nat.zero_le _, Nat.zero_le _⟩) ?_
    refine lv_if_ne (tgt := 27) hx hb dX4_steer_17 (by decide) (fun c_2 => ?_) (fun c_2 => ?_)
    · have h := ifn c_2 h
      refine lv_iload_n hx hb dX4_steer_27 rfl (lv_at hl 3 rfl) ?_
      refine va_gets hx hb hCS.2.2.2.2.2.1.1 hS hown (hts _ (List.mem_of_getElem? (i := 3) rfl)) (fun _ h9 => h9) dX4_steer_28 ?_
      refine lv_iload_n hx hb dX4_steer_31 rfl (lv_at hl 2 rfl) ?_
      refine kRi (rS C0 (tX4_numberT l D cI cS cs.2.2.2.1 4 stL v2 (by decide)) gX4_steer_X4_numberAt rfl ⟨rfl, rfl⟩ pdX4_numberAt rfl ⟨Nat.le_of_ble_eq_true rfl, Nat.le_of_ble_eq_true rfl⟩ (fun _ _ _ _ q => va_T.moved (Vm.Alike.refl _) q) (fun U hU hW _ => by rw [hU]; exact (((hCS.kept hS.2.1).narrow (fun _ q => q.elim)).warm hW).2.2.2.2.2.1.2) hl.1 rfl (Nat.le_of_ble_eq_true rfl) dX4_steer_32 ⟨Nat.zero_le _, Nat.zero_le _⟩) ?_
      refine va_gets hx hb hCS.2.2.2.2.2.2.1 hS hown (hts _ (List.mem_of_getElem? (i := 4) rfl)) (fun _ h9 => h9) dX4_steer_35 ?_
      refine lv_iload_n hx hb dX4_steer_38 rfl (lv_at hl 2 rfl) ?_
      refine kRi (rS C0 (tX4_numberT l D cI cS cs.2.2.2.2 4 stM v2 (by decide)) gX4_steer_X4_numberAt rfl ⟨rfl, rfl⟩ pdX4_numberAt rfl ⟨Nat.le_of_ble_eq_true rfl, Nat.le_of_ble_eq_true rfl⟩ (fun _ _ _ _ q => va_T.moved (Vm.Alike.refl _) q) (fun U hU hW _ => by rw [hU]; exact (((hCS.kept hS.2.1).narrow (fun _ q => q.elim)).warm hW).2.2.2.2.2.2.2) hl.1 rfl (Nat.le_of_ble_eq_true rfl) dX4_steer_39 ⟨Nat.zero_le _, Nat.zero_le _⟩) ?_
      refine kRi (rS C0 (tX4_within l D cI cS v3 (fX4_numberAt 4 stL v2) (fX4_numberAt 4 stM v2) (fX4_within v3 (fX4_numberAt 4 stL v2) (fX4_numberAt 4 stM v2)) rfl) gX4_steer_X4_within rfl ⟨rfl, rfl⟩ pdX4_within rfl ⟨Nat.le_of_ble_eq_true rfl, Nat.le_of_ble_eq_true rfl⟩ (fun _ _ _ _ q => q) (fun _ _ _ _ => vp0) hl.1 rfl (Nat.le_of_ble_eq_true rfl) dX4_steer_42 ⟨Nat.zero_le _, Nat.zero_le _⟩) ?_
      refine lv_if_ne (tgt := 55) hx hb dX4_steer_45 (by decide) (fun c_3 => ?_) (fun c_3 => ?_)
      · have h := ifn c_3 h
        refine lv_aload_n hx hb dX4_steer_55 rfl (lv_at hl 0 rfl) ?_
        refine va_get (D := D) (ci := 3) (v := .ref a1) (C := RX4) (T := TX4) (N := 7) hx hb hts hinX4 hown hE.1 hP 0 rfl rfl 0 (by decide) (hts _ (List.mem_of_getElem? (i := 1) rfl)) (fun _ h9 => h9) rfl dX4_steer_56 ?_
        refine lv_iload_n hx hb dX4_steer_59 rfl (lv_at hl 1 rfl) ?_
        refine lv_iload_n hx hb dX4_steer_60 rfl (lv_at hl 2 rfl) ?_
        have hPc := hP.sub (ws' := (wX0 cI cS a1 a2 a3 a4 a5 ppl psp psy psh psc pnc pdy pzz)) [1, 2, 3, 4, 5] rfl
        refine kRi (rV C0 (tX0_shipHas l D cI cS a1 a2 a3 a4 a5 ppl psp psy psh psc pnc pdy pzz v1 v2 (fX0_shipHas psh v1 v2) rfl) RX0 gX4_steer_X0_shipHas rfl ⟨rfl, rfl⟩ pdX0_shipHas rfl ⟨Nat.le_of_ble_eq_true rfl, Nat.le_of_ble_eq_true rfl⟩ (fun _ _ _ _ q => q) (va_recv hE.1 hPc (ci := 0) (q0 := 0) rfl rfl) (fun U hU _ _ => by rw [hU]; exact hPc) hl.1 rfl (Nat.le_of_ble_eq_true rfl) dX4_steer_61 ⟨Nat.zero_le _, Nat.zero_le _⟩) ?_
        refine lv_istore (lv' := [(4, .int (fX0_shipHas psh v1 v2)), (0, .ref a0), (1, .int v1), (2, .int v2), (3, .int v3)]) hx hb dX4_steer_64 hl (by decide) rfl (fun ls hl => ?_)
        refine lv_aload_n hx hb dX4_steer_66 rfl (lv_at hl 1 rfl) ?_
        refine va_get (D := D) (ci := 3) (v := .ref a1) (C := RX4) (T := TX4) (N := 7) hx hb hts hinX4 hown hE.1 hP 0 rfl rfl 0 (by decide) (hts _ (List.mem_of_getElem? (i := 1) rfl)) (fun _ h9 => h9) rfl dX4_steer_67 ?_
        refine lv_iload_n hx hb dX4_steer_70 rfl (lv_at hl 2 rfl) ?_
        refine lv_iload_n hx hb dX4_steer_71 rfl (lv_at hl 3 rfl) ?_
        refine lv_iload_n hx hb dX4_steer_72 rfl (lv_at hl 4 rfl) ?_
        have hPc := hP.sub (ws' := (wX0 cI cS a1 a2 a3 a4 a5 ppl psp psy psh psc pnc pdy pzz)) [1, 2, 3, 4, 5] rfl
        refine kMv (wf' := (wX4 cI cS a0 a1 a2 a3 a4 a5 a6 a7 a8 a9 a10 a11 a12 a13 a14 a15 a16 a17 a18 a19 a20 a21 a22 ppl psp psy (fX0_setOfShip psh v1 v2 v3) tpl tsp tsy tsh kpl ksp ksy ksh bs bt sz nm fd ik psc pnc pdy pzz tsc tnc tdy tzz ksc knc kdy kzz ln so be en va)) [1, 2, 3, 4, 5] [none, some 0, some 1, some 2, some 3, some 4, none, none, none, none, none, none, none, none, none, none, none, none, none, none, none, none, none] (rV C0 (tX0_setOfShip l D cI cS a1 a2 a3 a4 a5 ppl psp psy psh psc pnc pdy pzz v1 v2 v3 (fX0_setOfShip psh v1 v2 v3) rfl (((hD (wX4 cI cS a0 a1 a2 a3 a4 a5 a6 a7 a8 a9 a10 a11 a12 a13 a14 a15 a16 a17 a18 a19 a20 a21 a22 ppl psp psy psh tpl tsp tsy tsh kpl ksp ksy ksh bs bt sz nm fd ik psc pnc pdy pzz tsc tnc tdy tzz ksc knc kdy kzz ln so be en va) rfl).sub [1, 2, 3, 4, 5] (by decide) rfl).weaken (fun _ _ _ _ => trivial))) RX0 gX4_steer_X0_setOfShip rfl ⟨rfl, rfl⟩ pdX0_setOfShip rfl ⟨Nat.le_of_ble_eq_true rfl, Nat.le_of_ble_eq_true rfl⟩ (fun _ _ _ _ q => q) (va_recv hE.1 hPc (ci := 0) (q0 := 0) rfl rfl) (fun U hU _ _ => by rw [hU]; exact hPc) hl.1 rfl (Nat.le_of_ble_eq_true rfl) dX4_steer_73 ⟨Nat.zero_le _, Nat.zero_le _⟩) hP (hD _ rfl) hS rfl rfl rfl (fun H locs hP hS => ?_)
        refine lv_iload hx hb dX4_steer_76 (lv_at hl 0 rfl) ?_
        obtain ⟨q0, g0⟩ := Prod.mk.inj (h)
        obtain ⟨q1, q2⟩ := Prod.mk.inj g0
        subst q0 q1 q2
        exact eMi C0 hP hS rfl rfl dX4_steer_78
      · have h := ifp c_3 h
        refine lv_aload_n hx hb dX4_steer_48 rfl (lv_at hl 0 rfl) ?_
        refine lv_ldc (v := (-1000001)) hx hb hown (hts _ (List.mem_of_getElem? (i := 2) rfl)) dX4_steer_49 ?_
        have hPc := hP.sub (ws' := (wX4 cI cS a0 a1 a2 a3 a4 a5 a6 a7 a8 a9 a10 a11 a12 a13 a14 a15 a16 a17 a18 a19 a20 a21 a22 ppl psp psy psh tpl tsp tsy tsh kpl ksp ksy ksh bs bt sz nm fd ik psc pnc pdy pzz tsc tnc tdy tzz ksc knc kdy kzz ln so be en va)) [0, 1, 2, 3, 4, 5, 6, 7, 8, 9, 10, 11, 12, 13, 14, 15, 16, 17, 18, 19, 20, 21, 22] rfl
        refine kMi (wf' := (wX4 cI cS a0 a1 a2 a3 a4 a5 a6 a7 a8 a9 a10 a11 a12 a13 a14 a15 a16 a17 a18 a19 a20 a21 a22 ppl psp psy psh tpl tsp tsy tsh kpl ksp ksy ksh bs bt sz nm (fX4_finding_o1 fd (-1000001)) ik psc pnc pdy pzz tsc tnc tdy tzz ksc knc kdy kzz ln so be en va)) [0, 1, 2, 3, 4, 5, 6, 7, 8, 9, 10, 11, 12, 13, 14, 15, 16, 17, 18, 19, 20, 21, 22] [some 0, some 1, some 2, some 3, some 4, some 5, some 6, some 7, some 8, some 9, some 10, some 11, some 12, some 13, some 14, some 15, some 16, some 17, some 18, some 19, some 20, some 21, some 22] (rV C0 (tX4_finding l D cI cS a0 a1 a2 a3 a4 a5 a6 a7 a8 a9 a10 a11 a12 a13 a14 a15 a16 a17 a18 a19 a20 a21 a22 ppl psp psy psh tpl tsp tsy tsh kpl ksp ksy ksh bs bt sz nm fd ik psc pnc pdy pzz tsc tnc tdy tzz ksc knc kdy kzz ln so be en va (-1000001) (-1000001) (fX4_finding_o1 fd (-1000001)) (eeX4_finding ..) (((hD (wX4 cI cS a0 a1 a2 a3 a4 a5 a6 a7 a8 a9 a10 a11 a12 a13 a14 a15 a16 a17 a18 a19 a20 a21 a22 ppl psp psy psh tpl tsp tsy tsh kpl ksp ksy ksh bs bt sz nm fd ik psc pnc pdy pzz tsc tnc tdy tzz ksc knc kdy kzz ln so be en va) rfl).sub [0, 1, 2, 3, 4, 5, 6, 7, 8, 9, 10, 11, 12, 13, 14, 15, 16, 17, 18, 19, 20, 21, 22] (by decide) rfl).weaken (fun _ _ _ _ => trivial))) RX4 gX4_steer_X4_finding rfl ⟨rfl, rfl⟩ pdX4_finding rfl ⟨Nat.le_of_ble_eq_true rfl, Nat.le_of_ble_eq_true rfl⟩ (fun _ _ _ _ q => q) (va_recv hE.1 hPc (ci := 3) (q0 := 0) rfl rfl) (fun U hU _ _ => by rw [hU]; exact hPc) hl.1 rfl (Nat.le_of_ble_eq_true rfl) dX4_steer_51 ⟨Nat.zero_le _, Nat.zero_le _⟩) hP (hD _ rfl) hS rfl rfl rfl (fun H locs hP hS => ?_)
        obtain ⟨q0, g0⟩ := Prod.mk.inj (h)
        obtain ⟨q1, q2⟩ := Prod.mk.inj g0
        subst q0 q1 q2
        exact eMi C0 hP hS rfl rfl dX4_steer_54
    · have h := ifp c_2 h
      refine lv_aload_n hx hb dX4_steer_20 rfl (lv_at hl 0 rfl) ?_
      refine lv_ldc (v := (-1000001)) hx hb hown (hts _ (List.mem_of_getElem? (i := 2) rfl)) dX4_steer_21 ?_
      have hPc := hP.sub (ws' := (wX4 cI cS a0 a1 a2 a3 a4 a5 a6 a7 a8 a9 a10 a11 a12 a13 a14 a15 a16 a17 a18 a19 a20 a21 a22 ppl psp psy psh tpl tsp tsy tsh kpl ksp ksy ksh bs bt sz nm fd ik psc pnc pdy pzz tsc tnc tdy tzz ksc knc kdy kzz ln so be en va)) [0, 1, 2, 3, 4, 5, 6, 7, 8, 9, 10, 11, 12, 13, 14, 15, 16, 17, 18, 19, 20, 21, 22] rfl
      refine kMi (wf' := (wX4 cI cS a0 a1 a2 a3 a4 a5 a6 a7 a8 a9 a10 a11 a12 a13 a14 a15 a16 a17 a18 a19 a20 a21 a22 ppl psp psy psh tpl tsp tsy tsh kpl ksp ksy ksh bs bt sz nm (fX4_finding_o1 fd (-1000001)) ik psc pnc pdy pzz tsc tnc tdy tzz ksc knc kdy kzz ln so be en va)) [0, 1, 2, 3, 4, 5, 6, 7, 8, 9, 10, 11, 12, 13, 14, 15, 16, 17, 18, 19, 20, 21, 22] [some 0, some 1, some 2, some 3, some 4, some 5, some 6, some 7, some 8, some 9, some 10, some 11, some 12, some 13, some 14, some 15, some 16, some 17, some 18, some 19, some 20, some 21, some 22] (rV C0 (tX4_finding l D cI cS a0 a1 a2 a3 a4 a5 a6 a7 a8 a9 a10 a11 a12 a13 a14 a15 a16 a17 a18 a19 a20 a21 a22 ppl psp psy psh tpl tsp tsy tsh kpl ksp ksy ksh bs bt sz nm fd ik psc pnc pdy pzz tsc tnc tdy tzz ksc knc kdy kzz ln so be en va (-1000001) (-1000001) (fX4_finding_o1 fd (-1000001)) (eeX4_finding ..) (((hD (wX4 cI cS a0 a1 a2 a3 a4 a5 a6 a7 a8 a9 a10 a11 a12 a13 a14 a15 a16 a17 a18 a19 a20 a21 a22 ppl psp psy psh tpl tsp tsy tsh kpl ksp ksy ksh bs bt sz nm fd ik psc pnc pdy pzz tsc tnc tdy tzz ksc knc kdy kzz ln so be en va) rfl).sub [0, 1, 2, 3, 4, 5, 6, 7, 8, 9, 10, 11, 12, 13, 14, 15, 16, 17, 18, 19, 20, 21, 22] (by decide) rfl).weaken (fun _ _ _ _ => trivial))) RX4 gX4_steer_X4_finding rfl ⟨rfl, rfl⟩ pdX4_finding rfl ⟨Nat.le_of_ble_eq_true rfl, Nat.le_of_ble_eq_true rfl⟩ (fun _ _ _ _ q => q) (va_recv hE.1 hPc (ci := 3) (q0 := 0) rfl rfl) (fun U hU _ _ => by rw [hU]; exact hPc) hl.1 rfl (Nat.le_of_ble_eq_true rfl) dX4_steer_23 ⟨Nat.zero_le _, Nat.zero_le _⟩) hP (hD _ rfl) hS rfl rfl rfl (fun H locs hP hS => ?_)
      obtain ⟨q0, g0⟩ := Prod.mk.inj (h)
      obtain ⟨q1, q2⟩ := Prod.mk.inj g0
      subst q0 q1 q2
      exact eMi C0 hP hS rfl rfl dX4_steer_26
def fX4_leastToLand_46 (F : Nat) (ppl : Nat → Int32) (psp : Nat → Int32) (psy : Nat → Int32) (psh : Nat → Int32) (psc : Int32) (pnc : Int32) (pdy : Int32) (pzz : Int32) (v1 : Int32) (v2 : Int32) (v3 : Int32) (v4 : Int32) : Nat → Int32 → (Nat → Int32) → (Nat → Int32) → (Nat → Int32) → (Nat → Int32) → (Nat → Int32) → Int32 → Int32 → Int32 → Int32 → Option (Int32 × (Nat → Int32) × (Nat → Int32) × (Nat → Int32) × (Nat → Int32) × (Nat → Int32) × Int32 × Int32 × Int32 × Int32)
  | 0, _, _, _, _, _, _, _, _, _, _ => none
  | n + 1, v5, tpl, tsp, tsy, tsh, fd, tsc, tnc, tdy, tzz => (if v4 < v5 then some ((-1000004), tpl, tsp, tsy, tsh, fX4_finding_o1 fd (-1000004), tsc, tnc, tdy, tzz) else Option.bind (fX0_passDays F (fX0_become_o0 tpl tsp tsy tsh ppl psp psy psh tsc tnc tdy tzz psc pnc pdy pzz) (fX0_become_o2 tpl tsp tsy tsh ppl psp psy psh tsc tnc tdy tzz psc pnc pdy pzz) (fX0_setOfShip (fX0_become_o3 tpl tsp tsy tsh ppl psp psy psh tsc tnc tdy tzz psc pnc pdy pzz) v1 v3 v5) (fX0_become_o4 tpl tsp tsy tsh ppl psp psy psh tsc tnc tdy tzz psc pnc pdy pzz) (fX0_become_o5 tpl tsp tsy tsh ppl psp psy psh tsc tnc tdy tzz psc pnc pdy pzz) (fX0_become_o6 tpl tsp tsy tsh ppl psp psy psh tsc tnc tdy tzz psc pnc pdy pzz) v2 (1 <<< (v1 &&& 31))) (fun z_4 => (if (fX0_isInPort z_4.2.1 v1) = 0 then fX4_leastToLand_46 F ppl psp psy psh psc pnc pdy pzz v1 v2 v3 v4 n (v5 + 1) (fX0_become_o0 tpl tsp tsy tsh ppl psp psy psh tsc tnc tdy tzz psc pnc pdy pzz) (fX0_become_o1 tpl tsp tsy tsh ppl psp psy psh tsc tnc tdy tzz psc pnc pdy pzz) z_4.1 z_4.2.1 fd (fX0_become_o4 tpl tsp tsy tsh ppl psp psy psh tsc tnc tdy tzz psc pnc pdy pzz) (fX0_become_o5 tpl tsp tsy tsh ppl psp psy psh tsc tnc tdy tzz psc pnc pdy pzz) z_4.2.2 (fX0_become_o7 tpl tsp tsy tsh ppl psp psy psh tsc tnc tdy tzz psc pnc pdy pzz) else some (v5, fX0_become_o0 tpl tsp tsy tsh ppl psp psy psh tsc tnc tdy tzz psc pnc pdy pzz, fX0_become_o1 tpl tsp tsy tsh ppl psp psy psh tsc tnc tdy tzz psc pnc pdy pzz, z_4.1, z_4.2.1, fd, fX0_become_o4 tpl tsp tsy tsh ppl psp psy psh tsc tnc tdy tzz psc pnc pdy pzz, fX0_become_o5 tpl tsp tsy tsh ppl psp psy psh tsc tnc tdy tzz psc pnc pdy pzz, z_4.2.2, fX0_become_o7 tpl tsp tsy tsh ppl psp psy psh tsc tnc tdy tzz psc pnc pdy pzz))))
def fX4_leastToLand (F : Nat) (ppl : Nat → Int32) (psp : Nat → Int32) (psy : Nat → Int32) (psh : Nat → Int32) (tpl : Nat → Int32) (tsp : Nat → Int32) (tsy : Nat → Int32) (tsh : Nat → Int32) (fd : Nat → Int32) (psc : Int32) (pnc : Int32) (pdy : Int32) (pzz : Int32) (tsc : Int32) (tnc : Int32) (tdy : Int32) (tzz : Int32) (v1 : Int32) (v2 : Int32) (v3 : Int32) : Option (Int32 × (Nat → Int32) × (Nat → Int32) × (Nat → Int32) × (Nat → Int32) × (Nat → Int32) × Int32 × Int32 × Int32 × Int32) := (if (fX0_hasShip pnc v1) = 0 then some ((-1000001), tpl, tsp, tsy, tsh, fX4_finding_o1 fd (-1000001), tsc, tnc, tdy, tzz) else (if (fX4_within v2 0 40) = 0 then some ((-1000001), tpl, tsp, tsy, tsh, fX4_finding_o1 fd (-1000001), tsc, tnc, tdy, tzz) else fX4_leastToLand_46 F ppl psp psy psh psc pnc pdy pzz v1 v2 v3 (fX4_numberAt 4 stM v3) F (fX4_numberAt 4 stL v3) tpl tsp tsy tsh fd tsc tnc tdy tzz))
abbrev rmX4_leastToLand : Room := { frames := 5, cells := 0, slots := 0, locals := 120 }
theorem pdX4_leastToLand : (yX4_leastToLand.cls = RX4 ∧ yX4_leastToLand.cls ≠ "java/lang/invoke/MethodHandle" ∧ yX4_leastToLand.cls ≠ "java/lang/invoke/VarHandle" ∧ (parseMethodDescriptor yX4_leastToLand.desc).map (fun d => d.parameters.length) = some 3) := by decide +kernel
set_option maxHeartbeats 4000000 in
set_option maxRecDepth 100000 in
theorem lX4_leastToLand_46 {p : Program} {l : Launch} {e : Env} {s : State} {m : MethodId} {av : Array Value} {below : List Frame} {meth : Method} {c : Code} {D : va_G} {cI cS : ClassId} {a0 a1 a2 a3 a4 a5 a6 a7 a8 a9 a10 a11 a12 a13 a14 a15 a16 a17 a18 a19 a20 a21 a22 : Nat} {W0 : va_W} (C0 : CX p s m av meth c RX4 cX4_leastToLand 6 (some .int) wsX4_leastToLand D cI cS) (F : Nat) (ppl : Nat → Int32) (psp : Nat → Int32) (psy : Nat → Int32) (psh : Nat → Int32) (kpl : Nat → Int32) (ksp : Nat → Int32) (ksy : Nat → Int32) (ksh : Nat → Int32) (bs : Nat → Int32) (bt : Nat → Int32) (sz : Nat → Int32) (nm : Nat → Int32) (ik : Int32) (psc : Int32) (pnc : Int32) (pdy : Int32) (pzz : Int32) (ksc : Int32) (knc : Int32) (kdy : Int32) (kzz : Int32) (ln : Int32) (so : Int32) (be : Int32) (en : Int32) (va : Int32) (v1 : Int32) (v2 : Int32) (v3 : Int32) (v4 : Int32) (z0 : Int32) (z1 : Nat → Int32) (z2 : Nat → Int32) (z3 : Nat → Int32) (z4 : Nat → Int32) (z5 : Nat → Int32) (z6 : Int32) (z7 : Int32) (z8 : Int32) (z9 : Int32) (cs : CSt) (hCS : CST cs (wA W0) s s.heap) (hD : ∀ W : va_W, W.map Prod.fst = [a0, a1, a2, a3, a4, a5, a6, a7, a8, a9, a10, a11, a12, a13, a14, a15, a16, a17, a18, a19, a20, a21, a22] → va_D (wA W0) W) : ∀ (n : Nat) (v5 : Int32) (tpl : Nat → Int32) (tsp : Nat → Int32) (tsy : Nat → Int32) (tsh : Nat → Int32) (fd : Nat → Int32) (tsc : Int32) (tnc : Int32) (tdy : Int32) (tzz : Int32) (H : Heap) (locs : List Loc), va_P D vwCl (wX4 cI cS a0 a1 a2 a3 a4 a5 a6 a7 a8 a9 a10 a11 a12 a13 a14 a15 a16 a17 a18 a19 a20 a21 a22 ppl psp psy psh tpl tsp tsy tsh kpl ksp ksy ksh bs bt sz nm fd ik psc pnc pdy pzz tsc tnc tdy tzz ksc knc kdy kzz ln so be en va) H → va_S (wA W0) s.heap H locs → ∀ (ls : Array Slot), lv_has ls 6 [(0, .ref a0), (1, .int v1), (2, .int v2), (3, .int v3), (4, .int v4), (5, .int v5)] → fX4_leastToLand_46 F ppl psp psy psh psc pnc pdy pzz v1 v2 v3 v4 n v5 tpl tsp tsy tsh fd tsc tnc tdy tzz = some (z0, z1, z2, z3, z4, z5, z6, z7, z8, z9) → W p l e rmX4_leastToLand s m av below meth c H locs 0 0 (MQ below (qI D W0 (wX4 cI cS a0 a1 a2 a3 a4 a5 a6 a7 a8 a9 a10 a11 a12 a13 a14 a15 a16 a17 a18 a19 a20 a21 a22 ppl psp psy psh z1 z2 z3 z4 kpl ksp ksy ksh bs bt sz nm z5 ik psc pnc pdy pzz z6 z7 z8 z9 ksc knc kdy kzz ln so be en va) z0) av s 0 0 (wA W0)) (F0 m 46 ls []) := by
  obtain ⟨hx, hb, hr, hml, hown, hts, hlk, hE⟩ := id C0
  have hinX4 : ∀ w ∈ u_ws RX4 TX4 7, w ∈ wsX4_leastToLand := by decide +kernel
  intro n
  induction n with
  | zero =>
    intro v5 tpl tsp tsy tsh fd tsc tnc tdy tzz H locs hP hS ls hl h
    cases (show none = some (z0, z1, z2, z3, z4, z5, z6, z7, z8, z9) from h)
  | succ n ih =>
    intro v5 tpl tsp tsy tsh fd tsc tnc tdy tzz H locs hP hS ls hl h
    rw [fX4_leastToLand_46] at h
    refine lv_iload hx hb dX4_leastToLand_46 (lv_at hl 5 rfl) ?_
    refine lv_iload hx hb dX4_leastToLand_48 (lv_at hl 4 rfl) ?_
    refine lv_icmp_gt (tgt := 106) hx hb dX4_leastToLand_50 (by decide) (fun c_3 => ?_) (fun c_3 => ?_)
    · have h := ifp c_3 h
      refine lv_aload_n hx hb dX4_leastToLand_106 rfl (lv_at hl 0 rfl) ?_
      refine lv_ldc (v := (-1000004)) hx hb hown (hts _ (List.mem_of_getElem? (i := 6) rfl)) dX4_leastToLand_107 ?_
      have hPc := hP.sub (ws' := (wX4 cI cS a0 a1 a2 a3 a4 a5 a6 a7 a8 a9 a10 a11 a12 a13 a14 a15 a16 a17 a18 a19 a20 a21 a22 ppl psp psy psh tpl tsp tsy tsh kpl ksp ksy ksh bs bt sz nm fd ik psc pnc pdy pzz tsc tnc tdy tzz ksc knc kdy kzz ln so be en va)) [0, 1, 2, 3, 4, 5, 6, 7, 8, 9, 10, 11, 12, 13, 14, 15, 16, 17, 18, 19, 20, 21, 22] rfl
      refine kMi (wf' := (wX4 cI cS a0 a1 a2 a3 a4 a5 a6 a7 a8 a9 a10 a11 a12 a13 a14 a15 a16 a17 a18 a19 a20 a21 a22 ppl psp psy psh tpl tsp tsy tsh kpl ksp ksy ksh bs bt sz nm (fX4_finding_o1 fd (-1000004)) ik psc pnc pdy pzz tsc tnc tdy tzz ksc knc kdy kzz ln so be en va)) [0, 1, 2, 3, 4, 5, 6, 7, 8, 9, 10, 11, 12, 13, 14, 15, 16, 17, 18, 19, 20, 21, 22] [some 0, some 1, some 2, some 3, some 4, some 5, some 6, some 7, some 8, some 9, some 10, some 11, some 12, some 13, some 14, some 15, some 16, some 17, some 18, some 19, some 20, some 21, some 22] (rV C0 (tX4_finding l D cI cS a0 a1 a2 a3 a4 a5 a6 a7 a8 a9 a10 a11 a12 a13 a14 a15 a16 a17 a18 a19 a20 a21 a22 ppl psp psy psh tpl tsp tsy tsh kpl ksp ksy ksh bs bt sz nm fd ik psc pnc pdy pzz tsc tnc tdy tzz ksc knc kdy kzz ln so be en va (-1000004) (-1000004) (fX4_finding_o1 fd (-1000004)) (eeX4_finding ..) (((hD (wX4 cI cS a0 a1 a2 a3 a4 a5 a6 a7 a8 a9 a10 a11 a12 a13 a14 a15 a16 a17 a18 a19 a20 a21 a22 ppl psp psy psh tpl tsp tsy tsh kpl ksp ksy ksh bs bt sz nm fd ik psc pnc pdy pzz tsc tnc tdy tzz ksc knc kdy kzz ln so be en va) rfl).sub [0, 1, 2, 3, 4, 5, 6, 7, 8, 9, 10, 11, 12, 13, 14, 15, 16, 17, 18, 19, 20, 21, 22] (by decide) rfl).weaken (fun _ _ _ _ => trivial))) RX4 gX4_leastToLand_X4_finding rfl ⟨rfl, rfl⟩ pdX4_finding rfl ⟨Nat.le_of_ble_eq_true rfl, Nat.le_of_ble_eq_true rfl⟩ (fun _ _ _ _ q => q) (va_recv hE.1 hPc (ci := 3) (q0 := 0) rfl rfl) (fun U hU _ _ => by rw [hU]; exact hPc) hl.1 rfl (Nat.le_of_ble_eq_true rfl) dX4_leastToLand_109 ⟨Nat.zero_le _, Nat.zero_le _⟩) hP (hD _ rfl) hS rfl rfl rfl (fun H locs hP hS => ?_)
      obtain ⟨q0, g0⟩ := Prod.mk.inj (Option.some.inj h)
      obtain ⟨q1, g1⟩ := Prod.mk.inj g0
      obtain ⟨q2, g2⟩ := Prod.mk.inj g1
      obtain ⟨q3, g3⟩ := Prod.mk.inj g2
      obtain ⟨q4, g4⟩ := Prod.mk.inj g3
      obtain ⟨q5, g5⟩ := Prod.mk.inj g4
      obtain ⟨q6, g6⟩ := Prod.mk.inj g5
      obtain ⟨q7, g7⟩ := Prod.mk.inj g6
      obtain ⟨q8, q9⟩ := Prod.mk.inj g7
      subst q0 q1 q2 q3 q4 q5 q6 q7 q8 q9
      exact eMi C0 hP hS rfl rfl dX4_leastToLand_112
    · have h := ifn c_3 h
      refine lv_aload_n hx hb dX4_leastToLand_53 rfl (lv_at hl 0 rfl) ?_
      refine va_get (D := D) (ci := 3) (v := .ref a6) (C := RX4) (T := TX4) (N := 7) hx hb hts hinX4 hown hE.1 hP 0 rfl rfl 1 (by decide) (hts _ (List.mem_of_getElem? (i := 5) rfl)) (fun _ h9 => h9) rfl dX4_leastToLand_54 ?_
      refine lv_aload_n hx hb dX4_leastToLand_57 rfl (lv_at hl 0 rfl) ?_
      refine va_get (D := D) (ci := 3) (v := .ref a1) (C := RX4) (T := TX4) (N := 7) hx hb hts hinX4 hown hE.1 hP 0 rfl rfl 0 (by decide) (hts _ (List.mem_of_getElem? (i := 1) rfl)) (fun _ h9 => h9) rfl dX4_leastToLand_58 ?_
      have hPc := hP.sub (ws' := (wE2 cI cS a6 a7 a8 a9 a10 a1 a2 a3 a4 a5 tpl tsp tsy tsh ppl psp psy psh tsc tnc tdy tzz psc pnc pdy pzz)) [6, 7, 8, 9, 10, 1, 2, 3, 4, 5] rfl
      refine kMv (wf' := (wX4 cI cS a0 a1 a2 a3 a4 a5 a6 a7 a8 a9 a10 a11 a12 a13 a14 a15 a16 a17 a18 a19 a20 a21 a22 ppl psp psy psh (fX0_become_o0 tpl tsp tsy tsh ppl psp psy psh tsc tnc tdy tzz psc pnc pdy pzz) (fX0_become_o1 tpl tsp tsy tsh ppl psp psy psh tsc tnc tdy tzz psc pnc pdy pzz) (fX0_become_o2 tpl tsp tsy tsh ppl psp psy psh tsc tnc tdy tzz psc pnc pdy pzz) (fX0_become_o3 tpl tsp tsy tsh ppl psp psy psh tsc tnc tdy tzz psc pnc pdy pzz) kpl ksp ksy ksh bs bt sz nm fd ik psc pnc pdy pzz (fX0_become_o4 tpl tsp tsy tsh ppl psp psy psh tsc tnc tdy tzz psc pnc pdy pzz) (fX0_become_o5 tpl tsp tsy tsh ppl psp psy psh tsc tnc tdy tzz psc pnc pdy pzz) (fX0_become_o6 tpl tsp tsy tsh ppl psp psy psh tsc tnc tdy tzz psc pnc pdy pzz) (fX0_become_o7 tpl tsp tsy tsh ppl psp psy psh tsc tnc tdy tzz psc pnc pdy pzz) ksc knc kdy kzz ln so be en va)) [6, 7, 8, 9, 10, 1, 2, 3, 4, 5] [none, some 5, some 6, some 7, some 8, some 9, some 0, some 1, some 2, some 3, some 4, none, none, none, none, none, none, none, none, none, none, none, none] (rV C0 (tX0_become l D cI cS a6 a7 a8 a9 a10 a1 a2 a3 a4 a5 tpl tsp tsy tsh ppl psp psy psh tsc tnc tdy tzz psc pnc pdy pzz  (fX0_become_o0 tpl tsp tsy tsh ppl psp psy psh tsc tnc tdy tzz psc pnc pdy pzz) (fX0_become_o1 tpl tsp tsy tsh ppl psp psy psh tsc tnc tdy tzz psc pnc pdy pzz) (fX0_become_o2 tpl tsp tsy tsh ppl psp psy psh tsc tnc tdy tzz psc pnc pdy pzz) (fX0_become_o3 tpl tsp tsy tsh ppl psp psy psh tsc tnc tdy tzz psc pnc pdy pzz) (fX0_become_o4 tpl tsp tsy tsh ppl psp psy psh tsc tnc tdy tzz psc pnc pdy pzz) (fX0_become_o5 tpl tsp tsy tsh ppl psp psy psh tsc tnc tdy tzz psc pnc pdy pzz) (fX0_become_o6 tpl tsp tsy tsh ppl psp psy psh tsc tnc tdy tzz psc pnc pdy pzz) (fX0_become_o7 tpl tsp tsy tsh ppl psp psy psh tsc tnc tdy tzz psc pnc pdy pzz) (eeX0_become ..) (((hD (wX4 cI cS a0 a1 a2 a3 a4 a5 a6 a7 a8 a9 a10 a11 a12 a13 a14 a15 a16 a17 a18 a19 a20 a21 a22 ppl psp psy psh tpl tsp tsy tsh kpl ksp ksy ksh bs bt sz nm fd ik psc pnc pdy pzz tsc tnc tdy tzz ksc knc kdy kzz ln so be en va) rfl).sub [6, 7, 8, 9, 10, 1, 2, 3, 4, 5] (by decide) rfl).weaken (fun _ _ _ _ => trivial))) RX0 gX4_leastToLand_X0_become rfl ⟨rfl, rfl⟩ pdX0_become rfl ⟨Nat.le_of_ble_eq_true rfl, Nat.le_of_ble_eq_true rfl⟩ (fun _ _ _ _ q => q) (va_recv hE.1 hPc (ci := 0) (q0 := 0) rfl rfl) (fun U hU _ _ => by rw [hU]; exact hPc) hl.1 rfl (Nat.le_of_ble_eq_true rfl) dX4_leastToLand_61 ⟨Nat.zero_le _, Nat.zero_le _⟩) hP (hD _ rfl) hS rfl rfl rfl (fun H locs hP hS => ?_)
      refine lv_aload_n hx hb dX4_leastToLand_64 rfl (lv_at hl 0 rfl) ?_
      refine va_get (D := D) (ci := 3) (v := .ref a6) (C := RX4) (T := TX4) (N := 7) hx hb hts hinX4 hown hE.1 hP 0 rfl rfl 1 (by decide) (hts _ (List.mem_of_getElem? (i := 5) rfl)) (fun _ h9 => h9) rfl dX4_leastToLand_65 ?_
      refine lv_iload_n hx hb dX4_leastToLand_68 rfl (lv_at hl 1 rfl) ?_
      refine lv_iload_n hx hb dX4_leastToLand_69 rfl (lv_at hl 3 rfl) ?_
      refine lv_iload hx hb dX4_leastToLand_70 (lv_at hl 5 rfl) ?_
      have hPc := hP.sub (ws' := (wX0 cI cS a6 a7 a8 a9 a10 (fX0_become_o0 tpl tsp tsy tsh ppl psp psy psh tsc tnc tdy tzz psc pnc pdy pzz) (fX0_become_o1 tpl tsp tsy tsh ppl psp psy psh tsc tnc tdy tzz psc pnc pdy pzz) (fX0_become_o2 tpl tsp tsy tsh ppl psp psy psh tsc tnc tdy tzz psc pnc pdy pzz) (fX0_become_o3 tpl tsp tsy tsh ppl psp psy psh tsc tnc tdy tzz psc pnc pdy pzz) (fX0_become_o4 tpl tsp tsy tsh ppl psp psy psh tsc tnc tdy tzz psc pnc pdy pzz) (fX0_become_o5 tpl tsp tsy tsh ppl psp psy psh tsc tnc tdy tzz psc pnc pdy pzz) (fX0_become_o6 tpl tsp tsy tsh ppl psp psy psh tsc tnc tdy tzz psc pnc pdy pzz) (fX0_become_o7 tpl tsp tsy tsh ppl psp psy psh tsc tnc tdy tzz psc pnc pdy pzz))) [6, 7, 8, 9, 10] rfl
      refine kMv (wf' := (wX4 cI cS a0 a1 a2 a3 a4 a5 a6 a7 a8 a9 a10 a11 a12 a13 a14 a15 a16 a17 a18 a19 a20 a21 a22 ppl psp psy psh (fX0_become_o0 tpl tsp tsy tsh ppl psp psy psh tsc tnc tdy tzz psc pnc pdy pzz) (fX0_become_o1 tpl tsp tsy tsh ppl psp psy psh tsc tnc tdy tzz psc pnc pdy pzz) (fX0_become_o2 tpl tsp tsy tsh ppl psp psy psh tsc tnc tdy tzz psc pnc pdy pzz) (fX0_setOfShip (fX0_become_o3 tpl tsp tsy tsh ppl psp psy psh tsc tnc tdy tzz psc pnc pdy pzz) v1 v3 v5) kpl ksp ksy ksh bs bt sz nm fd ik psc pnc pdy pzz (fX0_become_o4 tpl tsp tsy tsh ppl psp psy psh tsc tnc tdy tzz psc pnc pdy pzz) (fX0_become_o5 tpl tsp tsy tsh ppl psp psy psh tsc tnc tdy tzz psc pnc pdy pzz) (fX0_become_o6 tpl tsp tsy tsh ppl psp psy psh tsc tnc tdy tzz psc pnc pdy pzz) (fX0_become_o7 tpl tsp tsy tsh ppl psp psy psh tsc tnc tdy tzz psc pnc pdy pzz) ksc knc kdy kzz ln so be en va)) [6, 7, 8, 9, 10] [none, none, none, none, none, none, some 0, some 1, some 2, some 3, some 4, none, none, none, none, none, none, none, none, none, none, none, none] (rV C0 (tX0_setOfShip l D cI cS a6 a7 a8 a9 a10 (fX0_become_o0 tpl tsp tsy tsh ppl psp psy psh tsc tnc tdy tzz psc pnc pdy pzz) (fX0_become_o1 tpl tsp tsy tsh ppl psp psy psh tsc tnc tdy tzz psc pnc pdy pzz) (fX0_become_o2 tpl tsp tsy tsh ppl psp psy psh tsc tnc tdy tzz psc pnc pdy pzz) (fX0_become_o3 tpl tsp tsy tsh ppl psp psy psh tsc tnc tdy tzz psc pnc pdy pzz) (fX0_become_o4 tpl tsp tsy tsh ppl psp psy psh tsc tnc tdy tzz psc pnc pdy pzz) (fX0_become_o5 tpl tsp tsy tsh ppl psp psy psh tsc tnc tdy tzz psc pnc pdy pzz) (fX0_become_o6 tpl tsp tsy tsh ppl psp psy psh tsc tnc tdy tzz psc pnc pdy pzz) (fX0_become_o7 tpl tsp tsy tsh ppl psp psy psh tsc tnc tdy tzz psc pnc pdy pzz) v1 v3 v5 (fX0_setOfShip (fX0_become_o3 tpl tsp tsy tsh ppl psp psy psh tsc tnc tdy tzz psc pnc pdy pzz) v1 v3 v5) rfl (((hD (wX4 cI cS a0 a1 a2 a3 a4 a5 a6 a7 a8 a9 a10 a11 a12 a13 a14 a15 a16 a17 a18 a19 a20 a21 a22 ppl psp psy psh (fX0_become_o0 tpl tsp tsy tsh ppl psp psy psh tsc tnc tdy tzz psc pnc pdy pzz) (fX0_become_o1 tpl tsp tsy tsh ppl psp psy psh tsc tnc tdy tzz psc pnc pdy pzz) (fX0_become_o2 tpl tsp tsy tsh ppl psp psy psh tsc tnc tdy tzz psc pnc pdy pzz) (fX0_become_o3 tpl tsp tsy tsh ppl psp psy psh tsc tnc tdy tzz psc pnc pdy pzz) kpl ksp ksy ksh bs bt sz nm fd ik psc pnc pdy pzz (fX0_become_o4 tpl tsp tsy tsh ppl psp psy psh tsc tnc tdy tzz psc pnc pdy pzz) (fX0_become_o5 tpl tsp tsy tsh ppl psp psy psh tsc tnc tdy tzz psc pnc pdy pzz) (fX0_become_o6 tpl tsp tsy tsh ppl psp psy psh tsc tnc tdy tzz psc pnc pdy pzz) (fX0_become_o7 tpl tsp tsy tsh ppl psp psy psh tsc tnc tdy tzz psc pnc pdy pzz) ksc knc kdy kzz ln so be en va) rfl).sub [6, 7, 8, 9, 10] (by decide) rfl).weaken (fun _ _ _ _ => trivial))) RX0 gX4_leastToLand_X0_setOfShip rfl ⟨rfl, rfl⟩ pdX0_setOfShip rfl ⟨Nat.le_of_ble_eq_true rfl, Nat.le_of_ble_eq_true rfl⟩ (fun _ _ _ _ q => q) (va_recv hE.1 hPc (ci := 0) (q0 := 0) rfl rfl) (fun U hU _ _ => by rw [hU]; exact hPc) hl.1 rfl (Nat.le_of_ble_eq_true rfl) dX4_leastToLand_72 ⟨Nat.zero_le _, Nat.zero_le _⟩) hP (hD _ rfl) hS rfl rfl rfl (fun H locs hP hS => ?_)
      refine lv_aload_n hx hb dX4_leastToLand_75 rfl (lv_at hl 0 rfl) ?_
      refine va_get (D := D) (ci := 3) (v := .ref a6) (C := RX4) (T := TX4) (N := 7) hx hb hts hinX4 hown hE.1 hP 0 rfl rfl 1 (by decide) (hts _ (List.mem_of_getElem? (i := 5) rfl)) (fun _ h9 => h9) rfl dX4_leastToLand_76 ?_
      refine lv_iload_n hx hb dX4_leastToLand_79 rfl (lv_at hl 2 rfl) ?_
      refine lv_iconst (v := 1) hx hb dX4_leastToLand_80 (by decide) ?_
      refine lv_iload_n hx hb dX4_leastToLand_81 rfl (lv_at hl 1 rfl) ?_
      refine lv_ishl hx hb dX4_leastToLand_82 ?_
      obtain ⟨z_4, e_5, h⟩ := bds h
      have hPc := hP.sub (ws' := (wX0 cI cS a6 a7 a8 a9 a10 (fX0_become_o0 tpl tsp tsy tsh ppl psp psy psh tsc tnc tdy tzz psc pnc pdy pzz) (fX0_become_o1 tpl tsp tsy tsh ppl psp psy psh tsc tnc tdy tzz psc pnc pdy pzz) (fX0_become_o2 tpl tsp tsy tsh ppl psp psy psh tsc tnc tdy tzz psc pnc pdy pzz) (fX0_setOfShip (fX0_become_o3 tpl tsp tsy tsh ppl psp psy psh tsc tnc tdy tzz psc pnc pdy pzz) v1 v3 v5) (fX0_become_o4 tpl tsp tsy tsh ppl psp psy psh tsc tnc tdy tzz psc pnc pdy pzz) (fX0_become_o5 tpl tsp tsy tsh ppl psp psy psh tsc tnc tdy tzz psc pnc pdy pzz) (fX0_become_o6 tpl tsp tsy tsh ppl psp psy psh tsc tnc tdy tzz psc pnc pdy pzz) (fX0_become_o7 tpl tsp tsy tsh ppl psp psy psh tsc tnc tdy tzz psc pnc pdy pzz))) [6, 7, 8, 9, 10] rfl
      refine kMv (wf' := (wX4 cI cS a0 a1 a2 a3 a4 a5 a6 a7 a8 a9 a10 a11 a12 a13 a14 a15 a16 a17 a18 a19 a20 a21 a22 ppl psp psy psh (fX0_become_o0 tpl tsp tsy tsh ppl psp psy psh tsc tnc tdy tzz psc pnc pdy pzz) (fX0_become_o1 tpl tsp tsy tsh ppl psp psy psh tsc tnc tdy tzz psc pnc pdy pzz) z_4.1 z_4.2.1 kpl ksp ksy ksh bs bt sz nm fd ik psc pnc pdy pzz (fX0_become_o4 tpl tsp tsy tsh ppl psp psy psh tsc tnc tdy tzz psc pnc pdy pzz) (fX0_become_o5 tpl tsp tsy tsh ppl psp psy psh tsc tnc tdy tzz psc pnc pdy pzz) z_4.2.2 (fX0_become_o7 tpl tsp tsy tsh ppl psp psy psh tsc tnc tdy tzz psc pnc pdy pzz) ksc knc kdy kzz ln so be en va)) [6, 7, 8, 9, 10] [none, none, none, none, none, none, some 0, some 1, some 2, some 3, some 4, none, none, none, none, none, none, none, none, none, none, none, none] (rV C0 (tX0_passDays l D cI cS F a6 a7 a8 a9 a10 (fX0_become_o0 tpl tsp tsy tsh ppl psp psy psh tsc tnc tdy tzz psc pnc pdy pzz) (fX0_become_o1 tpl tsp tsy tsh ppl psp psy psh tsc tnc tdy tzz psc pnc pdy pzz) (fX0_become_o2 tpl tsp tsy tsh ppl psp psy psh tsc tnc tdy tzz psc pnc pdy pzz) (fX0_setOfShip (fX0_become_o3 tpl tsp tsy tsh ppl psp psy psh tsc tnc tdy tzz psc pnc pdy pzz) v1 v3 v5) (fX0_become_o4 tpl tsp tsy tsh ppl psp psy psh tsc tnc tdy tzz psc pnc pdy pzz) (fX0_become_o5 tpl tsp tsy tsh ppl psp psy psh tsc tnc tdy tzz psc pnc pdy pzz) (fX0_become_o6 tpl tsp tsy tsh ppl psp psy psh tsc tnc tdy tzz psc pnc pdy pzz) (fX0_become_o7 tpl tsp tsy tsh ppl psp psy psh tsc tnc tdy tzz psc pnc pdy pzz) v2 (1 <<< (v1 &&& 31)) z_4.1 z_4.2.1 z_4.2.2 e_5 (((hD (wX4 cI cS a0 a1 a2 a3 a4 a5 a6 a7 a8 a9 a10 a11 a12 a13 a14 a15 a16 a17 a18 a19 a20 a21 a22 ppl psp psy psh (fX0_become_o0 tpl tsp tsy tsh ppl psp psy psh tsc tnc tdy tzz psc pnc pdy pzz) (fX0_become_o1 tpl tsp tsy tsh ppl psp psy psh tsc tnc tdy tzz psc pnc pdy pzz) (fX0_become_o2 tpl tsp tsy tsh ppl psp psy psh tsc tnc tdy tzz psc pnc pdy pzz) (fX0_setOfShip (fX0_become_o3 tpl tsp tsy tsh ppl psp psy psh tsc tnc tdy tzz psc pnc pdy pzz) v1 v3 v5) kpl ksp ksy ksh bs bt sz nm fd ik psc pnc pdy pzz (fX0_become_o4 tpl tsp tsy tsh ppl psp psy psh tsc tnc tdy tzz psc pnc pdy pzz) (fX0_become_o5 tpl tsp tsy tsh ppl psp psy psh tsc tnc tdy tzz psc pnc pdy pzz) (fX0_become_o6 tpl tsp tsy tsh ppl psp psy psh tsc tnc tdy tzz psc pnc pdy pzz) (fX0_become_o7 tpl tsp tsy tsh ppl psp psy psh tsc tnc tdy tzz psc pnc pdy pzz) ksc knc kdy kzz ln so be en va) rfl).sub [6, 7, 8, 9, 10] (by decide) rfl).weaken (fun _ _ _ _ => trivial))) RX0 gX4_leastToLand_X0_passDays rfl ⟨rfl, rfl⟩ pdX0_passDays rfl ⟨Nat.le_of_ble_eq_true rfl, Nat.le_of_ble_eq_true rfl⟩ (fun _ _ _ _ q => q) (va_recv hE.1 hPc (ci := 0) (q0 := 0) rfl rfl) (fun U hU _ _ => by rw [hU]; exact hPc) hl.1 rfl (Nat.le_of_ble_eq_true rfl) dX4_leastToLand_83 ⟨Nat.zero_le _, Nat.zero_le _⟩) hP (hD _ rfl) hS rfl rfl rfl (fun H locs hP hS => ?_)
      refine lv_aload_n hx hb dX4_leastToLand_86 rfl (lv_at hl 0 rfl) ?_
      refine va_get (D := D) (ci := 3) (v := .ref a6) (C := RX4) (T := TX4) (N := 7) hx hb hts hinX4 hown hE.1 hP 0 rfl rfl 1 (by decide) (hts _ (List.mem_of_getElem? (i := 5) rfl)) (fun _ h9 => h9) rfl dX4_leastToLand_87 ?_
      refine lv_iload_n hx hb dX4_leastToLand_90 rfl (lv_at hl 1 rfl) ?_
      have hPc := hP.sub (ws' := (wX0 cI cS a6 a7 a8 a9 a10 (fX0_become_o0 tpl tsp tsy tsh ppl psp psy psh tsc tnc tdy tzz psc pnc pdy pzz) (fX0_become_o1 tpl tsp tsy tsh ppl psp psy psh tsc tnc tdy tzz psc pnc pdy pzz) z_4.1 z_4.2.1 (fX0_become_o4 tpl tsp tsy tsh ppl psp psy psh tsc tnc tdy tzz psc pnc pdy pzz) (fX0_become_o5 tpl tsp tsy tsh ppl psp psy psh tsc tnc tdy tzz psc pnc pdy pzz) z_4.2.2 (fX0_become_o7 tpl tsp tsy tsh ppl psp psy psh tsc tnc tdy tzz psc pnc pdy pzz))) [6, 7, 8, 9, 10] rfl
      refine kRi (rV C0 (tX0_isInPort l D cI cS a6 a7 a8 a9 a10 (fX0_become_o0 tpl tsp tsy tsh ppl psp psy psh tsc tnc tdy tzz psc pnc pdy pzz) (fX0_become_o1 tpl tsp tsy tsh ppl psp psy psh tsc tnc tdy tzz psc pnc pdy pzz) z_4.1 z_4.2.1 (fX0_become_o4 tpl tsp tsy tsh ppl psp psy psh tsc tnc tdy tzz psc pnc pdy pzz) (fX0_become_o5 tpl tsp tsy tsh ppl psp psy psh tsc tnc tdy tzz psc pnc pdy pzz) z_4.2.2 (fX0_become_o7 tpl tsp tsy tsh ppl psp psy psh tsc tnc tdy tzz psc pnc pdy pzz) v1 (fX0_isInPort z_4.2.1 v1) rfl) RX0 gX4_leastToLand_X0_isInPort rfl ⟨rfl, rfl⟩ pdX0_isInPort rfl ⟨Nat.le_of_ble_eq_true rfl, Nat.le_of_ble_eq_true rfl⟩ (fun _ _ _ _ q => q) (va_recv hE.1 hPc (ci := 0) (q0 := 0) rfl rfl) (fun U hU _ _ => by rw [hU]; exact hPc) hl.1 rfl (Nat.le_of_ble_eq_true rfl) dX4_leastToLand_91 ⟨Nat.zero_le _, Nat.zero_le _⟩) ?_
      refine lv_if_eq (tgt := 100) hx hb dX4_leastToLand_94 (by decide) (fun c_6 => ?_) (fun c_6 => ?_)
      · have h := ifp c_6 h
        refine lv_iinc (v := v5 + 1) (lv' := [(5, .int (v5 + 1)), (0, .ref a0), (1, .int v1), (2, .int v2), (3, .int v3), (4, .int v4)]) hx hb dX4_leastToLand_100 hl (k := 5) rfl rfl (by decide) rfl (fun ls hl => ?_)
        refine lv_goto (tgt := 46) hx hb dX4_leastToLand_103 (by decide) ?_
        exact ih (v5 + 1) (fX0_become_o0 tpl tsp tsy tsh ppl psp psy psh tsc tnc tdy tzz psc pnc pdy pzz) (fX0_become_o1 tpl tsp tsy tsh ppl psp psy psh tsc tnc tdy tzz psc pnc pdy pzz) z_4.1 z_4.2.1 fd (fX0_become_o4 tpl tsp tsy tsh ppl psp psy psh tsc tnc tdy tzz psc pnc pdy pzz) (fX0_become_o5 tpl tsp tsy tsh ppl psp psy psh tsc tnc tdy tzz psc pnc pdy pzz) z_4.2.2 (fX0_become_o7 tpl tsp tsy tsh ppl psp psy psh tsc tnc tdy tzz psc pnc pdy pzz) _ _ hP hS _ (lv_sub hl [1, 2, 3, 4, 5, 0] rfl) h
      · have h := ifn c_6 h
        refine lv_iload hx hb dX4_leastToLand_97 (lv_at hl 5 rfl) ?_
        obtain ⟨q0, g0⟩ := Prod.mk.inj (Option.some.inj h)
        obtain ⟨q1, g1⟩ := Prod.mk.inj g0
        obtain ⟨q2, g2⟩ := Prod.mk.inj g1
        obtain ⟨q3, g3⟩ := Prod.mk.inj g2
        obtain ⟨q4, g4⟩ := Prod.mk.inj g3
        obtain ⟨q5, g5⟩ := Prod.mk.inj g4
        obtain ⟨q6, g6⟩ := Prod.mk.inj g5
        obtain ⟨q7, g7⟩ := Prod.mk.inj g6
        obtain ⟨q8, q9⟩ := Prod.mk.inj g7
        subst q0 q1 q2 q3 q4 q5 q6 q7 q8 q9
        exact eMi C0 hP hS rfl rfl dX4_leastToLand_99
set_option maxHeartbeats 4000000 in
set_option maxRecDepth 100000 in
theorem tX4_leastToLand (l : Launch) (D : va_G) (cI cS : ClassId) (cs : CSt) (F : Nat) (a0 a1 a2 a3 a4 a5 a6 a7 a8 a9 a10 a11 a12 a13 a14 a15 a16 a17 a18 a19 a20 a21 a22 : Nat) (ppl : Nat → Int32) (psp : Nat → Int32) (psy : Nat → Int32) (psh : Nat → Int32) (tpl : Nat → Int32) (tsp : Nat → Int32) (tsy : Nat → Int32) (tsh : Nat → Int32) (kpl : Nat → Int32) (ksp : Nat → Int32) (ksy : Nat → Int32) (ksh : Nat → Int32) (bs : Nat → Int32) (bt : Nat → Int32) (sz : Nat → Int32) (nm : Nat → Int32) (fd : Nat → Int32) (ik : Int32) (psc : Int32) (pnc : Int32) (pdy : Int32) (pzz : Int32) (tsc : Int32) (tnc : Int32) (tdy : Int32) (tzz : Int32) (ksc : Int32) (knc : Int32) (kdy : Int32) (kzz : Int32) (ln : Int32) (so : Int32) (be : Int32) (en : Int32) (va : Int32) (v1 : Int32) (v2 : Int32) (v3 : Int32) (z0 : Int32) (z1 : Nat → Int32) (z2 : Nat → Int32) (z3 : Nat → Int32) (z4 : Nat → Int32) (z5 : Nat → Int32) (z6 : Int32) (z7 : Int32) (z8 : Int32) (z9 : Int32) (h : fX4_leastToLand F ppl psp psy psh tpl tsp tsy tsh fd psc pnc pdy pzz tsc tnc tdy tzz v1 v2 v3 = some (z0, z1, z2, z3, z4, z5, z6, z7, z8, z9)) (hD0 : va_D (fun _ => True) (wX4 cI cS a0 a1 a2 a3 a4 a5 a6 a7 a8 a9 a10 a11 a12 a13 a14 a15 a16 a17 a18 a19 a20 a21 a22 ppl psp psy psh tpl tsp tsy tsh kpl ksp ksy ksh bs bt sz nm fd ik psc pnc pdy pzz tsc tnc tdy tzz ksc knc kdy kzz ln so be en va)) : Met l yX4_leastToLand wsX4_leastToLand rmX4_leastToLand (PZ D cI cS [.ref a0, .int v1, .int v2, .int v3] (fun U => va_P D vwCl (wX4 cI cS a0 a1 a2 a3 a4 a5 a6 a7 a8 a9 a10 a11 a12 a13 a14 a15 a16 a17 a18 a19 a20 a21 a22 ppl psp psy psh tpl tsp tsy tsh kpl ksp ksy ksh bs bt sz nm fd ik psc pnc pdy pzz tsc tnc tdy tzz ksc knc kdy kzz ln so be en va) U.heap ∧ CST cs (wA (wX4 cI cS a0 a1 a2 a3 a4 a5 a6 a7 a8 a9 a10 a11 a12 a13 a14 a15 a16 a17 a18 a19 a20 a21 a22 ppl psp psy psh tpl tsp tsy tsh kpl ksp ksy ksh bs bt sz nm fd ik psc pnc pdy pzz tsc tnc tdy tzz ksc knc kdy kzz ln so be en va)) U U.heap)) (qI D (wX4 cI cS a0 a1 a2 a3 a4 a5 a6 a7 a8 a9 a10 a11 a12 a13 a14 a15 a16 a17 a18 a19 a20 a21 a22 ppl psp psy psh tpl tsp tsy tsh kpl ksp ksy ksh bs bt sz nm fd ik psc pnc pdy pzz tsc tnc tdy tzz ksc knc kdy kzz ln so be en va) (wX4 cI cS a0 a1 a2 a3 a4 a5 a6 a7 a8 a9 a10 a11 a12 a13 a14 a15 a16 a17 a18 a19 a20 a21 a22 ppl psp psy psh z1 z2 z3 z4 kpl ksp ksy ksh bs bt sz nm z5 ik psc pnc pdy pzz z6 z7 z8 z9 ksc knc kdy kzz ln so be en va) z0) 0 0 (wA (wX4 cI cS a0 a1 a2 a3 a4 a5 a6 a7 a8 a9 a10 a11 a12 a13 a14 a15 a16 a17 a18 a19 a20 a21 a22 ppl psp psy psh tpl tsp tsy tsh kpl ksp ksy ksh bs bt sz nm fd ik psc pnc pdy pzz tsc tnc tdy tzz ksc knc kdy kzz ln so be en va)) := by
  refine Met.mk RX4 (by decide) rfl rfl (Nat.le_of_ble_eq_true rfl) ?_
  intro p e s m below meth c ls C0 hP hl
  obtain ⟨hP, hCS⟩ := hP
  have hl : lv_has ls 6 [(0, .ref a0), (1, .int v1), (2, .int v2), (3, .int v3)] := hl
  obtain ⟨hx, hb, hr, hml, hown, hts, hlk, hE⟩ := id C0
  have hinX4 : ∀ w ∈ u_ws RX4 TX4 7, w ∈ wsX4_leastToLand := by decide +kernel
  have hD : ∀ W : va_W, W.map Prod.fst = [a0, a1, a2, a3, a4, a5, a6, a7, a8, a9, a10, a11, a12, a13, a14, a15, a16, a17, a18, a19, a20, a21, a22] → va_D (wA (wX4 cI cS a0 a1 a2 a3 a4 a5 a6 a7 a8 a9 a10 a11 a12 a13 a14 a15 a16 a17 a18 a19 a20 a21 a22 ppl psp psy psh tpl tsp tsy tsh kpl ksp ksy ksh bs bt sz nm fd ik psc pnc pdy pzz tsc tnc tdy tzz ksc knc kdy kzz ln so be en va)) W := fun W hW => hD0.own.re hW
  have hS : va_S (wA (wX4 cI cS a0 a1 a2 a3 a4 a5 a6 a7 a8 a9 a10 a11 a12 a13 a14 a15 a16 a17 a18 a19 a20 a21 a22 ppl psp psy psh tpl tsp tsy tsh kpl ksp ksy ksh bs bt sz nm fd ik psc pnc pdy pzz tsc tnc tdy tzz ksc knc kdy kzz ln so be en va)) s.heap s.heap [] := va_S.rf
  have hP : va_P D vwCl (wX4 cI cS a0 a1 a2 a3 a4 a5 a6 a7 a8 a9 a10 a11 a12 a13 a14 a15 a16 a17 a18 a19 a20 a21 a22 ppl psp psy psh tpl tsp tsy tsh kpl ksp ksy ksh bs bt sz nm fd ik psc pnc pdy pzz tsc tnc tdy tzz ksc knc kdy kzz ln so be en va) s.heap := hP
  rw [fX4_leastToLand] at h
  refine lv_aload_n hx hb dX4_leastToLand_0 rfl (lv_at hl 0 rfl) ?_
  refine va_get (D := D) (ci := 3) (v := .ref a1) (C := RX4) (T := TX4) (N := 7) hx hb hts hinX4 hown hE.1 hP 0 rfl rfl 0 (by decide) (hts _ (List.mem_of_getElem? (i := 1) rfl)) (fun _ h9 => h9) rfl dX4_leastToLand_1 ?_
  refine lv_iload_n hx hb dX4_leastToLand_4 rfl (lv_at hl 1 rfl) ?_
  have hPc := hP.sub (ws' := (wX0 cI cS a1 a2 a3 a4 a5 ppl psp psy psh psc pnc pdy pzz)) [1, 2, 3, 4, 5] rfl
  refine kRi (rV C0 (tX0_hasShip l D cI cS a1 a2 a3 a4 a5 ppl psp psy psh psc pnc pdy pzz v1 (fX0_hasShip pnc v1) rfl) RX0 gX4_leastToLand_X0_hasShip rfl ⟨rfl, rfl⟩ pdX0_hasShip rfl ⟨Nat.le_of_ble_eq_true rfl, Nat.le_of_ble_eq_true rfl⟩ (fun _ _ _ _ q => q) (va_recv hE.1 hPc (ci := 0) (q0 := 0) rfl rfl) (fun U hU _ _ => by rw [hU]; exact hPc) hl.1 rfl (Nat.le_of_ble_eq_true rfl) dX4_leastToLand_5 ⟨Nat.zero_le _, Nat.zero_le _⟩) ?_
  refine lv_if_eq (tgt := 21) hx hb dX4_leastToLand_8 (by decide) (fun c_1 => ?_) (fun c_1 => ?_)
  · have h := ifp c_1 h
    refine lv_aload_n hx hb dX4_leastToLand_21 rfl (lv_at hl 0 rfl) ?_
    refine lv_ldc (v := (-1000001)) hx hb hown (hts _ (List.mem_of_getElem? (i := 2) rfl)) dX4_leastToLand_22 ?_
    have hPc := hP.sub (ws' := (wX4 cI cS a0 a1 a2 a3 a4 a5 a6 a7 a8 a9 a10 a11 a12 a13 a14 a15 a16 a17 a18 a19 a20 a21 a22 ppl psp psy psh tpl tsp tsy tsh kpl ksp ksy ksh bs bt sz nm fd ik psc pnc pdy pzz tsc tnc tdy tzz ksc knc kdy kzz ln so be en va)) [0, 1, 2, 3, 4, 5, 6, 7, 8, 9, 10, 11, 12, 13, 14, 15, 16, 17, 18, 19, 20, 21, 22] rfl
    refine kMi (wf' := (wX4 cI cS a0 a1 a2 a3 a4 a5 a6 a7 a8 a9 a10 a11 a12 a13 a14 a15 a16 a17 a18 a19 a20 a21 a22 ppl psp psy psh tpl tsp tsy tsh kpl ksp ksy ksh bs bt sz nm (fX4_finding_o1 fd (-1000001)) ik psc pnc pdy pzz tsc tnc tdy tzz ksc knc kdy kzz ln so be en va)) [0, 1, 2, 3, 4, 5, 6, 7, 8, 9, 10, 11, 12, 13, 14, 15, 16, 17, 18, 19, 20, 21, 22] [some 0, some 1, some 2, some 3, some 4, some 5, some 6, some 7, some 8, some 9, some 10, some 11, some 12, some 13, some 14, some 15, some 16, some 17, some 18, some 19, some 20, some 21, some 22] (rV C0 (tX4_finding l D cI cS a0 a1 a2 a3 a4 a5 a6 a7 a8 a9 a10 a11 a12 a13 a14 a15 a16 a17 a18 a19 a20 a21 a22 ppl psp psy psh tpl tsp tsy tsh kpl ksp ksy ksh bs bt sz nm fd ik psc pnc pdy pzz tsc tnc tdy tzz ksc knc kdy kzz ln so be en va (-1000001) (-1000001) (fX4_finding_o1 fd (-1000001)) (eeX4_finding ..) (((hD (wX4 cI cS a0 a1 a2 a3 a4 a5 a6 a7 a8 a9 a10 a11 a12 a13 a14 a15 a16 a17 a18 a19 a20 a21 a22 ppl psp psy psh tpl tsp tsy tsh kpl ksp ksy ksh bs bt sz nm fd ik psc pnc pdy pzz tsc tnc tdy tzz ksc knc kdy kzz ln so be en va) rfl).sub [0, 1, 2, 3, 4, 5, 6, 7, 8, 9, 10, 11, 12, 13, 14, 15, 16, 17, 18, 19, 20, 21, 22] (by decide) rfl).weaken (fun _ _ _ _ => trivial))) RX4 gX4_leastToLand_X4_finding rfl ⟨rfl, rfl⟩ pdX4_finding rfl ⟨Nat.le_of_ble_eq_true rfl, Nat.le_of_ble_eq_true rfl⟩ (fun _ _ _ _ q => q) (va_recv hE.1 hPc (ci := 3) (q0 := 0) rfl rfl) (fun U hU _ _ => by rw [hU]; exact hPc) hl.1 rfl (Nat.le_of_ble_eq_true rfl) dX4_leastToLand_24 ⟨Nat.zero_le _, Nat.zero_le _⟩) hP (hD _ rfl) hS rfl rfl rfl (fun H locs hP hS => ?_)
    obtain ⟨q0, g0⟩ := Prod.mk.inj (Option.some.inj h)
    obtain ⟨q1, g1⟩ := Prod.mk.inj g0
    obtain ⟨q2, g2⟩ := Prod.mk.inj g1
    obtain ⟨q3, g3⟩ := Prod.mk.inj g2
    obtain ⟨q4, g4⟩ := Prod.mk.inj g3
    obtain ⟨q5, g5⟩ := Prod.mk.inj g4
    obtain ⟨q6, g6⟩ := Prod.mk.inj g5
    obtain ⟨q7, g7⟩ := Prod.mk.inj g6
    obtain ⟨q8, q9⟩ := Prod.mk.inj g7
    subst q0 q1 q2 q3 q4 q5 q6 q7 q8 q9
    exact eMi C0 hP hS rfl rfl dX4_leastToLand_27
  · have h := ifn c_1 h
    refine lv_iload_n hx hb dX4_leastToLand_11 rfl (lv_at hl 2 rfl) ?_
    refine lv_iconst (v := 0) hx hb dX4_leastToLand_12 (by decide) ?_
    refine lv_bipush (v := 40) hx hb dX4_leastToLand_13 (by decide) ?_
    refine kRi (rS C0 (tX4_within l D cI cS v2 0 40 (fX4_within v2 0 40) rfl) gX4_leastToLand_X4_within rfl ⟨rfl, rfl⟩ pdX4_within rfl ⟨Nat.le_of_ble_eq_true rfl, Nat.le_of_ble_eq_true rfl⟩ (fun _ _ _ _ q => q) (fun _ _ _ _ => vp0) hl.1 rfl (Nat.le_of_ble_eq_true rfl) dX4_leastToLand_15 ⟨Nat.zero_le _, Nat.zero_le _⟩) ?_
    refine lv_if_ne (tgt := 28) hx hb dX4_leastToLand_18 (by decide) (fun c_2 => ?_) (fun c_2 => ?_)
    · have h := ifn c_2 h
      refine va_gets hx hb hCS.2.2.2.2.2.2.1 hS hown (hts _ (List.mem_of_getElem? (i := 3) rfl)) (fun _ h9 => h9) dX4_leastToLand_28 ?_
      refine lv_iload_n hx hb dX4_leastToLand_31 rfl (lv_at hl 3 rfl) ?_
      refine kRi (rS C0 (tX4_numberT l D cI cS cs.2.2.2.2 4 stM v3 (by decide)) gX4_leastToLand_X4_numberAt rfl ⟨rfl, rfl⟩ pdX4_numberAt rfl ⟨Nat.le_of_ble_eq_true rfl, Nat.le_of_ble_eq_true rfl⟩ (fun _ _ _ _ q => va_T.moved (Vm.Alike.refl _) q) (fun U hU hW _ => by rw [hU]; exact (((hCS.kept hS.2.1).narrow (fun _ q => q.elim)).warm hW).2.2.2.2.2.2.2) hl.1 rfl (Nat.le_of_ble_eq_true rfl) dX4_leastToLand_32 ⟨Nat.zero_le _, Nat.zero_le _⟩) ?_
      refine lv_istore (lv' := [(4, .int (fX4_numberAt 4 stM v3)), (0, .ref a0), (1, .int v1), (2, .int v2), (3, .int v3)]) hx hb dX4_leastToLand_35 hl (by decide) rfl (fun ls hl => ?_)
      refine va_gets hx hb hCS.2.2.2.2.2.1.1 hS hown (hts _ (List.mem_of_getElem? (i := 4) rfl)) (fun _ h9 => h9) dX4_leastToLand_37 ?_
      refine lv_iload_n hx hb dX4_leastToLand_40 rfl (lv_at hl 4 rfl) ?_
      refine kRi (rS C0 (tX4_numberT l D cI cS cs.2.2.2.1 4 stL v3 (by decide)) gX4_leastToLand_X4_numberAt rfl ⟨rfl, rfl⟩ pdX4_numberAt rfl ⟨Nat.le_of_ble_eq_true rfl, Nat.le_of_ble_eq_true rfl⟩ (fun _ _ _ _ q => va_T.moved (Vm.Alike.refl _) q) (fun U hU hW _ => by rw [hU]; exact (((hCS.kept hS.2.1).narrow (fun _ q => q.elim)).warm hW).2.2.2.2.2.1.2) hl.1 rfl (Nat.le_of_ble_eq_true rfl) dX4_leastToLand_41 ⟨Nat.zero_le _, Nat.zero_le _⟩) ?_
      refine lv_istore (lv' := [(5, .int (fX4_numberAt 4 stL v3)), (4, .int (fX4_numberAt 4 stM v3)), (0, .ref a0), (1, .int v1), (2, .int v2), (3, .int v3)]) hx hb dX4_leastToLand_44 hl (by decide) rfl (fun ls hl => ?_)
      exact lX4_leastToLand_46 (l := l) (e := e) (below := below) C0 F ppl psp psy psh kpl ksp ksy ksh bs bt sz nm ik psc pnc pdy pzz ksc knc kdy kzz ln so be en va v1 v2 v3 (fX4_numberAt 4 stM v3) z0 z1 z2 z3 z4 z5 z6 z7 z8 z9 cs hCS hD F (fX4_numberAt 4 stL v3) tpl tsp tsy tsh fd tsc tnc tdy tzz _ _ hP hS _ (lv_sub hl [2, 3, 4, 5, 1, 0] rfl) h
    · have h := ifp c_2 h
      refine lv_aload_n hx hb dX4_leastToLand_21 rfl (lv_at hl 0 rfl) ?_
      refine lv_ldc (v := (-1000001)) hx hb hown (hts _ (List.mem_of_getElem? (i := 2) rfl)) dX4_leastToLand_22 ?_
      have hPc := hP.sub (ws' := (wX4 cI cS a0 a1 a2 a3 a4 a5 a6 a7 a8 a9 a10 a11 a12 a13 a14 a15 a16 a17 a18 a19 a20 a21 a22 ppl psp psy psh tpl tsp tsy tsh kpl ksp ksy ksh bs bt sz nm fd ik psc pnc pdy pzz tsc tnc tdy tzz ksc knc kdy kzz ln so be en va)) [0, 1, 2, 3, 4, 5, 6, 7, 8, 9, 10, 11, 12, 13, 14, 15, 16, 17, 18, 19, 20, 21, 22] rfl
      refine kMi (wf' := (wX4 cI cS a0 a1 a2 a3 a4 a5 a6 a7 a8 a9 a10 a11 a12 a13 a14 a15 a16 a17 a18 a19 a20 a21 a22 ppl psp psy psh tpl tsp tsy tsh kpl ksp ksy ksh bs bt sz nm (fX4_finding_o1 fd (-1000001)) ik psc pnc pdy pzz tsc tnc tdy tzz ksc knc kdy kzz ln so be en va)) [0, 1, 2, 3, 4, 5, 6, 7, 8, 9, 10, 11, 12, 13, 14, 15, 16, 17, 18, 19, 20, 21, 22] [some 0, some 1, some 2, some 3, some 4, some 5, some 6, some 7, some 8, some 9, some 10, some 11, some 12, some 13, some 14, some 15, some 16, some 17, some 18, some 19, some 20, some 21, some 22] (rV C0 (tX4_finding l D cI cS a0 a1 a2 a3 a4 a5 a6 a7 a8 a9 a10 a11 a12 a13 a14 a15 a16 a17 a18 a19 a20 a21 a22 ppl psp psy psh tpl tsp tsy tsh kpl ksp ksy ksh bs bt sz nm fd ik psc pnc pdy pzz tsc tnc tdy tzz ksc knc kdy kzz ln so be en va (-1000001) (-1000001) (fX4_finding_o1 fd (-1000001)) (eeX4_finding ..) (((hD (wX4 cI cS a0 a1 a2 a3 a4 a5 a6 a7 a8 a9 a10 a11 a12 a13 a14 a15 a16 a17 a18 a19 a20 a21 a22 ppl psp psy psh tpl tsp tsy tsh kpl ksp ksy ksh bs bt sz nm fd ik psc pnc pdy pzz tsc tnc tdy tzz ksc knc kdy kzz ln so be en va) rfl).sub [0, 1, 2, 3, 4, 5, 6, 7, 8, 9, 10, 11, 12, 13, 14, 15, 16, 17, 18, 19, 20, 21, 22] (by decide) rfl).weaken (fun _ _ _ _ => trivial))) RX4 gX4_leastToLand_X4_finding rfl ⟨rfl, rfl⟩ pdX4_finding rfl ⟨Nat.le_of_ble_eq_true rfl, Nat.le_of_ble_eq_true rfl⟩ (fun _ _ _ _ q => q) (va_recv hE.1 hPc (ci := 3) (q0 := 0) rfl rfl) (fun U hU _ _ => by rw [hU]; exact hPc) hl.1 rfl (Nat.le_of_ble_eq_true rfl) dX4_leastToLand_24 ⟨Nat.zero_le _, Nat.zero_le _⟩) hP (hD _ rfl) hS rfl rfl rfl (fun H locs hP hS => ?_)
      obtain ⟨q0, g0⟩ := Prod.mk.inj (Option.some.inj h)
      obtain ⟨q1, g1⟩ := Prod.mk.inj g0
      obtain ⟨q2, g2⟩ := Prod.mk.inj g1
      obtain ⟨q3, g3⟩ := Prod.mk.inj g2
      obtain ⟨q4, g4⟩ := Prod.mk.inj g3
      obtain ⟨q5, g5⟩ := Prod.mk.inj g4
      obtain ⟨q6, g6⟩ := Prod.mk.inj g5
      obtain ⟨q7, g7⟩ := Prod.mk.inj g6
      obtain ⟨q8, q9⟩ := Prod.mk.inj g7
      subst q0 q1 q2 q3 q4 q5 q6 q7 q8 q9
      exact eMi C0 hP hS rfl rfl dX4_leastToLand_27
def fX4_eyesFor (F : Nat) (ppl : Nat → Int32) (psp : Nat → Int32) (psy : Nat → Int32) (psh : Nat → Int32) (tpl : Nat → Int32) (tsp : Nat → Int32) (tsy : Nat → Int32) (tsh : Nat → Int32) (fd : Nat → Int32) (psc : Int32) (pnc : Int32) (pdy : Int32) (pzz : Int32) (tsc : Int32) (tnc : Int32) (tdy : Int32) (tzz : Int32) (v1 : Int32) (v2 : Int32) : Option (Int32 × (Nat → Int32) × (Nat → Int32) × (Nat → Int32) × (Nat → Int32) × (Nat → Int32) × Int32 × Int32 × Int32 × Int32) := Option.bind (fX4_leastToLand F ppl psp psy psh tpl tsp tsy tsh fd psc pnc pdy pzz tsc tnc tdy tzz v1 v2 1) (fun z_1 => some (z_1.1, z_1.2.1, z_1.2.2.1, z_1.2.2.2.1, z_1.2.2.2.2.1, z_1.2.2.2.2.2.1, z_1.2.2.2.2.2.2.1, z_1.2.2.2.2.2.2.2.1, z_1.2.2.2.2.2.2.2.2.1, z_1.2.2.2.2.2.2.2.2.2))
abbrev rmX4_eyesFor : Room := { frames := 6, cells := 0, slots := 0, locals := 145 }
theorem pdX4_eyesFor : (yX4_eyesFor.cls = RX4 ∧ yX4_eyesFor.cls ≠ "java/lang/invoke/MethodHandle" ∧ yX4_eyesFor.cls ≠ "java/lang/invoke/VarHandle" ∧ (parseMethodDescriptor yX4_eyesFor.desc).map (fun d => d.parameters.length) = some 2) := by decide +kernel
set_option maxHeartbeats 4000000 in
set_option maxRecDepth 100000 in
theorem tX4_eyesFor (l : Launch) (D : va_G) (cI cS : ClassId) (cs : CSt) (F : Nat) (a0 a1 a2 a3 a4 a5 a6 a7 a8 a9 a10 a11 a12 a13 a14 a15 a16 a17 a18 a19 a20 a21 a22 : Nat) (ppl : Nat → Int32) (psp : Nat → Int32) (psy : Nat → Int32) (psh : Nat → Int32) (tpl : Nat → Int32) (tsp : Nat → Int32) (tsy : Nat → Int32) (tsh : Nat → Int32) (kpl : Nat → Int32) (ksp : Nat → Int32) (ksy : Nat → Int32) (ksh : Nat → Int32) (bs : Nat → Int32) (bt : Nat → Int32) (sz : Nat → Int32) (nm : Nat → Int32) (fd : Nat → Int32) (ik : Int32) (psc : Int32) (pnc : Int32) (pdy : Int32) (pzz : Int32) (tsc : Int32) (tnc : Int32) (tdy : Int32) (tzz : Int32) (ksc : Int32) (knc : Int32) (kdy : Int32) (kzz : Int32) (ln : Int32) (so : Int32) (be : Int32) (en : Int32) (va : Int32) (v1 : Int32) (v2 : Int32) (z0 : Int32) (z1 : Nat → Int32) (z2 : Nat → Int32) (z3 : Nat → Int32) (z4 : Nat → Int32) (z5 : Nat → Int32) (z6 : Int32) (z7 : Int32) (z8 : Int32) (z9 : Int32) (h : fX4_eyesFor F ppl psp psy psh tpl tsp tsy tsh fd psc pnc pdy pzz tsc tnc tdy tzz v1 v2 = some (z0, z1, z2, z3, z4, z5, z6, z7, z8, z9)) (hD0 : va_D (fun _ => True) (wX4 cI cS a0 a1 a2 a3 a4 a5 a6 a7 a8 a9 a10 a11 a12 a13 a14 a15 a16 a17 a18 a19 a20 a21 a22 ppl psp psy psh tpl tsp tsy tsh kpl ksp ksy ksh bs bt sz nm fd ik psc pnc pdy pzz tsc tnc tdy tzz ksc knc kdy kzz ln so be en va)) : Met l yX4_eyesFor wsX4_eyesFor rmX4_eyesFor (PZ D cI cS [.ref a0, .int v1, .int v2] (fun U => va_P D vwCl (wX4 cI cS a0 a1 a2 a3 a4 a5 a6 a7 a8 a9 a10 a11 a12 a13 a14 a15 a16 a17 a18 a19 a20 a21 a22 ppl psp psy psh tpl tsp tsy tsh kpl ksp ksy ksh bs bt sz nm fd ik psc pnc pdy pzz tsc tnc tdy tzz ksc knc kdy kzz ln so be en va) U.heap ∧ CST cs (wA (wX4 cI cS a0 a1 a2 a3 a4 a5 a6 a7 a8 a9 a10 a11 a12 a13 a14 a15 a16 a17 a18 a19 a20 a21 a22 ppl psp psy psh tpl tsp tsy tsh kpl ksp ksy ksh bs bt sz nm fd ik psc pnc pdy pzz tsc tnc tdy tzz ksc knc kdy kzz ln so be en va)) U U.heap)) (qI D (wX4 cI cS a0 a1 a2 a3 a4 a5 a6 a7 a8 a9 a10 a11 a12 a13 a14 a15 a16 a17 a18 a19 a20 a21 a22 ppl psp psy psh tpl tsp tsy tsh kpl ksp ksy ksh bs bt sz nm fd ik psc pnc pdy pzz tsc tnc tdy tzz ksc knc kdy kzz ln so be en va) (wX4 cI cS a0 a1 a2 a3 a4 a5 a6 a7 a8 a9 a10 a11 a12 a13 a14 a15 a16 a17 a18 a19 a20 a21 a22 ppl psp psy psh z1 z2 z3 z4 kpl ksp ksy ksh bs bt sz nm z5 ik psc pnc pdy pzz z6 z7 z8 z9 ksc knc kdy kzz ln so be en va) z0) 0 0 (wA (wX4 cI cS a0 a1 a2 a3 a4 a5 a6 a7 a8 a9 a10 a11 a12 a13 a14 a15 a16 a17 a18 a19 a20 a21 a22 ppl psp psy psh tpl tsp tsy tsh kpl ksp ksy ksh bs bt sz nm fd ik psc pnc pdy pzz tsc tnc tdy tzz ksc knc kdy kzz ln so be en va)) := by
  refine Met.mk RX4 (by decide) rfl rfl (Nat.le_of_ble_eq_true rfl) ?_
  intro p e s m below meth c ls C0 hP hl
  obtain ⟨hP, hCS⟩ := hP
  have hl : lv_has ls 3 [(0, .ref a0), (1, .int v1), (2, .int v2)] := hl
  obtain ⟨hx, hb, hr, hml, hown, hts, hlk, hE⟩ := id C0
  have hD : ∀ W : va_W, W.map Prod.fst = [a0, a1, a2, a3, a4, a5, a6, a7, a8, a9, a10, a11, a12, a13, a14, a15, a16, a17, a18, a19, a20, a21, a22] → va_D (wA (wX4 cI cS a0 a1 a2 a3 a4 a5 a6 a7 a8 a9 a10 a11 a12 a13 a14 a15 a16 a17 a18 a19 a20 a21 a22 ppl psp psy psh tpl tsp tsy tsh kpl ksp ksy ksh bs bt sz nm fd ik psc pnc pdy pzz tsc tnc tdy tzz ksc knc kdy kzz ln so be en va)) W := fun W hW => hD0.own.re hW
  have hS : va_S (wA (wX4 cI cS a0 a1 a2 a3 a4 a5 a6 a7 a8 a9 a10 a11 a12 a13 a14 a15 a16 a17 a18 a19 a20 a21 a22 ppl psp psy psh tpl tsp tsy tsh kpl ksp ksy ksh bs bt sz nm fd ik psc pnc pdy pzz tsc tnc tdy tzz ksc knc kdy kzz ln so be en va)) s.heap s.heap [] := va_S.rf
  have hP : va_P D vwCl (wX4 cI cS a0 a1 a2 a3 a4 a5 a6 a7 a8 a9 a10 a11 a12 a13 a14 a15 a16 a17 a18 a19 a20 a21 a22 ppl psp psy psh tpl tsp tsy tsh kpl ksp ksy ksh bs bt sz nm fd ik psc pnc pdy pzz tsc tnc tdy tzz ksc knc kdy kzz ln so be en va) s.heap := hP
  rw [fX4_eyesFor] at h
  refine lv_aload_n hx hb dX4_eyesFor_0 rfl (lv_at hl 0 rfl) ?_
  refine lv_iload_n hx hb dX4_eyesFor_1 rfl (lv_at hl 1 rfl) ?_
  refine lv_iload_n hx hb dX4_eyesFor_2 rfl (lv_at hl 2 rfl) ?_
  refine lv_iconst (v := 1) hx hb dX4_eyesFor_3 (by decide) ?_
  obtain ⟨z_1, e_2, h⟩ := bds h
  have hPc := hP.sub (ws' := (wX4 cI cS a0 a1 a2 a3 a4 a5 a6 a7 a8 a9 a10 a11 a12 a13 a14 a15 a16 a17 a18 a19 a20 a21 a22 ppl psp psy psh tpl tsp tsy tsh kpl ksp ksy ksh bs bt sz nm fd ik psc pnc pdy pzz tsc tnc tdy tzz ksc knc kdy kzz ln so be en va)) [0, 1, 2, 3, 4, 5, 6, 7, 8, 9, 10, 11, 12, 13, 14, 15, 16, 17, 18, 19, 20, 21, 22] rfl
  refine kMi (wf' := (wX4 cI cS a0 a1 a2 a3 a4 a5 a6 a7 a8 a9 a10 a11 a12 a13 a14 a15 a16 a17 a18 a19 a20 a21 a22 ppl psp psy psh z_1.2.1 z_1.2.2.1 z_1.2.2.2.1 z_1.2.2.2.2.1 kpl ksp ksy ksh bs bt sz nm z_1.2.2.2.2.2.1 ik psc pnc pdy pzz z_1.2.2.2.2.2.2.1 z_1.2.2.2.2.2.2.2.1 z_1.2.2.2.2.2.2.2.2.1 z_1.2.2.2.2.2.2.2.2.2 ksc knc kdy kzz ln so be en va)) [0, 1, 2, 3, 4, 5, 6, 7, 8, 9, 10, 11, 12, 13, 14, 15, 16, 17, 18, 19, 20, 21, 22] [some 0, some 1, some 2, some 3, some 4, some 5, some 6, some 7, some 8, some 9, some 10, some 11, some 12, some 13, some 14, some 15, some 16, some 17, some 18, some 19, some 20, some 21, some 22] (rV C0 (tX4_leastToLand l D cI cS cs F a0 a1 a2 a3 a4 a5 a6 a7 a8 a9 a10 a11 a12 a13 a14 a15 a16 a17 a18 a19 a20 a21 a22 ppl psp psy psh tpl tsp tsy tsh kpl ksp ksy ksh bs bt sz nm fd ik psc pnc pdy pzz tsc tnc tdy tzz ksc knc kdy kzz ln so be en va v1 v2 1 z_1.1 z_1.2.1 z_1.2.2.1 z_1.2.2.2.1 z_1.2.2.2.2.1 z_1.2.2.2.2.2.1 z_1.2.2.2.2.2.2.1 z_1.2.2.2.2.2.2.2.1 z_1.2.2.2.2.2.2.2.2.1 z_1.2.2.2.2.2.2.2.2.2 e_2 (((hD (wX4 cI cS a0 a1 a2 a3 a4 a5 a6 a7 a8 a9 a10 a11 a12 a13 a14 a15 a16 a17 a18 a19 a20 a21 a22 ppl psp psy psh tpl tsp tsy tsh kpl ksp ksy ksh bs bt sz nm fd ik psc pnc pdy pzz tsc tnc tdy tzz ksc knc kdy kzz ln so be en va) rfl).sub [0, 1, 2, 3, 4, 5, 6, 7, 8, 9, 10, 11, 12, 13, 14, 15, 16, 17, 18, 19, 20, 21, 22] (by decide) rfl).weaken (fun _ _ _ _ => trivial))) RX4 gX4_eyesFor_X4_leastToLand rfl ⟨rfl, rfl⟩ pdX4_leastToLand rfl ⟨Nat.le_of_ble_eq_true rfl, Nat.le_of_ble_eq_true rfl⟩ (fun _ _ _ _ q => ⟨q.1, q.2.call⟩) (va_recv hE.1 hPc (ci := 3) (q0 := 0) rfl rfl) (fun U hU hW _ => ⟨by rw [hU]; exact hPc, by rw [hU]; exact ((hCS.kept hS.2.1).narrow (fun q h => va_D.inA (hD (wX4 cI cS a0 a1 a2 a3 a4 a5 a6 a7 a8 a9 a10 a11 a12 a13 a14 a15 a16 a17 a18 a19 a20 a21 a22 ppl psp psy psh tpl tsp tsy tsh kpl ksp ksy ksh bs bt sz nm fd ik psc pnc pdy pzz tsc tnc tdy tzz ksc knc kdy kzz ln so be en va) rfl) [0, 1, 2, 3, 4, 5, 6, 7, 8, 9, 10, 11, 12, 13, 14, 15, 16, 17, 18, 19, 20, 21, 22] rfl h)).warm hW⟩) hl.1 rfl (Nat.le_of_ble_eq_true rfl) dX4_eyesFor_4 ⟨Nat.zero_le _, Nat.zero_le _⟩) hP (hD _ rfl) hS rfl rfl rfl (fun H locs hP hS => ?_)
  obtain ⟨q0, g0⟩ := Prod.mk.inj (Option.some.inj h)
  obtain ⟨q1, g1⟩ := Prod.mk.inj g0
  obtain ⟨q2, g2⟩ := Prod.mk.inj g1
  obtain ⟨q3, g3⟩ := Prod.mk.inj g2
  obtain ⟨q4, g4⟩ := Prod.mk.inj g3
  obtain ⟨q5, g5⟩ := Prod.mk.inj g4
  obtain ⟨q6, g6⟩ := Prod.mk.inj g5
  obtain ⟨q7, g7⟩ := Prod.mk.inj g6
  obtain ⟨q8, q9⟩ := Prod.mk.inj g7
  subst q0 q1 q2 q3 q4 q5 q6 q7 q8 q9
  exact eMi C0 hP hS rfl rfl dX4_eyesFor_7
def fX4_speedFor (F : Nat) (ppl : Nat → Int32) (psp : Nat → Int32) (psy : Nat → Int32) (psh : Nat → Int32) (tpl : Nat → Int32) (tsp : Nat → Int32) (tsy : Nat → Int32) (tsh : Nat → Int32) (fd : Nat → Int32) (psc : Int32) (pnc : Int32) (pdy : Int32) (pzz : Int32) (tsc : Int32) (tnc : Int32) (tdy : Int32) (tzz : Int32) (v1 : Int32) (v2 : Int32) : Option (Int32 × (Nat → Int32) × (Nat → Int32) × (Nat → Int32) × (Nat → Int32) × (Nat → Int32) × Int32 × Int32 × Int32 × Int32) := Option.bind (fX4_leastToLand F ppl psp psy psh tpl tsp tsy tsh fd psc pnc pdy pzz tsc tnc tdy tzz v1 v2 2) (fun z_1 => some (z_1.1, z_1.2.1, z_1.2.2.1, z_1.2.2.2.1, z_1.2.2.2.2.1, z_1.2.2.2.2.2.1, z_1.2.2.2.2.2.2.1, z_1.2.2.2.2.2.2.2.1, z_1.2.2.2.2.2.2.2.2.1, z_1.2.2.2.2.2.2.2.2.2))
abbrev rmX4_speedFor : Room := { frames := 6, cells := 0, slots := 0, locals := 145 }
theorem pdX4_speedFor : (yX4_speedFor.cls = RX4 ∧ yX4_speedFor.cls ≠ "java/lang/invoke/MethodHandle" ∧ yX4_speedFor.cls ≠ "java/lang/invoke/VarHandle" ∧ (parseMethodDescriptor yX4_speedFor.desc).map (fun d => d.parameters.length) = some 2) := by decide +kernel
set_option maxHeartbeats 4000000 in
set_option maxRecDepth 100000 in
theorem tX4_speedFor (l : Launch) (D : va_G) (cI cS : ClassId) (cs : CSt) (F : Nat) (a0 a1 a2 a3 a4 a5 a6 a7 a8 a9 a10 a11 a12 a13 a14 a15 a16 a17 a18 a19 a20 a21 a22 : Nat) (ppl : Nat → Int32) (psp : Nat → Int32) (psy : Nat → Int32) (psh : Nat → Int32) (tpl : Nat → Int32) (tsp : Nat → Int32) (tsy : Nat → Int32) (tsh : Nat → Int32) (kpl : Nat → Int32) (ksp : Nat → Int32) (ksy : Nat → Int32) (ksh : Nat → Int32) (bs : Nat → Int32) (bt : Nat → Int32) (sz : Nat → Int32) (nm : Nat → Int32) (fd : Nat → Int32) (ik : Int32) (psc : Int32) (pnc : Int32) (pdy : Int32) (pzz : Int32) (tsc : Int32) (tnc : Int32) (tdy : Int32) (tzz : Int32) (ksc : Int32) (knc : Int32) (kdy : Int32) (kzz : Int32) (ln : Int32) (so : Int32) (be : Int32) (en : Int32) (va : Int32) (v1 : Int32) (v2 : Int32) (z0 : Int32) (z1 : Nat → Int32) (z2 : Nat → Int32) (z3 : Nat → Int32) (z4 : Nat → Int32) (z5 : Nat → Int32) (z6 : Int32) (z7 : Int32) (z8 : Int32) (z9 : Int32) (h : fX4_speedFor F ppl psp psy psh tpl tsp tsy tsh fd psc pnc pdy pzz tsc tnc tdy tzz v1 v2 = some (z0, z1, z2, z3, z4, z5, z6, z7, z8, z9)) (hD0 : va_D (fun _ => True) (wX4 cI cS a0 a1 a2 a3 a4 a5 a6 a7 a8 a9 a10 a11 a12 a13 a14 a15 a16 a17 a18 a19 a20 a21 a22 ppl psp psy psh tpl tsp tsy tsh kpl ksp ksy ksh bs bt sz nm fd ik psc pnc pdy pzz tsc tnc tdy tzz ksc knc kdy kzz ln so be en va)) : Met l yX4_speedFor wsX4_speedFor rmX4_speedFor (PZ D cI cS [.ref a0, .int v1, .int v2] (fun U => va_P D vwCl (wX4 cI cS a0 a1 a2 a3 a4 a5 a6 a7 a8 a9 a10 a11 a12 a13 a14 a15 a16 a17 a18 a19 a20 a21 a22 ppl psp psy psh tpl tsp tsy tsh kpl ksp ksy ksh bs bt sz nm fd ik psc pnc pdy pzz tsc tnc tdy tzz ksc knc kdy kzz ln so be en va) U.heap ∧ CST cs (wA (wX4 cI cS a0 a1 a2 a3 a4 a5 a6 a7 a8 a9 a10 a11 a12 a13 a14 a15 a16 a17 a18 a19 a20 a21 a22 ppl psp psy psh tpl tsp tsy tsh kpl ksp ksy ksh bs bt sz nm fd ik psc pnc pdy pzz tsc tnc tdy tzz ksc knc kdy kzz ln so be en va)) U U.heap)) (qI D (wX4 cI cS a0 a1 a2 a3 a4 a5 a6 a7 a8 a9 a10 a11 a12 a13 a14 a15 a16 a17 a18 a19 a20 a21 a22 ppl psp psy psh tpl tsp tsy tsh kpl ksp ksy ksh bs bt sz nm fd ik psc pnc pdy pzz tsc tnc tdy tzz ksc knc kdy kzz ln so be en va) (wX4 cI cS a0 a1 a2 a3 a4 a5 a6 a7 a8 a9 a10 a11 a12 a13 a14 a15 a16 a17 a18 a19 a20 a21 a22 ppl psp psy psh z1 z2 z3 z4 kpl ksp ksy ksh bs bt sz nm z5 ik psc pnc pdy pzz z6 z7 z8 z9 ksc knc kdy kzz ln so be en va) z0) 0 0 (wA (wX4 cI cS a0 a1 a2 a3 a4 a5 a6 a7 a8 a9 a10 a11 a12 a13 a14 a15 a16 a17 a18 a19 a20 a21 a22 ppl psp psy psh tpl tsp tsy tsh kpl ksp ksy ksh bs bt sz nm fd ik psc pnc pdy pzz tsc tnc tdy tzz ksc knc kdy kzz ln so be en va)) := by
  refine Met.mk RX4 (by decide) rfl rfl (Nat.le_of_ble_eq_true rfl) ?_
  intro p e s m below meth c ls C0 hP hl
  obtain ⟨hP, hCS⟩ := hP
  have hl : lv_has ls 3 [(0, .ref a0), (1, .int v1), (2, .int v2)] := hl
  obtain ⟨hx, hb, hr, hml, hown, hts, hlk, hE⟩ := id C0
  have hD : ∀ W : va_W, W.map Prod.fst = [a0, a1, a2, a3, a4, a5, a6, a7, a8, a9, a10, a11, a12, a13, a14, a15, a16, a17, a18, a19, a20, a21, a22] → va_D (wA (wX4 cI cS a0 a1 a2 a3 a4 a5 a6 a7 a8 a9 a10 a11 a12 a13 a14 a15 a16 a17 a18 a19 a20 a21 a22 ppl psp psy psh tpl tsp tsy tsh kpl ksp ksy ksh bs bt sz nm fd ik psc pnc pdy pzz tsc tnc tdy tzz ksc knc kdy kzz ln so be en va)) W := fun W hW => hD0.own.re hW
  have hS : va_S (wA (wX4 cI cS a0 a1 a2 a3 a4 a5 a6 a7 a8 a9 a10 a11 a12 a13 a14 a15 a16 a17 a18 a19 a20 a21 a22 ppl psp psy psh tpl tsp tsy tsh kpl ksp ksy ksh bs bt sz nm fd ik psc pnc pdy pzz tsc tnc tdy tzz ksc knc kdy kzz ln so be en va)) s.heap s.heap [] := va_S.rf
  have hP : va_P D vwCl (wX4 cI cS a0 a1 a2 a3 a4 a5 a6 a7 a8 a9 a10 a11 a12 a13 a14 a15 a16 a17 a18 a19 a20 a21 a22 ppl psp psy psh tpl tsp tsy tsh kpl ksp ksy ksh bs bt sz nm fd ik psc pnc pdy pzz tsc tnc tdy tzz ksc knc kdy kzz ln so be en va) s.heap := hP
  rw [fX4_speedFor] at h
  refine lv_aload_n hx hb dX4_speedFor_0 rfl (lv_at hl 0 rfl) ?_
  refine lv_iload_n hx hb dX4_speedFor_1 rfl (lv_at hl 1 rfl) ?_
  refine lv_iload_n hx hb dX4_speedFor_2 rfl (lv_at hl 2 rfl) ?_
  refine lv_iconst (v := 2) hx hb dX4_speedFor_3 (by decide) ?_
  obtain ⟨z_1, e_2, h⟩ := bds h
  have hPc := hP.sub (ws' := (wX4 cI cS a0 a1 a2 a3 a4 a5 a6 a7 a8 a9 a10 a11 a12 a13 a14 a15 a16 a17 a18 a19 a20 a21 a22 ppl psp psy psh tpl tsp tsy tsh kpl ksp ksy ksh bs bt sz nm fd ik psc pnc pdy pzz tsc tnc tdy tzz ksc knc kdy kzz ln so be en va)) [0, 1, 2, 3, 4, 5, 6, 7, 8, 9, 10, 11, 12, 13, 14, 15, 16, 17, 18, 19, 20, 21, 22] rfl
  refine kMi (wf' := (wX4 cI cS a0 a1 a2 a3 a4 a5 a6 a7 a8 a9 a10 a11 a12 a13 a14 a15 a16 a17 a18 a19 a20 a21 a22 ppl psp psy psh z_1.2.1 z_1.2.2.1 z_1.2.2.2.1 z_1.2.2.2.2.1 kpl ksp ksy ksh bs bt sz nm z_1.2.2.2.2.2.1 ik psc pnc pdy pzz z_1.2.2.2.2.2.2.1 z_1.2.2.2.2.2.2.2.1 z_1.2.2.2.2.2.2.2.2.1 z_1.2.2.2.2.2.2.2.2.2 ksc knc kdy kzz ln so be en va)) [0, 1, 2, 3, 4, 5, 6, 7, 8, 9, 10, 11, 12, 13, 14, 15, 16, 17, 18, 19, 20, 21, 22] [some 0, some 1, some 2, some 3, some 4, some 5, some 6, some 7, some 8, some 9, some 10, some 11, some 12, some 13, some 14, some 15, some 16, some 17, some 18, some 19, some 20, some 21, some 22] (rV C0 (tX4_leastToLand l D cI cS cs F a0 a1 a2 a3 a4 a5 a6 a7 a8 a9 a10 a11 a12 a13 a14 a15 a16 a17 a18 a19 a20 a21 a22 ppl psp psy psh tpl tsp tsy tsh kpl ksp ksy ksh bs bt sz nm fd ik psc pnc pdy pzz tsc tnc tdy tzz ksc knc kdy kzz ln so be en va v1 v2 2 z_1.1 z_1.2.1 z_1.2.2.1 z_1.2.2.2.1 z_1.2.2.2.2.1 z_1.2.2.2.2.2.1 z_1.2.2.2.2.2.2.1 z_1.2.2.2.2.2.2.2.1 z_1.2.2.2.2.2.2.2.2.1 z_1.2.2.2.2.2.2.2.2.2 e_2 (((hD (wX4 cI cS a0 a1 a2 a3 a4 a5 a6 a7 a8 a9 a10 a11 a12 a13 a14 a15 a16 a17 a18 a19 a20 a21 a22 ppl psp psy psh tpl tsp tsy tsh kpl ksp ksy ksh bs bt sz nm fd ik psc pnc pdy pzz tsc tnc tdy tzz ksc knc kdy kzz ln so be en va) rfl).sub [0, 1, 2, 3, 4, 5, 6, 7, 8, 9, 10, 11, 12, 13, 14, 15, 16, 17, 18, 19, 20, 21, 22] (by decide) rfl).weaken (fun _ _ _ _ => trivial))) RX4 gX4_speedFor_X4_leastToLand rfl ⟨rfl, rfl⟩ pdX4_leastToLand rfl ⟨Nat.le_of_ble_eq_true rfl, Nat.le_of_ble_eq_true rfl⟩ (fun _ _ _ _ q => ⟨q.1, q.2.call⟩) (va_recv hE.1 hPc (ci := 3) (q0 := 0) rfl rfl) (fun U hU hW _ => ⟨by rw [hU]; exact hPc, by rw [hU]; exact ((hCS.kept hS.2.1).narrow (fun q h => va_D.inA (hD (wX4 cI cS a0 a1 a2 a3 a4 a5 a6 a7 a8 a9 a10 a11 a12 a13 a14 a15 a16 a17 a18 a19 a20 a21 a22 ppl psp psy psh tpl tsp tsy tsh kpl ksp ksy ksh bs bt sz nm fd ik psc pnc pdy pzz tsc tnc tdy tzz ksc knc kdy kzz ln so be en va) rfl) [0, 1, 2, 3, 4, 5, 6, 7, 8, 9, 10, 11, 12, 13, 14, 15, 16, 17, 18, 19, 20, 21, 22] rfl h)).warm hW⟩) hl.1 rfl (Nat.le_of_ble_eq_true rfl) dX4_speedFor_4 ⟨Nat.zero_le _, Nat.zero_le _⟩) hP (hD _ rfl) hS rfl rfl rfl (fun H locs hP hS => ?_)
  obtain ⟨q0, g0⟩ := Prod.mk.inj (Option.some.inj h)
  obtain ⟨q1, g1⟩ := Prod.mk.inj g0
  obtain ⟨q2, g2⟩ := Prod.mk.inj g1
  obtain ⟨q3, g3⟩ := Prod.mk.inj g2
  obtain ⟨q4, g4⟩ := Prod.mk.inj g3
  obtain ⟨q5, g5⟩ := Prod.mk.inj g4
  obtain ⟨q6, g6⟩ := Prod.mk.inj g5
  obtain ⟨q7, g7⟩ := Prod.mk.inj g6
  obtain ⟨q8, q9⟩ := Prod.mk.inj g7
  subst q0 q1 q2 q3 q4 q5 q6 q7 q8 q9
  exact eMi C0 hP hS rfl rfl dX4_speedFor_7
