/-! VaguePort.numberAt, putAt: rows of numbers by place -/
def fX4_numberAt (n : Nat) (f : Nat → Int32) (i : Int32) : Int32 := if i < 0 then 0 else if Int32.ofNat n ≤ i then 0 else f i.toNatClampNeg
def fX4_putAt (n : Nat) (f : Nat → Int32) (i v : Int32) : Nat → Int32 := if i < 0 then f else if Int32.ofNat n ≤ i then f else upd f i.toNatClampNeg v
abbrev rmX4_numberAt : Room := { frames := 0, cells := 0, slots := 0, locals := 0 }
abbrev rmX4_putAt : Room := { frames := 0, cells := 0, slots := 0, locals := 0 }
theorem pdX4_numberAt : (yX4_numberAt.cls ≠ "java/lang/invoke/MethodHandle" ∧ yX4_numberAt.cls ≠ "java/lang/invoke/VarHandle" ∧ (parseMethodDescriptor yX4_numberAt.desc).map (fun d => d.parameters.length) = some 2) := by decide +kernel
theorem pdX4_putAt : (yX4_putAt.cls ≠ "java/lang/invoke/MethodHandle" ∧ yX4_putAt.cls ≠ "java/lang/invoke/VarHandle" ∧ (parseMethodDescriptor yX4_putAt.desc).map (fun d => d.parameters.length) = some 3) := by decide +kernel
set_option maxHeartbeats 4000000 in
set_option maxRecDepth 100000 in
theorem tX4_numberAt (l : Launch) (D : va_G) (cI cS : ClassId) (a n : Nat) (f : Nat → Int32) (i : Int32) (hn : n < 2 ^ 31) : Met l yX4_numberAt wsX4_numberAt rmX4_numberAt (PZ D cI cS [.ref a, .int i] (fun U => va_X a n f U U.heap)) (vp_Si (fun x => x = fX4_numberAt n f i)) 0 0 (fun _ => False) := by
  refine Met.mk RX4 (by decide) rfl rfl (Nat.le_of_ble_eq_true rfl) ?_
  intro p e s m below meth c ls C0 hX hl
  have hl : lv_has ls 2 [(0, .ref a), (1, .int i)] := hl
  obtain ⟨hx, hb, hr, hml, hown, hts, hlk, hE⟩ := id C0
  have hS : va_S (fun _ => False) s.heap s.heap [] := va_S.rf
  have hbl : a < s.heap.size := by obtain ⟨scr, h, -⟩ := hX; exact (Array.getElem?_eq_some_iff.mp h).1
  refine lv_iload_n hx hb dX4_numberAt_0 rfl (lv_at hl 1 rfl) ?_
  refine lv_if_lt (tgt := 16) hx hb dX4_numberAt_1 (by decide) (fun c1 => ?_) (fun c1 => ?_)
  · refine lv_iconst (v := 0) hx hb dX4_numberAt_16 (by decide) ?_
    exact eRi C0 (by rw [fX4_numberAt, if_pos c1]) dX4_numberAt_17
  · refine lv_iload_n hx hb dX4_numberAt_4 rfl (lv_at hl 1 rfl) ?_
    refine lv_aload_n hx hb dX4_numberAt_5 rfl (lv_at hl 0 rfl) ?_
    refine va_slen hx hb hX hbl (fun h => h) hS dX4_numberAt_6 ?_
    refine lv_icmp_ge (tgt := 16) hx hb dX4_numberAt_7 (by decide) (fun c2 => ?_) (fun c2 => ?_)
    · refine lv_iconst (v := 0) hx hb dX4_numberAt_16 (by decide) ?_
      exact eRi C0 (by rw [fX4_numberAt, if_neg c1, if_pos c2]) dX4_numberAt_17
    · refine lv_aload_n hx hb dX4_numberAt_10 rfl (lv_at hl 0 rfl) ?_
      refine lv_iload_n hx hb dX4_numberAt_11 rfl (lv_at hl 1 rfl) ?_
      refine va_sld hx hb hX hbl (fun h => h) hS (in_ofN c1 c2 hn) dX4_numberAt_12 ?_
      refine lv_goto (tgt := 17) hx hb dX4_numberAt_13 (by decide) ?_
      exact eRi C0 (by rw [fX4_numberAt, if_neg c1, if_neg c2]) dX4_numberAt_17
set_option maxHeartbeats 4000000 in
set_option maxRecDepth 100000 in
theorem tX4_putAt (l : Launch) (D : va_G) (cI cS : ClassId) (a n : Nat) (f : Nat → Int32) (i v : Int32) (hn : n < 2 ^ 31) : Met l yX4_putAt wsX4_putAt rmX4_putAt (PZ D cI cS [.ref a, .int i, .int v] (fun U => va_P D vwCl [(a, .inl (cI, n, .inl f))] U.heap)) (qV D [(a, .inl (cI, n, .inl f))] [(a, .inl (cI, n, .inl (fX4_putAt n f i v)))]) 0 0 (wA [(a, .inl (cI, n, .inl f))]) := by
  refine Met.mk RX4 (by decide) rfl rfl (Nat.le_of_ble_eq_true rfl) ?_
  intro p e s m below meth c ls C0 hP hl
  have hl : lv_has ls 3 [(0, .ref a), (1, .int i), (2, .int v)] := hl
  obtain ⟨hx, hb, hr, hml, hown, hts, hlk, hE⟩ := id C0
  have hD : va_D (wA [(a, .inl (cI, n, .inl f))]) [(a, .inl (cI, n, .inl f))] := by
    refine ⟨fun i j p q hi hj _ => ?_, fun k q h => wA.at h⟩
    have h1 := (List.getElem?_eq_some_iff.mp hi).1
    have h2 := (List.getElem?_eq_some_iff.mp hj).1
    simp only [List.length_cons, List.length_nil] at h1 h2
    omega
  have hS : va_S (wA [(a, .inl (cI, n, .inl f))]) s.heap s.heap [] := va_S.rf
  refine lv_iload_n hx hb dX4_putAt_0 rfl (lv_at hl 1 rfl) ?_
  refine lv_if_lt (tgt := 14) hx hb dX4_putAt_1 (by decide) (fun c1 => ?_) (fun c1 => ?_)
  · exact eMv C0 hP hS (by rw [fX4_putAt, if_pos c1]) dX4_putAt_14
  · refine lv_iload_n hx hb dX4_putAt_4 rfl (lv_at hl 1 rfl) ?_
    refine lv_aload_n hx hb dX4_putAt_5 rfl (lv_at hl 0 rfl) ?_
    refine va_alen (v := Int32.ofNat n) hx hb hE.1 hP 0 0 rfl rfl rfl dX4_putAt_6 ?_
    refine lv_icmp_ge (tgt := 14) hx hb dX4_putAt_7 (by decide) (fun c2 => ?_) (fun c2 => ?_)
    · exact eMv C0 hP hS (by rw [fX4_putAt, if_neg c1, if_pos c2]) dX4_putAt_14
    · refine lv_aload_n hx hb dX4_putAt_10 rfl (lv_at hl 0 rfl) ?_
      refine lv_iload_n hx hb dX4_putAt_11 rfl (lv_at hl 1 rfl) ?_
      refine lv_iload_n hx hb dX4_putAt_12 rfl (lv_at hl 2 rfl) ?_
      refine va_iast hx hb hE.1 hP hD hS 0 0 rfl rfl (in_ofN c1 c2 hn) dX4_putAt_13 (fun H locs hP _ hS => ?_)
      exact eMv C0 hP hS (by rw [fX4_putAt, if_neg c1, if_neg c2]; rfl) dX4_putAt_14
