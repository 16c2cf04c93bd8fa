def fX4_within (v0 : Int32) (v1 : Int32) (v2 : Int32) : Int32 := (if v0 < v1 then 0 else (if v2 < v0 then 0 else 1))
abbrev rmX4_within : Room := { frames := 0, cells := 0, slots := 0, locals := 0 }
theorem pdX4_within : (yX4_within.cls ≠ "java/lang/invoke/MethodHandle" ∧ yX4_within.cls ≠ "java/lang/invoke/VarHandle" ∧ (parseMethodDescriptor yX4_within.desc).map (fun d => d.parameters.length) = some 3) := by decide +kernel
set_option maxHeartbeats 4000000 in
set_option maxRecDepth 100000 in
theorem tX4_within (l : Launch) (D : va_G) (cI cS : ClassId) (v0 : Int32) (v1 : Int32) (v2 : Int32) (z0 : Int32) (h : fX4_within v0 v1 v2 = z0) : Met l yX4_within wsX4_within rmX4_within (PZ D cI cS [.int v0, .int v1, .int v2] (fun U => va_P D vwCl ([] : va_W) U.heap)) (vp_Si (fun x => x = z0)) 0 0 (fun _ => False) := by
  refine Met.mk RX4 (by decide) rfl rfl (Nat.le_of_ble_eq_true rfl) ?_
  intro p e s m below meth c ls C0 hP hl
  have hl : lv_has ls 3 [(0, .int v0), (1, .int v1), (2, .int v2)] := hl
  obtain ⟨hx, hb, hr, hml, hown, hts, hlk, hE⟩ := id C0
  rw [fX4_within] at h
  refine lv_iload_n hx hb dX4_within_0 rfl (lv_at hl 0 rfl) ?_
  refine lv_iload_n hx hb dX4_within_1 rfl (lv_at hl 1 rfl) ?_
  refine lv_icmp_lt (tgt := 14) hx hb dX4_within_2 (by decide) (fun c_1 => ?_) (fun c_1 => ?_)
  · have h := ifp c_1 h
    refine lv_iconst (v := 0) hx hb dX4_within_14 (by decide) ?_
    exact eRz C0 rfl h dX4_within_15
  · have h := ifn c_1 h
    refine lv_iload_n hx hb dX4_within_5 rfl (lv_at hl 0 rfl) ?_
    refine lv_iload_n hx hb dX4_within_6 rfl (lv_at hl 2 rfl) ?_
    refine lv_icmp_gt (tgt := 14) hx hb dX4_within_7 (by decide) (fun c_2 => ?_) (fun c_2 => ?_)
    · have h := ifp c_2 h
      refine lv_iconst (v := 0) hx hb dX4_within_14 (by decide) ?_
      exact eRz C0 rfl h dX4_within_15
    · have h := ifn c_2 h
      refine lv_iconst (v := 1) hx hb dX4_within_10 (by decide) ?_
      refine lv_goto (tgt := 15) hx hb dX4_within_11 (by decide) ?_
      exact eRz C0 rfl h dX4_within_15
theorem zzX4_within (v0 : Int32) (v1 : Int32) (v2 : Int32) : narrow .boolean (.int (fX4_within v0 v1 v2)) = .int (fX4_within v0 v1 v2) := by unfold fX4_within; (repeat' split) <;> first | rfl
def fX4_isPlace (v0 : Int32) : Int32 := (fX4_within v0 0 5)
abbrev rmX4_isPlace : Room := { frames := 1, cells := 0, slots := 0, locals := 22 }
theorem pdX4_isPlace : (yX4_isPlace.cls ≠ "java/lang/invoke/MethodHandle" ∧ yX4_isPlace.cls ≠ "java/lang/invoke/VarHandle" ∧ (parseMethodDescriptor yX4_isPlace.desc).map (fun d => d.parameters.length) = some 1) := by decide +kernel
set_option maxHeartbeats 4000000 in
set_option maxRecDepth 100000 in
theorem tX4_isPlace (l : Launch) (D : va_G) (cI cS : ClassId) (v0 : Int32) (z0 : Int32) (h : fX4_isPlace v0 = z0) : Met l yX4_isPlace wsX4_isPlace rmX4_isPlace (PZ D cI cS [.int v0] (fun U => va_P D vwCl ([] : va_W) U.heap)) (vp_Si (fun x => x = z0)) 0 0 (fun _ => False) := by
  refine Met.mk RX4 (by decide) rfl rfl (Nat.le_of_ble_eq_true rfl) ?_
  intro p e s m below meth c ls C0 hP hl
  have hl : lv_has ls 1 [(0, .int v0)] := hl
  obtain ⟨hx, hb, hr, hml, hown, hts, hlk, hE⟩ := id C0
  rw [fX4_isPlace] at h
  refine lv_iload_n hx hb dX4_isPlace_0 rfl (lv_at hl 0 rfl) ?_
  refine lv_iconst (v := 0) hx hb dX4_isPlace_1 (by decide) ?_
  refine lv_iconst (v := 5) hx hb dX4_isPlace_2 (by decide) ?_
  refine kRi (rS C0 (tX4_within l D cI cS v0 0 5 (fX4_within v0 0 5) rfl) gX4_isPlace_X4_within rfl ⟨rfl, rfl⟩ pdX4_within rfl ⟨Nat.le_of_ble_eq_true rfl, Nat.le_of_ble_eq_true rfl⟩ (fun _ _ _ _ q => q) (fun _ _ _ _ => vp0) hl.1 rfl (Nat.le_of_ble_eq_true rfl) dX4_isPlace_3 ⟨Nat.zero_le _, Nat.zero_le _⟩) ?_
  exact eRz C0 (zzX4_within ..) h dX4_isPlace_6
theorem zzX4_isPlace (v0 : Int32) : narrow .boolean (.int (fX4_isPlace v0)) = .int (fX4_isPlace v0) := zzX4_within ..
def fX4_isCell (v0 : Int32) : Int32 := (fX4_within v0 0 15)
abbrev rmX4_isCell : Room := { frames := 1, cells := 0, slots := 0, locals := 22 }
theorem pdX4_isCell : (yX4_isCell.cls ≠ "java/lang/invoke/MethodHandle" ∧ yX4_isCell.cls ≠ "java/lang/invoke/VarHandle" ∧ (parseMethodDescriptor yX4_isCell.desc).map (fun d => d.parameters.length) = some 1) := by decide +kernel
set_option maxHeartbeats 4000000 in
set_option maxRecDepth 100000 in
theorem tX4_isCell (l : Launch) (D : va_G) (cI cS : ClassId) (v0 : Int32) (z0 : Int32) (h : fX4_isCell v0 = z0) : Met l yX4_isCell wsX4_isCell rmX4_isCell (PZ D cI cS [.int v0] (fun U => va_P D vwCl ([] : va_W) U.heap)) (vp_Si (fun x => x = z0)) 0 0 (fun _ => False) := by
  refine Met.mk RX4 (by decide) rfl rfl (Nat.le_of_ble_eq_true rfl) ?_
  intro p e s m below meth c ls C0 hP hl
  have hl : lv_has ls 1 [(0, .int v0)] := hl
  obtain ⟨hx, hb, hr, hml, hown, hts, hlk, hE⟩ := id C0
  rw [fX4_isCell] at h
  refine lv_iload_n hx hb dX4_isCell_0 rfl (lv_at hl 0 rfl) ?_
  refine lv_iconst (v := 0) hx hb dX4_isCell_1 (by decide) ?_
  refine lv_bipush (v := 15) hx hb dX4_isCell_2 (by decide) ?_
  refine kRi (rS C0 (tX4_within l D cI cS v0 0 15 (fX4_within v0 0 15) rfl) gX4_isCell_X4_within rfl ⟨rfl, rfl⟩ pdX4_within rfl ⟨Nat.le_of_ble_eq_true rfl, Nat.le_of_ble_eq_true rfl⟩ (fun _ _ _ _ q => q) (fun _ _ _ _ => vp0) hl.1 rfl (Nat.le_of_ble_eq_true rfl) dX4_isCell_4 ⟨Nat.zero_le _, Nat.zero_le _⟩) ?_
  exact eRz C0 (zzX4_within ..) h dX4_isCell_7
theorem zzX4_isCell (v0 : Int32) : narrow .boolean (.int (fX4_isCell v0)) = .int (fX4_isCell v0) := zzX4_within ..
def fX4_isKind (v0 : Int32) : Int32 := (fX4_within v0 0 6)
abbrev rmX4_isKind : Room := { frames := 1, cells := 0, slots := 0, locals := 22 }
theorem pdX4_isKind : (yX4_isKind.cls ≠ "java/lang/invoke/MethodHandle" ∧ yX4_isKind.cls ≠ "java/lang/invoke/VarHandle" ∧ (parseMethodDescriptor yX4_isKind.desc).map (fun d => d.parameters.length) = some 1) := by decide +kernel
set_option maxHeartbeats 4000000 in
set_option maxRecDepth 100000 in
theorem tX4_isKind (l : Launch) (D : va_G) (cI cS : ClassId) (v0 : Int32) (z0 : Int32) (h : fX4_isKind v0 = z0) : Met l yX4_isKind wsX4_isKind rmX4_isKind (PZ D cI cS [.int v0] (fun U => va_P D vwCl ([] : va_W) U.heap)) (vp_Si (fun x => x = z0)) 0 0 (fun _ => False) := by
  refine Met.mk RX4 (by decide) rfl rfl (Nat.le_of_ble_eq_true rfl) ?_
  intro p e s m below meth c ls C0 hP hl
  have hl : lv_has ls 1 [(0, .int v0)] := hl
  obtain ⟨hx, hb, hr, hml, hown, hts, hlk, hE⟩ := id C0
  rw [fX4_isKind] at h
  refine lv_iload_n hx hb dX4_isKind_0 rfl (lv_at hl 0 rfl) ?_
  refine lv_iconst (v := 0) hx hb dX4_isKind_1 (by decide) ?_
  refine lv_bipush (v := 6) hx hb dX4_isKind_2 (by decide) ?_
  refine kRi (rS C0 (tX4_within l D cI cS v0 0 6 (fX4_within v0 0 6) rfl) gX4_isKind_X4_within rfl ⟨rfl, rfl⟩ pdX4_within rfl ⟨Nat.le_of_ble_eq_true rfl, Nat.le_of_ble_eq_true rfl⟩ (fun _ _ _ _ q => q) (fun _ _ _ _ => vp0) hl.1 rfl (Nat.le_of_ble_eq_true rfl) dX4_isKind_4 ⟨Nat.zero_le _, Nat.zero_le _⟩) ?_
  exact eRz C0 (zzX4_within ..) h dX4_isKind_7
theorem zzX4_isKind (v0 : Int32) : narrow .boolean (.int (fX4_isKind v0)) = .int (fX4_isKind v0) := zzX4_within ..
def fX4_isSheet (v0 : Int32) : Int32 := (fX4_within v0 0 3)
abbrev rmX4_isSheet : Room := { frames := 1, cells := 0, slots := 0, locals := 22 }
theorem pdX4_isSheet : (yX4_isSheet.cls ≠ "java/lang/invoke/MethodHandle" ∧ yX4_isSheet.cls ≠ "java/lang/invoke/VarHandle" ∧ (parseMethodDescriptor yX4_isSheet.desc).map (fun d => d.parameters.length) = some 1) := by decide +kernel
set_option maxHeartbeats 4000000 in
set_option maxRecDepth 100000 in
theorem tX4_isSheet (l : Launch) (D : va_G) (cI cS : ClassId) (v0 : Int32) (z0 : Int32) (h : fX4_isSheet v0 = z0) : Met l yX4_isSheet wsX4_isSheet rmX4_isSheet (PZ D cI cS [.int v0] (fun U => va_P D vwCl ([] : va_W) U.heap)) (vp_Si (fun x => x = z0)) 0 0 (fun _ => False) := by
  refine Met.mk RX4 (by decide) rfl rfl (Nat.le_of_ble_eq_true rfl) ?_
  intro p e s m below meth c ls C0 hP hl
  have hl : lv_has ls 1 [(0, .int v0)] := hl
  obtain ⟨hx, hb, hr, hml, hown, hts, hlk, hE⟩ := id C0
  rw [fX4_isSheet] at h
  refine lv_iload_n hx hb dX4_isSheet_0 rfl (lv_at hl 0 rfl) ?_
  refine lv_iconst (v := 0) hx hb dX4_isSheet_1 (by decide) ?_
  refine lv_iconst (v := 3) hx hb dX4_isSheet_2 (by decide) ?_
  refine kRi (rS C0 (tX4_within l D cI cS v0 0 3 (fX4_within v0 0 3) rfl) gX4_isSheet_X4_within rfl ⟨rfl, rfl⟩ pdX4_within rfl ⟨Nat.le_of_ble_eq_true rfl, Nat.le_of_ble_eq_true rfl⟩ (fun _ _ _ _ q => q) (fun _ _ _ _ => vp0) hl.1 rfl (Nat.le_of_ble_eq_true rfl) dX4_isSheet_3 ⟨Nat.zero_le _, Nat.zero_le _⟩) ?_
  exact eRz C0 (zzX4_within ..) h dX4_isSheet_6
theorem zzX4_isSheet (v0 : Int32) : narrow .boolean (.int (fX4_isSheet v0)) = .int (fX4_isSheet v0) := zzX4_within ..
def fX1_thickens (v0 : Int32) (v1 : Int32) (v2 : Int32) : Int32 := (if v0 = 1 then (v1 + (v2 / 10)) else if v0 = 2 then (v1 / 2) else if v0 = 3 then (2 * (v1 + (v2 / 10))) else if v0 = 4 then ((2 * (v1 + (v2 / 10))) + 40) else if v0 = 5 then (-30) else if v0 = 6 then ((v1 / 2) + 15) else v1)
abbrev rmX1_thickens : Room := { frames := 0, cells := 0, slots := 0, locals := 0 }
theorem pdX1_thickens : (yX1_thickens.cls ≠ "java/lang/invoke/MethodHandle" ∧ yX1_thickens.cls ≠ "java/lang/invoke/VarHandle" ∧ (parseMethodDescriptor yX1_thickens.desc).map (fun d => d.parameters.length) = some 3) := by decide +kernel
set_option maxHeartbeats 4000000 in
set_option maxRecDepth 100000 in
theorem tX1_thickens (l : Launch) (D : va_G) (cI cS : ClassId) (v0 : Int32) (v1 : Int32) (v2 : Int32) (z0 : Int32) (h : fX1_thickens v0 v1 v2 = z0) : Met l yX1_thickens wsX1_thickens rmX1_thickens (PZ D cI cS [.int v0, .int v1, .int v2] (fun U => va_P D vwCl ([] : va_W) U.heap)) (vp_Si (fun x => x = z0)) 0 0 (fun _ => False) := by
  refine Met.mk RX1 (by decide) rfl rfl (Nat.le_of_ble_eq_true rfl) ?_
  intro p e s m below meth c ls C0 hP hl
  have hl : lv_has ls 6 [(0, .int v0), (1, .int v1), (2, .int v2)] := hl
  obtain ⟨hx, hb, hr, hml, hown, hts, hlk, hE⟩ := id C0
  rw [fX1_thickens] at h
  refine lv_iload_n hx hb dX1_thickens_0 rfl (lv_at hl 1 rfl) ?_
  refine lv_iload_n hx hb dX1_thickens_1 rfl (lv_at hl 2 rfl) ?_
  refine lv_bipush (v := 10) hx hb dX1_thickens_2 (by decide) ?_
  refine lv_idiv hx hb dX1_thickens_4 (by decide) ?_
  refine lv_iadd hx hb dX1_thickens_5 ?_
  refine lv_istore_n (lv' := [(3, .int (v1 + (v2 / 10))), (0, .int v0), (1, .int v1), (2, .int v2)]) hx hb dX1_thickens_6 rfl hl (by decide) rfl (fun ls hl => ?_)
  refine lv_iconst (v := 2) hx hb dX1_thickens_7 (by decide) ?_
  refine lv_iload_n hx hb dX1_thickens_8 rfl (lv_at hl 0 rfl) ?_
  refine lv_imul hx hb dX1_thickens_9 ?_
  refine lv_istore (lv' := [(4, .int (2 * (v1 + (v2 / 10)))), (3, .int (v1 + (v2 / 10))), (0, .int v0), (1, .int v1), (2, .int v2)]) hx hb dX1_thickens_10 hl (by decide) rfl (fun ls hl => ?_)
  refine lv_iload_n hx hb dX1_thickens_12 rfl (lv_at hl 3 rfl) ?_
  refine lv_iconst (v := 2) hx hb dX1_thickens_13 (by decide) ?_
  refine lv_idiv hx hb dX1_thickens_14 (by decide) ?_
  refine lv_istore (lv' := [(5, .int (v1 / 2)), (4, .int (2 * (v1 + (v2 / 10)))), (3, .int (v1 + (v2 / 10))), (0, .int v0), (1, .int v1), (2, .int v2)]) hx hb dX1_thickens_15 hl (by decide) rfl (fun ls hl => ?_)
  refine lv_iload_n hx hb dX1_thickens_17 rfl (lv_at hl 3 rfl) ?_
  by_cases c_1 : v0 = 1
  · have h := ifp c_1 h
    refine lv_tableIn (tgt := 56) hx hb dX1_thickens_18 (by rw [c_1]; decide) (by rw [c_1]; decide) (by rw [c_1]; rfl) (by decide) ?_
    refine lv_iload_n hx hb dX1_thickens_56 rfl (lv_at hl 2 rfl) ?_
    exact eRi C0 h dX1_thickens_57
  have h := ifn c_1 h
  by_cases c_2 : v0 = 2
  · have h := ifp c_2 h
    refine lv_tableIn (tgt := 67) hx hb dX1_thickens_18 (by rw [c_2]; decide) (by rw [c_2]; decide) (by rw [c_2]; rfl) (by decide) ?_
    refine lv_iload hx hb dX1_thickens_67 (lv_at hl 0 rfl) ?_
    exact eRi C0 h dX1_thickens_69
  have h := ifn c_2 h
  by_cases c_3 : v0 = 3
  · have h := ifp c_3 h
    refine lv_tableIn (tgt := 58) hx hb dX1_thickens_18 (by rw [c_3]; decide) (by rw [c_3]; decide) (by rw [c_3]; rfl) (by decide) ?_
    refine lv_iload hx hb dX1_thickens_58 (lv_at hl 1 rfl) ?_
    exact eRi C0 h dX1_thickens_60
  have h := ifn c_3 h
  by_cases c_4 : v0 = 4
  · have h := ifp c_4 h
    refine lv_tableIn (tgt := 61) hx hb dX1_thickens_18 (by rw [c_4]; decide) (by rw [c_4]; decide) (by rw [c_4]; rfl) (by decide) ?_
    refine lv_iload hx hb dX1_thickens_61 (lv_at hl 1 rfl) ?_
    refine lv_bipush (v := 40) hx hb dX1_thickens_63 (by decide) ?_
    refine lv_iadd hx hb dX1_thickens_65 ?_
    exact eRi C0 h dX1_thickens_66
  have h := ifn c_4 h
  by_cases c_5 : v0 = 5
  · have h := ifp c_5 h
    refine lv_tableIn (tgt := 76) hx hb dX1_thickens_18 (by rw [c_5]; decide) (by rw [c_5]; decide) (by rw [c_5]; rfl) (by decide) ?_
    refine lv_bipush (v := (-30)) hx hb dX1_thickens_76 (by decide) ?_
    exact eRi C0 h dX1_thickens_78
  have h := ifn c_5 h
  by_cases c_6 : v0 = 6
  · have h := ifp c_6 h
    refine lv_tableIn (tgt := 70) hx hb dX1_thickens_18 (by rw [c_6]; decide) (by rw [c_6]; decide) (by rw [c_6]; rfl) (by decide) ?_
    refine lv_iload hx hb dX1_thickens_70 (lv_at hl 0 rfl) ?_
    refine lv_bipush (v := 15) hx hb dX1_thickens_72 (by decide) ?_
    refine lv_iadd hx hb dX1_thickens_74 ?_
    exact eRi C0 h dX1_thickens_75
  have h := ifn c_6 h
  refine lv_tableOut (tgt := 79) hx hb dX1_thickens_18 (tb0 (tbS (k := 1) (by decide) c_1 (tbS (k := 2) (by decide) c_2 (tbS (k := 3) (by decide) c_3 (tbS (k := 4) (by decide) c_4 (tbS (k := 5) (by decide) c_5 (tbS (k := 6) (by decide) c_6 (tbE (by decide))))))))) (by decide) ?_
  refine lv_iload_n hx hb dX1_thickens_79 rfl (lv_at hl 4 rfl) ?_
  exact eRi C0 h dX1_thickens_80
def fX1_reaches (v0 : Int32) : Int32 := (if v0 = 2 then (2 * 2) else if v0 = 3 then (2 - 1) else if v0 = 4 then ((2 - 1) + 4) else if v0 = 5 then 3 else if v0 = 6 then ((2 * 2) - 1) else 2)
abbrev rmX1_reaches : Room := { frames := 0, cells := 0, slots := 0, locals := 0 }
theorem pdX1_reaches : (yX1_reaches.cls ≠ "java/lang/invoke/MethodHandle" ∧ yX1_reaches.cls ≠ "java/lang/invoke/VarHandle" ∧ (parseMethodDescriptor yX1_reaches.desc).map (fun d => d.parameters.length) = some 1) := by decide +kernel
set_option maxHeartbeats 4000000 in
set_option maxRecDepth 100000 in
theorem tX1_reaches (l : Launch) (D : va_G) (cI cS : ClassId) (v0 : Int32) (z0 : Int32) (h : fX1_reaches v0 = z0) : Met l yX1_reaches wsX1_reaches rmX1_reaches (PZ D cI cS [.int v0] (fun U => va_P D vwCl ([] : va_W) U.heap)) (vp_Si (fun x => x = z0)) 0 0 (fun _ => False) := by
  refine Met.mk RX1 (by decide) rfl rfl (Nat.le_of_ble_eq_true rfl) ?_
  intro p e s m below meth c ls C0 hP hl
  have hl : lv_has ls 4 [(0, .int v0)] := hl
  obtain ⟨hx, hb, hr, hml, hown, hts, hlk, hE⟩ := id C0
  rw [fX1_reaches] at h
  refine lv_iconst (v := 2) hx hb dX1_reaches_0 (by decide) ?_
  refine lv_istore_n (lv' := [(1, .int 2), (0, .int v0)]) hx hb dX1_reaches_1 rfl hl (by decide) rfl (fun ls hl => ?_)
  refine lv_iload_n hx hb dX1_reaches_2 rfl (lv_at hl 0 rfl) ?_
  refine lv_iconst (v := 1) hx hb dX1_reaches_3 (by decide) ?_
  refine lv_isub hx hb dX1_reaches_4 ?_
  refine lv_istore_n (lv' := [(2, .int (2 - 1)), (1, .int 2), (0, .int v0)]) hx hb dX1_reaches_5 rfl hl (by decide) rfl (fun ls hl => ?_)
  refine lv_iconst (v := 2) hx hb dX1_reaches_6 (by decide) ?_
  refine lv_iload_n hx hb dX1_reaches_7 rfl (lv_at hl 1 rfl) ?_
  refine lv_imul hx hb dX1_reaches_8 ?_
  refine lv_istore_n (lv' := [(3, .int (2 * 2)), (2, .int (2 - 1)), (1, .int 2), (0, .int v0)]) hx hb dX1_reaches_9 rfl hl (by decide) rfl (fun ls hl => ?_)
  refine lv_iload_n hx hb dX1_reaches_10 rfl (lv_at hl 3 rfl) ?_
  by_cases c_1 : v0 = 2
  · have h := ifp c_1 h
    refine lv_tableIn (tgt := 50) hx hb dX1_reaches_11 (by rw [c_1]; decide) (by rw [c_1]; decide) (by rw [c_1]; rfl) (by decide) ?_
    refine lv_iload_n hx hb dX1_reaches_50 rfl (lv_at hl 0 rfl) ?_
    exact eRi C0 h dX1_reaches_51
  have h := ifn c_1 h
  by_cases c_2 : v0 = 3
  · have h := ifp c_2 h
    refine lv_tableIn (tgt := 44) hx hb dX1_reaches_11 (by rw [c_2]; decide) (by rw [c_2]; decide) (by rw [c_2]; rfl) (by decide) ?_
    refine lv_iload_n hx hb dX1_reaches_44 rfl (lv_at hl 1 rfl) ?_
    exact eRi C0 h dX1_reaches_45
  have h := ifn c_2 h
  by_cases c_3 : v0 = 4
  · have h := ifp c_3 h
    refine lv_tableIn (tgt := 46) hx hb dX1_reaches_11 (by rw [c_3]; decide) (by rw [c_3]; decide) (by rw [c_3]; rfl) (by decide) ?_
    refine lv_iload_n hx hb dX1_reaches_46 rfl (lv_at hl 1 rfl) ?_
    refine lv_iconst (v := 4) hx hb dX1_reaches_47 (by decide) ?_
    refine lv_iadd hx hb dX1_reaches_48 ?_
    exact eRi C0 h dX1_reaches_49
  have h := ifn c_3 h
  by_cases c_4 : v0 = 5
  · have h := ifp c_4 h
    refine lv_tableIn (tgt := 56) hx hb dX1_reaches_11 (by rw [c_4]; decide) (by rw [c_4]; decide) (by rw [c_4]; rfl) (by decide) ?_
    refine lv_iconst (v := 3) hx hb dX1_reaches_56 (by decide) ?_
    exact eRi C0 h dX1_reaches_57
  have h := ifn c_4 h
  by_cases c_5 : v0 = 6
  · have h := ifp c_5 h
    refine lv_tableIn (tgt := 52) hx hb dX1_reaches_11 (by rw [c_5]; decide) (by rw [c_5]; decide) (by rw [c_5]; rfl) (by decide) ?_
    refine lv_iload_n hx hb dX1_reaches_52 rfl (lv_at hl 0 rfl) ?_
    refine lv_iconst (v := 1) hx hb dX1_reaches_53 (by decide) ?_
    refine lv_isub hx hb dX1_reaches_54 ?_
    exact eRi C0 h dX1_reaches_55
  have h := ifn c_5 h
  refine lv_tableOut (tgt := 58) hx hb dX1_reaches_11 (tb0 (tbS (k := 2) (by decide) c_1 (tbS (k := 3) (by decide) c_2 (tbS (k := 4) (by decide) c_3 (tbS (k := 5) (by decide) c_4 (tbS (k := 6) (by decide) c_5 (tbE (by decide)))))))) (by decide) ?_
  refine lv_iload_n hx hb dX1_reaches_58 rfl (lv_at hl 2 rfl) ?_
  exact eRi C0 h dX1_reaches_59
def fX1_blurs (v0 : Int32) (v1 : Int32) : Int32 := (if (v1 - v1 / 7 * 7) = 6 then (if v0 = 1 then (1 + 1) else if v0 = 2 then 7 else if v0 = 3 then (1 + 1) else if v0 = 4 then (if (v1 - v1 / 2 * 2) = 1 then ((1 + 1) + 3) else (1 + 1)) else if v0 = 5 then 0 else if v0 = 6 then (7 + 2) else 1) else (if v0 = 1 then (1 + 1) else if v0 = 2 then (-1) else if v0 = 3 then (1 + 1) else if v0 = 4 then (if (v1 - v1 / 2 * 2) = 1 then ((1 + 1) + 3) else (1 + 1)) else if v0 = 5 then 0 else if v0 = 6 then ((-1) + 2) else 1))
abbrev rmX1_blurs : Room := { frames := 0, cells := 0, slots := 0, locals := 0 }
theorem pdX1_blurs : (yX1_blurs.cls ≠ "java/lang/invoke/MethodHandle" ∧ yX1_blurs.cls ≠ "java/lang/invoke/VarHandle" ∧ (parseMethodDescriptor yX1_blurs.desc).map (fun d => d.parameters.length) = some 2) := by decide +kernel
set_option maxHeartbeats 4000000 in
set_option maxRecDepth 100000 in
theorem tX1_blurs (l : Launch) (D : va_G) (cI cS : ClassId) (v0 : Int32) (v1 : Int32) (z0 : Int32) (h : fX1_blurs v0 v1 = z0) : Met l yX1_blurs wsX1_blurs rmX1_blurs (PZ D cI cS [.int v0, .int v1] (fun U => va_P D vwCl ([] : va_W) U.heap)) (vp_Si (fun x => x = z0)) 0 0 (fun _ => False) := by
  refine Met.mk RX1 (by decide) rfl rfl (Nat.le_of_ble_eq_true rfl) ?_
  intro p e s m below meth c ls C0 hP hl
  have hl : lv_has ls 5 [(0, .int v0), (1, .int v1)] := hl
  obtain ⟨hx, hb, hr, hml, hown, hts, hlk, hE⟩ := id C0
  rw [fX1_blurs] at h
  refine lv_iconst (v := 1) hx hb dX1_blurs_0 (by decide) ?_
  refine lv_istore_n (lv' := [(2, .int 1), (0, .int v0), (1, .int v1)]) hx hb dX1_blurs_1 rfl hl (by decide) rfl (fun ls hl => ?_)
  refine lv_iload_n hx hb dX1_blurs_2 rfl (lv_at hl 0 rfl) ?_
  refine lv_iconst (v := 1) hx hb dX1_blurs_3 (by decide) ?_
  refine lv_iadd hx hb dX1_blurs_4 ?_
  refine lv_istore_n (lv' := [(3, .int (1 + 1)), (2, .int 1), (0, .int v0), (1, .int v1)]) hx hb dX1_blurs_5 rfl hl (by decide) rfl (fun ls hl => ?_)
  refine lv_iload_n hx hb dX1_blurs_6 rfl (lv_at hl 3 rfl) ?_
  refine lv_bipush (v := 7) hx hb dX1_blurs_7 (by decide) ?_
  refine lv_irem hx hb dX1_blurs_9 (by decide) ?_
  refine lv_bipush (v := 6) hx hb dX1_blurs_10 (by decide) ?_
  refine lv_icmp_ne (tgt := 20) hx hb dX1_blurs_12 (by decide) (fun c_1 => ?_) (fun c_1 => ?_)
  · have h := ifn c_1 h
    refine lv_iconst (v := (-1)) hx hb dX1_blurs_20 (by decide) ?_
    refine lv_istore (lv' := [(4, .int (-1)), (3, .int (1 + 1)), (2, .int 1), (0, .int v0), (1, .int v1)]) hx hb dX1_blurs_21 hl (by decide) rfl (fun ls hl => ?_)
    refine lv_iload_n hx hb dX1_blurs_23 rfl (lv_at hl 3 rfl) ?_
    by_cases c_2 : v0 = 1
    · have h := ifp c_2 h
      refine lv_tableIn (tgt := 64) hx hb dX1_blurs_24 (by rw [c_2]; decide) (by rw [c_2]; decide) (by rw [c_2]; rfl) (by decide) ?_
      refine lv_iload_n hx hb dX1_blurs_64 rfl (lv_at hl 1 rfl) ?_
      exact eRi C0 h dX1_blurs_65
    have h := ifn c_2 h
    by_cases c_3 : v0 = 2
    · have h := ifp c_3 h
      refine lv_tableIn (tgt := 81) hx hb dX1_blurs_24 (by rw [c_3]; decide) (by rw [c_3]; decide) (by rw [c_3]; rfl) (by decide) ?_
      refine lv_iload hx hb dX1_blurs_81 (lv_at hl 0 rfl) ?_
      exact eRi C0 h dX1_blurs_83
    have h := ifn c_3 h
    by_cases c_4 : v0 = 3
    · have h := ifp c_4 h
      refine lv_tableIn (tgt := 64) hx hb dX1_blurs_24 (by rw [c_4]; decide) (by rw [c_4]; decide) (by rw [c_4]; rfl) (by decide) ?_
      refine lv_iload_n hx hb dX1_blurs_64 rfl (lv_at hl 1 rfl) ?_
      exact eRi C0 h dX1_blurs_65
    have h := ifn c_4 h
    by_cases c_5 : v0 = 4
    · have h := ifp c_5 h
      refine lv_tableIn (tgt := 66) hx hb dX1_blurs_24 (by rw [c_5]; decide) (by rw [c_5]; decide) (by rw [c_5]; rfl) (by decide) ?_
      refine lv_iload_n hx hb dX1_blurs_66 rfl (lv_at hl 4 rfl) ?_
      refine lv_iconst (v := 2) hx hb dX1_blurs_67 (by decide) ?_
      refine lv_irem hx hb dX1_blurs_68 (by decide) ?_
      refine lv_iconst (v := 1) hx hb dX1_blurs_69 (by decide) ?_
      refine lv_icmp_ne (tgt := 79) hx hb dX1_blurs_70 (by decide) (fun c_6 => ?_) (fun c_6 => ?_)
      · have h := ifn c_6 h
        refine lv_iload_n hx hb dX1_blurs_79 rfl (lv_at hl 1 rfl) ?_
        exact eRi C0 h dX1_blurs_80
      · have h := ifp c_6 h
        refine lv_iload_n hx hb dX1_blurs_73 rfl (lv_at hl 1 rfl) ?_
        refine lv_iconst (v := 3) hx hb dX1_blurs_74 (by decide) ?_
        refine lv_iadd hx hb dX1_blurs_75 ?_
        refine lv_goto (tgt := 80) hx hb dX1_blurs_76 (by decide) ?_
        exact eRi C0 h dX1_blurs_80
    have h := ifn c_5 h
    by_cases c_7 : v0 = 5
    · have h := ifp c_7 h
      refine lv_tableIn (tgt := 89) hx hb dX1_blurs_24 (by rw [c_7]; decide) (by rw [c_7]; decide) (by rw [c_7]; rfl) (by decide) ?_
      refine lv_iconst (v := 0) hx hb dX1_blurs_89 (by decide) ?_
      exact eRi C0 h dX1_blurs_90
    have h := ifn c_7 h
    by_cases c_8 : v0 = 6
    · have h := ifp c_8 h
      refine lv_tableIn (tgt := 84) hx hb dX1_blurs_24 (by rw [c_8]; decide) (by rw [c_8]; decide) (by rw [c_8]; rfl) (by decide) ?_
      refine lv_iload hx hb dX1_blurs_84 (lv_at hl 0 rfl) ?_
      refine lv_iconst (v := 2) hx hb dX1_blurs_86 (by decide) ?_
      refine lv_iadd hx hb dX1_blurs_87 ?_
      exact eRi C0 h dX1_blurs_88
    have h := ifn c_8 h
    refine lv_tableOut (tgt := 91) hx hb dX1_blurs_24 (tb0 (tbS (k := 1) (by decide) c_2 (tbS (k := 2) (by decide) c_3 (tbS (k := 3) (by decide) c_4 (tbS (k := 4) (by decide) c_5 (tbS (k := 5) (by decide) c_7 (tbS (k := 6) (by decide) c_8 (tbE (by decide))))))))) (by decide) ?_
    refine lv_iload_n hx hb dX1_blurs_91 rfl (lv_at hl 2 rfl) ?_
    exact eRi C0 h dX1_blurs_92
  · have h := ifp c_1 h
    refine lv_bipush (v := 7) hx hb dX1_blurs_15 (by decide) ?_
    refine lv_goto (tgt := 21) hx hb dX1_blurs_17 (by decide) ?_
    refine lv_istore (lv' := [(4, .int 7), (3, .int (1 + 1)), (2, .int 1), (0, .int v0), (1, .int v1)]) hx hb dX1_blurs_21 hl (by decide) rfl (fun ls hl => ?_)
    refine lv_iload_n hx hb dX1_blurs_23 rfl (lv_at hl 3 rfl) ?_
    by_cases c_9 : v0 = 1
    · have h := ifp c_9 h
      refine lv_tableIn (tgt := 64) hx hb dX1_blurs_24 (by rw [c_9]; decide) (by rw [c_9]; decide) (by rw [c_9]; rfl) (by decide) ?_
      refine lv_iload_n hx hb dX1_blurs_64 rfl (lv_at hl 1 rfl) ?_
      exact eRi C0 h dX1_blurs_65
    have h := ifn c_9 h
    by_cases c_10 : v0 = 2
    · have h := ifp c_10 h
      refine lv_tableIn (tgt := 81) hx hb dX1_blurs_24 (by rw [c_10]; decide) (by rw [c_10]; decide) (by rw [c_10]; rfl) (by decide) ?_
      refine lv_iload hx hb dX1_blurs_81 (lv_at hl 0 rfl) ?_
      exact eRi C0 h dX1_blurs_83
    have h := ifn c_10 h
    by_cases c_11 : v0 = 3
    · have h := ifp c_11 h
      refine lv_tableIn (tgt := 64) hx hb dX1_blurs_24 (by rw [c_11]; decide) (by rw [c_11]; decide) (by rw [c_11]; rfl) (by decide) ?_
      refine lv_iload_n hx hb dX1_blurs_64 rfl (lv_at hl 1 rfl) ?_
      exact eRi C0 h dX1_blurs_65
    have h := ifn c_11 h
    by_cases c_12 : v0 = 4
    · have h := ifp c_12 h
      refine lv_tableIn (tgt := 66) hx hb dX1_blurs_24 (by rw [c_12]; decide) (by rw [c_12]; decide) (by rw [c_12]; rfl) (by decide) ?_
      refine lv_iload_n hx hb dX1_blurs_66 rfl (lv_at hl 4 rfl) ?_
      refine lv_iconst (v := 2) hx hb dX1_blurs_67 (by decide) ?_
      refine lv_irem hx hb dX1_blurs_68 (by decide) ?_
      refine lv_iconst (v := 1) hx hb dX1_blurs_69 (by decide) ?_
      refine lv_icmp_ne (tgt := 79) hx hb dX1_blurs_70 (by decide) (fun c_13 => ?_) (fun c_13 => ?_)
      · have h := ifn c_13 h
        refine lv_iload_n hx hb dX1_blurs_79 rfl (lv_at hl 1 rfl) ?_
        exact eRi C0 h dX1_blurs_80
      · have h := ifp c_13 h
        refine lv_iload_n hx hb dX1_blurs_73 rfl (lv_at hl 1 rfl) ?_
        refine lv_iconst (v := 3) hx hb dX1_blurs_74 (by decide) ?_
        refine lv_iadd hx hb dX1_blurs_75 ?_
        refine lv_goto (tgt := 80) hx hb dX1_blurs_76 (by decide) ?_
        exact eRi C0 h dX1_blurs_80
    have h := ifn c_12 h
    by_cases c_14 : v0 = 5
    · have h := ifp c_14 h
      refine lv_tableIn (tgt := 89) hx hb dX1_blurs_24 (by rw [c_14]; decide) (by rw [c_14]; decide) (by rw [c_14]; rfl) (by decide) ?_
      refine lv_iconst (v := 0) hx hb dX1_blurs_89 (by decide) ?_
      exact eRi C0 h dX1_blurs_90
    have h := ifn c_14 h
    by_cases c_15 : v0 = 6
    · have h := ifp c_15 h
      refine lv_tableIn (tgt := 84) hx hb dX1_blurs_24 (by rw [c_15]; decide) (by rw [c_15]; decide) (by rw [c_15]; rfl) (by decide) ?_
      refine lv_iload hx hb dX1_blurs_84 (lv_at hl 0 rfl) ?_
      refine lv_iconst (v := 2) hx hb dX1_blurs_86 (by decide) ?_
      refine lv_iadd hx hb dX1_blurs_87 ?_
      exact eRi C0 h dX1_blurs_88
    have h := ifn c_15 h
    refine lv_tableOut (tgt := 91) hx hb dX1_blurs_24 (tb0 (tbS (k := 1) (by decide) c_9 (tbS (k := 2) (by decide) c_10 (tbS (k := 3) (by decide) c_11 (tbS (k := 4) (by decide) c_12 (tbS (k := 5) (by decide) c_14 (tbS (k := 6) (by decide) c_15 (tbE (by decide))))))))) (by decide) ?_
    refine lv_iload_n hx hb dX1_blurs_91 rfl (lv_at hl 2 rfl) ?_
    exact eRi C0 h dX1_blurs_92
def fX1_resists (v0 : Int32) : Int32 := (if v0 = 1 then (99 - 19) else if v0 = 2 then 99 else if v0 = 3 then ((99 - 19) / 2) else if v0 = 4 then (((99 - 19) / 2) - 30) else if v0 = 5 then 99 else if v0 = 6 then 20 else 99)
abbrev rmX1_resists : Room := { frames := 0, cells := 0, slots := 0, locals := 0 }
theorem pdX1_resists : (yX1_resists.cls ≠ "java/lang/invoke/MethodHandle" ∧ yX1_resists.cls ≠ "java/lang/invoke/VarHandle" ∧ (parseMethodDescriptor yX1_resists.desc).map (fun d => d.parameters.length) = some 1) := by decide +kernel
set_option maxHeartbeats 4000000 in
set_option maxRecDepth 100000 in
theorem tX1_resists (l : Launch) (D : va_G) (cI cS : ClassId) (v0 : Int32) (z0 : Int32) (h : fX1_resists v0 = z0) : Met l yX1_resists wsX1_resists rmX1_resists (PZ D cI cS [.int v0] (fun U => va_P D vwCl ([] : va_W) U.heap)) (vp_Si (fun x => x = z0)) 0 0 (fun _ => False) := by
  refine Met.mk RX1 (by decide) rfl rfl (Nat.le_of_ble_eq_true rfl) ?_
  intro p e s m below meth c ls C0 hP hl
  have hl : lv_has ls 4 [(0, .int v0)] := hl
  obtain ⟨hx, hb, hr, hml, hown, hts, hlk, hE⟩ := id C0
  rw [fX1_resists] at h
  refine lv_bipush (v := 99) hx hb dX1_resists_0 (by decide) ?_
  refine lv_istore_n (lv' := [(1, .int 99), (0, .int v0)]) hx hb dX1_resists_2 rfl hl (by decide) rfl (fun ls hl => ?_)
  refine lv_iload_n hx hb dX1_resists_3 rfl (lv_at hl 0 rfl) ?_
  refine lv_bipush (v := 19) hx hb dX1_resists_4 (by decide) ?_
  refine lv_isub hx hb dX1_resists_6 ?_
  refine lv_istore_n (lv' := [(2, .int (99 - 19)), (1, .int 99), (0, .int v0)]) hx hb dX1_resists_7 rfl hl (by decide) rfl (fun ls hl => ?_)
  refine lv_iload_n hx hb dX1_resists_8 rfl (lv_at hl 0 rfl) ?_
  refine lv_iconst (v := 2) hx hb dX1_resists_9 (by decide) ?_
  refine lv_idiv hx hb dX1_resists_10 (by decide) ?_
  refine lv_istore_n (lv' := [(3, .int ((99 - 19) / 2)), (2, .int (99 - 19)), (1, .int 99), (0, .int v0)]) hx hb dX1_resists_11 rfl hl (by decide) rfl (fun ls hl => ?_)
  refine lv_iload_n hx hb dX1_resists_12 rfl (lv_at hl 3 rfl) ?_
  by_cases c_1 : v0 = 1
  · have h := ifp c_1 h
    refine lv_tableIn (tgt := 52) hx hb dX1_resists_13 (by rw [c_1]; decide) (by rw [c_1]; decide) (by rw [c_1]; rfl) (by decide) ?_
    refine lv_iload_n hx hb dX1_resists_52 rfl (lv_at hl 1 rfl) ?_
    exact eRi C0 h dX1_resists_53
  have h := ifn c_1 h
  by_cases c_2 : v0 = 2
  · have h := ifp c_2 h
    refine lv_tableIn (tgt := 64) hx hb dX1_resists_13 (by rw [c_2]; decide) (by rw [c_2]; decide) (by rw [c_2]; rfl) (by decide) ?_
    refine lv_iload_n hx hb dX1_resists_64 rfl (lv_at hl 2 rfl) ?_
    exact eRi C0 h dX1_resists_65
  have h := ifn c_2 h
  by_cases c_3 : v0 = 3
  · have h := ifp c_3 h
    refine lv_tableIn (tgt := 54) hx hb dX1_resists_13 (by rw [c_3]; decide) (by rw [c_3]; decide) (by rw [c_3]; rfl) (by decide) ?_
    refine lv_iload_n hx hb dX1_resists_54 rfl (lv_at hl 0 rfl) ?_
    exact eRi C0 h dX1_resists_55
  have h := ifn c_3 h
  by_cases c_4 : v0 = 4
  · have h := ifp c_4 h
    refine lv_tableIn (tgt := 56) hx hb dX1_resists_13 (by rw [c_4]; decide) (by rw [c_4]; decide) (by rw [c_4]; rfl) (by decide) ?_
    refine lv_iload_n hx hb dX1_resists_56 rfl (lv_at hl 0 rfl) ?_
    refine lv_bipush (v := 30) hx hb dX1_resists_57 (by decide) ?_
    refine lv_isub hx hb dX1_resists_59 ?_
    exact eRi C0 h dX1_resists_60
  have h := ifn c_4 h
  by_cases c_5 : v0 = 5
  · have h := ifp c_5 h
    refine lv_tableIn (tgt := 64) hx hb dX1_resists_13 (by rw [c_5]; decide) (by rw [c_5]; decide) (by rw [c_5]; rfl) (by decide) ?_
    refine lv_iload_n hx hb dX1_resists_64 rfl (lv_at hl 2 rfl) ?_
    exact eRi C0 h dX1_resists_65
  have h := ifn c_5 h
  by_cases c_6 : v0 = 6
  · have h := ifp c_6 h
    refine lv_tableIn (tgt := 61) hx hb dX1_resists_13 (by rw [c_6]; decide) (by rw [c_6]; decide) (by rw [c_6]; rfl) (by decide) ?_
    refine lv_bipush (v := 20) hx hb dX1_resists_61 (by decide) ?_
    exact eRi C0 h dX1_resists_63
  have h := ifn c_6 h
  refine lv_tableOut (tgt := 64) hx hb dX1_resists_13 (tb0 (tbS (k := 1) (by decide) c_1 (tbS (k := 2) (by decide) c_2 (tbS (k := 3) (by decide) c_3 (tbS (k := 4) (by decide) c_4 (tbS (k := 5) (by decide) c_5 (tbS (k := 6) (by decide) c_6 (tbE (by decide))))))))) (by decide) ?_
  refine lv_iload_n hx hb dX1_resists_64 rfl (lv_at hl 2 rfl) ?_
  exact eRi C0 h dX1_resists_65
def fX1_fades (v0 : Int32) (v1 : Int32) : Int32 := (if v0 = 5 then (v1 / 10) else (v1 / 5))
abbrev rmX1_fades : Room := { frames := 0, cells := 0, slots := 0, locals := 0 }
theorem pdX1_fades : (yX1_fades.cls ≠ "java/lang/invoke/MethodHandle" ∧ yX1_fades.cls ≠ "java/lang/invoke/VarHandle" ∧ (parseMethodDescriptor yX1_fades.desc).map (fun d => d.parameters.length) = some 2) := by decide +kernel
set_option maxHeartbeats 4000000 in
set_option maxRecDepth 100000 in
theorem tX1_fades (l : Launch) (D : va_G) (cI cS : ClassId) (v0 : Int32) (v1 : Int32) (z0 : Int32) (h : fX1_fades v0 v1 = z0) : Met l yX1_fades wsX1_fades rmX1_fades (PZ D cI cS [.int v0, .int v1] (fun U => va_P D vwCl ([] : va_W) U.heap)) (vp_Si (fun x => x = z0)) 0 0 (fun _ => False) := by
  refine Met.mk RX1 (by decide) rfl rfl (Nat.le_of_ble_eq_true rfl) ?_
  intro p e s m below meth c ls C0 hP hl
  have hl : lv_has ls 2 [(0, .int v0), (1, .int v1)] := hl
  obtain ⟨hx, hb, hr, hml, hown, hts, hlk, hE⟩ := id C0
  rw [fX1_fades] at h
  refine lv_iload_n hx hb dX1_fades_0 rfl (lv_at hl 0 rfl) ?_
  refine lv_iconst (v := 5) hx hb dX1_fades_1 (by decide) ?_
  refine lv_icmp_ne (tgt := 12) hx hb dX1_fades_2 (by decide) (fun c_1 => ?_) (fun c_1 => ?_)
  · have h := ifn c_1 h
    refine lv_iload_n hx hb dX1_fades_12 rfl (lv_at hl 1 rfl) ?_
    refine lv_iconst (v := 5) hx hb dX1_fades_13 (by decide) ?_
    refine lv_idiv hx hb dX1_fades_14 (by decide) ?_
    exact eRi C0 h dX1_fades_15
  · have h := ifp c_1 h
    refine lv_iload_n hx hb dX1_fades_5 rfl (lv_at hl 1 rfl) ?_
    refine lv_bipush (v := 10) hx hb dX1_fades_6 (by decide) ?_
    refine lv_idiv hx hb dX1_fades_8 (by decide) ?_
    refine lv_goto (tgt := 15) hx hb dX1_fades_9 (by decide) ?_
    exact eRi C0 h dX1_fades_15
def fX1_parentOf (v0 : Int32) : Int32 := (if v0 = 3 then 1 else if v0 = 4 then 3 else if v0 = 5 then 0 else if v0 = 6 then 2 else 0)
abbrev rmX1_parentOf : Room := { frames := 0, cells := 0, slots := 0, locals := 0 }
theorem pdX1_parentOf : (yX1_parentOf.cls ≠ "java/lang/invoke/MethodHandle" ∧ yX1_parentOf.cls ≠ "java/lang/invoke/VarHandle" ∧ (parseMethodDescriptor yX1_parentOf.desc).map (fun d => d.parameters.length) = some 1) := by decide +kernel
set_option maxHeartbeats 4000000 in
set_option maxRecDepth 100000 in
theorem tX1_parentOf (l : Launch) (D : va_G) (cI cS : ClassId) (v0 : Int32) (z0 : Int32) (h : fX1_parentOf v0 = z0) : Met l yX1_parentOf wsX1_parentOf rmX1_parentOf (PZ D cI cS [.int v0] (fun U => va_P D vwCl ([] : va_W) U.heap)) (vp_Si (fun x => x = z0)) 0 0 (fun _ => False) := by
  refine Met.mk RX1 (by decide) rfl rfl (Nat.le_of_ble_eq_true rfl) ?_
  intro p e s m below meth c ls C0 hP hl
  have hl : lv_has ls 1 [(0, .int v0)] := hl
  obtain ⟨hx, hb, hr, hml, hown, hts, hlk, hE⟩ := id C0
  rw [fX1_parentOf] at h
  refine lv_iload_n hx hb dX1_parentOf_0 rfl (lv_at hl 0 rfl) ?_
  by_cases c_1 : v0 = 3
  · have h := ifp c_1 h
    refine lv_tableIn (tgt := 32) hx hb dX1_parentOf_1 (by rw [c_1]; decide) (by rw [c_1]; decide) (by rw [c_1]; rfl) (by decide) ?_
    refine lv_iconst (v := 1) hx hb dX1_parentOf_32 (by decide) ?_
    exact eRi C0 h dX1_parentOf_33
  have h := ifn c_1 h
  by_cases c_2 : v0 = 4
  · have h := ifp c_2 h
    refine lv_tableIn (tgt := 34) hx hb dX1_parentOf_1 (by rw [c_2]; decide) (by rw [c_2]; decide) (by rw [c_2]; rfl) (by decide) ?_
    refine lv_iconst (v := 3) hx hb dX1_parentOf_34 (by decide) ?_
    exact eRi C0 h dX1_parentOf_35
  have h := ifn c_2 h
  by_cases c_3 : v0 = 5
  · have h := ifp c_3 h
    refine lv_tableIn (tgt := 38) hx hb dX1_parentOf_1 (by rw [c_3]; decide) (by rw [c_3]; decide) (by rw [c_3]; rfl) (by decide) ?_
    refine lv_iconst (v := 0) hx hb dX1_parentOf_38 (by decide) ?_
    exact eRi C0 h dX1_parentOf_39
  have h := ifn c_3 h
  by_cases c_4 : v0 = 6
  · have h := ifp c_4 h
    refine lv_tableIn (tgt := 36) hx hb dX1_parentOf_1 (by rw [c_4]; decide) (by rw [c_4]; decide) (by rw [c_4]; rfl) (by decide) ?_
    refine lv_iconst (v := 2) hx hb dX1_parentOf_36 (by decide) ?_
    exact eRi C0 h dX1_parentOf_37
  have h := ifn c_4 h
  refine lv_tableOut (tgt := 38) hx hb dX1_parentOf_1 (tb0 (tbS (k := 3) (by decide) c_1 (tbS (k := 4) (by decide) c_2 (tbS (k := 5) (by decide) c_3 (tbS (k := 6) (by decide) c_4 (tbE (by decide))))))) (by decide) ?_
  refine lv_iconst (v := 0) hx hb dX1_parentOf_38 (by decide) ?_
  exact eRi C0 h dX1_parentOf_39
def fX1_isOrIsUnder_4 (v1 : Int32) : Nat → Int32 → Int32 → Option (Int32)
  | 0, _, _ => none
  | n + 1, v2, v3 => (if 7 ≤ v3 then (if v2 = v1 then some 1 else some 0) else (if v2 = v1 then (if v2 = v1 then some 1 else some 0) else (if v2 = 0 then (if v2 = v1 then some 1 else some 0) else fX1_isOrIsUnder_4 v1 n (fX1_parentOf v2) (v3 + 1))))
def fX1_isOrIsUnder (F : Nat) (v0 : Int32) (v1 : Int32) : Option (Int32) := fX1_isOrIsUnder_4 v1 F v0 0
abbrev rmX1_isOrIsUnder : Room := { frames := 1, cells := 0, slots := 0, locals := 20 }
theorem pdX1_isOrIsUnder : (yX1_isOrIsUnder.cls ≠ "java/lang/invoke/MethodHandle" ∧ yX1_isOrIsUnder.cls ≠ "java/lang/invoke/VarHandle" ∧ (parseMethodDescriptor yX1_isOrIsUnder.desc).map (fun d => d.parameters.length) = some 2) := by decide +kernel
set_option maxHeartbeats 4000000 in
set_option maxRecDepth 100000 in
theorem lX1_isOrIsUnder_4 {p : Program} {l : Launch} {e : Env} {s : State} {m : MethodId} {av : Array Value} {below : List Frame} {meth : Method} {c : Code} {D : va_G} {cI cS : ClassId} (C0 : CX p s m av meth c RX1 cX1_isOrIsUnder 4 (some .boolean) wsX1_isOrIsUnder D cI cS) (F : Nat) (v1 : Int32) (z0 : Int32) (hP : va_P D vwCl ([] : va_W) s.heap) : ∀ (n : Nat) (v2 : Int32) (v3 : Int32), ∀ (ls : Array Slot), lv_has ls 4 [(1, .int v1), (2, .int v2), (3, .int v3)] → fX1_isOrIsUnder_4 v1 n v2 v3 = some z0 → W p l e rmX1_isOrIsUnder s m av below meth c s.heap [] 0 0 (MQ below (vp_Si (fun x => x = z0)) av s 0 0 (fun _ => False)) (F0 m 4 ls []) := by
  obtain ⟨hx, hb, hr, hml, hown, hts, hlk, hE⟩ := id C0
  intro n
  induction n with
  | zero =>
    intro v2 v3 ls hl h
    cases (show none = some z0 from h)
  | succ n ih =>
    intro v2 v3 ls hl h
    rw [fX1_isOrIsUnder_4] at h
    refine lv_iload_n hx hb dX1_isOrIsUnder_4 rfl (lv_at hl 2 rfl) ?_
    refine lv_bipush (v := 7) hx hb dX1_isOrIsUnder_5 (by decide) ?_
    refine lv_icmp_ge (tgt := 30) hx hb dX1_isOrIsUnder_7 (by decide) (fun c_1 => ?_) (fun c_1 => ?_)
    · have h := ifp c_1 h
      refine lv_iload_n hx hb dX1_isOrIsUnder_30 rfl (lv_at hl 1 rfl) ?_
      refine lv_iload_n hx hb dX1_isOrIsUnder_31 rfl (lv_at hl 0 rfl) ?_
      refine lv_icmp_ne (tgt := 39) hx hb dX1_isOrIsUnder_32 (by decide) (fun c_2 => ?_) (fun c_2 => ?_)
      · have h := ifn c_2 h
        refine lv_iconst (v := 0) hx hb dX1_isOrIsUnder_39 (by decide) ?_
        exact eRz C0 rfl (Option.some.inj h) dX1_isOrIsUnder_40
      · have h := ifp c_2 h
        refine lv_iconst (v := 1) hx hb dX1_isOrIsUnder_35 (by decide) ?_
        refine lv_goto (tgt := 40) hx hb dX1_isOrIsUnder_36 (by decide) ?_
        exact eRz C0 rfl (Option.some.inj h) dX1_isOrIsUnder_40
    · have h := ifn c_1 h
      refine lv_iload_n hx hb dX1_isOrIsUnder_10 rfl (lv_at hl 1 rfl) ?_
      refine lv_iload_n hx hb dX1_isOrIsUnder_11 rfl (lv_at hl 0 rfl) ?_
      refine lv_icmp_eq (tgt := 30) hx hb dX1_isOrIsUnder_12 (by decide) (fun c_3 => ?_) (fun c_3 => ?_)
      · have h := ifp c_3 h
        refine lv_iload_n hx hb dX1_isOrIsUnder_30 rfl (lv_at hl 1 rfl) ?_
        refine lv_iload_n hx hb dX1_isOrIsUnder_31 rfl (lv_at hl 0 rfl) ?_
        refine lv_icmp_ne (tgt := 39) hx hb dX1_isOrIsUnder_32 (by decide) (fun c_4 => ?_) (fun c_4 => ?_)
        · have h := ifn c_4 h
          refine lv_iconst (v := 0) hx hb dX1_isOrIsUnder_39 (by decide) ?_
          exact eRz C0 rfl (Option.some.inj h) dX1_isOrIsUnder_40
        · have h := ifp c_4 h
          refine lv_iconst (v := 1) hx hb dX1_isOrIsUnder_35 (by decide) ?_
          refine lv_goto (tgt := 40) hx hb dX1_isOrIsUnder_36 (by decide) ?_
          exact eRz C0 rfl (Option.some.inj h) dX1_isOrIsUnder_40
      · have h := ifn c_3 h
        refine lv_iload_n hx hb dX1_isOrIsUnder_15 rfl (lv_at hl 1 rfl) ?_
        refine lv_if_eq (tgt := 30) hx hb dX1_isOrIsUnder_16 (by decide) (fun c_5 => ?_) (fun c_5 => ?_)
        · have h := ifp c_5 h
          refine lv_iload_n hx hb dX1_isOrIsUnder_30 rfl (lv_at hl 1 rfl) ?_
          refine lv_iload_n hx hb dX1_isOrIsUnder_31 rfl (lv_at hl 0 rfl) ?_
          refine lv_icmp_ne (tgt := 39) hx hb dX1_isOrIsUnder_32 (by decide) (fun c_6 => ?_) (fun c_6 => ?_)
          · have h := ifn c_6 h
            refine lv_iconst (v := 0) hx hb dX1_isOrIsUnder_39 (by decide) ?_
            exact eRz C0 rfl (Option.some.inj h) dX1_isOrIsUnder_40
          · have h := ifp c_6 h
            refine lv_iconst (v := 1) hx hb dX1_isOrIsUnder_35 (by decide) ?_
            refine lv_goto (tgt := 40) hx hb dX1_isOrIsUnder_36 (by decide) ?_
            exact eRz C0 rfl (Option.some.inj h) dX1_isOrIsUnder_40
        · have h := ifn c_5 h
          refine lv_iload_n hx hb dX1_isOrIsUnder_19 rfl (lv_at hl 1 rfl) ?_
          refine kRi (rS C0 (tX1_parentOf l D cI cS v2 (fX1_parentOf v2) rfl) gX1_isOrIsUnder_X1_parentOf rfl ⟨rfl, rfl⟩ pdX1_parentOf rfl ⟨Nat.le_of_ble_eq_true rfl, Nat.le_of_ble_eq_true rfl⟩ (fun _ _ _ _ q => q) (fun _ _ _ _ => vp0) hl.1 rfl (Nat.le_of_ble_eq_true rfl) dX1_isOrIsUnder_20 ⟨Nat.zero_le _, Nat.zero_le _⟩) ?_
          refine lv_istore_n (lv' := [(2, .int (fX1_parentOf v2)), (1, .int v1), (3, .int v3)]) hx hb dX1_isOrIsUnder_23 rfl hl (by decide) rfl (fun ls hl => ?_)
          refine lv_iinc (v := v3 + 1) (lv' := [(3, .int (v3 + 1)), (2, .int (fX1_parentOf v2)), (1, .int v1)]) hx hb dX1_isOrIsUnder_24 hl (k := 2) rfl rfl (by decide) rfl (fun ls hl => ?_)
          refine lv_goto (tgt := 4) hx hb dX1_isOrIsUnder_27 (by decide) ?_
          exact ih (fX1_parentOf v2) (v3 + 1) _ (lv_sub hl [2, 1, 0] rfl) h
set_option maxHeartbeats 4000000 in
set_option maxRecDepth 100000 in
theorem tX1_isOrIsUnder (l : Launch) (D : va_G) (cI cS : ClassId) (F : Nat) (v0 : Int32) (v1 : Int32) (z0 : Int32) (h : fX1_isOrIsUnder F v0 v1 = some z0) : Met l yX1_isOrIsUnder wsX1_isOrIsUnder rmX1_isOrIsUnder (PZ D cI cS [.int v0, .int v1] (fun U => va_P D vwCl ([] : va_W) U.heap)) (vp_Si (fun x => x = z0)) 0 0 (fun _ => False) := by
  refine Met.mk RX1 (by decide) rfl rfl (Nat.le_of_ble_eq_true rfl) ?_
  intro p e s m below meth c ls C0 hP hl
  have hl : lv_has ls 4 [(0, .int v0), (1, .int v1)] := hl
  obtain ⟨hx, hb, hr, hml, hown, hts, hlk, hE⟩ := id C0
  rw [fX1_isOrIsUnder] at h
  refine lv_iload_n hx hb dX1_isOrIsUnder_0 rfl (lv_at hl 0 rfl) ?_
  refine lv_istore_n (lv' := [(2, .int v0), (0, .int v0), (1, .int v1)]) hx hb dX1_isOrIsUnder_1 rfl hl (by decide) rfl (fun ls hl => ?_)
  refine lv_iconst (v := 0) hx hb dX1_isOrIsUnder_2 (by decide) ?_
  refine lv_istore_n (lv' := [(3, .int 0), (2, .int v0), (0, .int v0), (1, .int v1)]) hx hb dX1_isOrIsUnder_3 rfl hl (by decide) rfl (fun ls hl => ?_)
  exact lX1_isOrIsUnder_4 (l := l) (e := e) (below := below) C0 F v1 z0 hP F v0 0 _ (lv_sub hl [3, 1, 0] rfl) h
def fJ6_bitCount_0f7a4 (v0 : Int32) : Int32 := ((((((((v0 - (((v0.toUInt32 >>> ((1 : Int32).toUInt32 &&& Int32.toUInt32 31)).toInt32) &&& 1431655765)) &&& 858993459) + ((((v0 - (((v0.toUInt32 >>> ((1 : Int32).toUInt32 &&& Int32.toUInt32 31)).toInt32) &&& 1431655765)).toUInt32 >>> ((2 : Int32).toUInt32 &&& Int32.toUInt32 31)).toInt32) &&& 858993459)) + (((((v0 - (((v0.toUInt32 >>> ((1 : Int32).toUInt32 &&& Int32.toUInt32 31)).toInt32) &&& 1431655765)) &&& 858993459) + ((((v0 - (((v0.toUInt32 >>> ((1 : Int32).toUInt32 &&& Int32.toUInt32 31)).toInt32) &&& 1431655765)).toUInt32 >>> ((2 : Int32).toUInt32 &&& Int32.toUInt32 31)).toInt32) &&& 858993459)).toUInt32 >>> ((4 : Int32).toUInt32 &&& Int32.toUInt32 31)).toInt32)) &&& 252645135) + (((((((v0 - (((v0.toUInt32 >>> ((1 : Int32).toUInt32 &&& Int32.toUInt32 31)).toInt32) &&& 1431655765)) &&& 858993459) + ((((v0 - (((v0.toUInt32 >>> ((1 : Int32).toUInt32 &&& Int32.toUInt32 31)).toInt32) &&& 1431655765)).toUInt32 >>> ((2 : Int32).toUInt32 &&& Int32.toUInt32 31)).toInt32) &&& 858993459)) + (((((v0 - (((v0.toUInt32 >>> ((1 : Int32).toUInt32 &&& Int32.toUInt32 31)).toInt32) &&& 1431655765)) &&& 858993459) + ((((v0 - (((v0.toUInt32 >>> ((1 : Int32).toUInt32 &&& Int32.toUInt32 31)).toInt32) &&& 1431655765)).toUInt32 >>> ((2 : Int32).toUInt32 &&& Int32.toUInt32 31)).toInt32) &&& 858993459)).toUInt32 >>> ((4 : Int32).toUInt32 &&& Int32.toUInt32 31)).toInt32)) &&& 252645135).toUInt32 >>> ((8 : Int32).toUInt32 &&& Int32.toUInt32 31)).toInt32)) + ((((((((v0 - (((v0.toUInt32 >>> ((1 : Int32).toUInt32 &&& Int32.toUInt32 31)).toInt32) &&& 1431655765)) &&& 858993459) + ((((v0 - (((v0.toUInt32 >>> ((1 : Int32).toUInt32 &&& Int32.toUInt32 31)).toInt32) &&& 1431655765)).toUInt32 >>> ((2 : Int32).toUInt32 &&& Int32.toUInt32 31)).toInt32) &&& 858993459)) + (((((v0 - (((v0.toUInt32 >>> ((1 : Int32).toUInt32 &&& Int32.toUInt32 31)).toInt32) &&& 1431655765)) &&& 858993459) + ((((v0 - (((v0.toUInt32 >>> ((1 : Int32).toUInt32 &&& Int32.toUInt32 31)).toInt32) &&& 1431655765)).toUInt32 >>> ((2 : Int32).toUInt32 &&& Int32.toUInt32 31)).toInt32) &&& 858993459)).toUInt32 >>> ((4 : Int32).toUInt32 &&& Int32.toUInt32 31)).toInt32)) &&& 252645135) + (((((((v0 - (((v0.toUInt32 >>> ((1 : Int32).toUInt32 &&& Int32.toUInt32 31)).toInt32) &&& 1431655765)) &&& 858993459) + ((((v0 - (((v0.toUInt32 >>> ((1 : Int32).toUInt32 &&& Int32.toUInt32 31)).toInt32) &&& 1431655765)).toUInt32 >>> ((2 : Int32).toUInt32 &&& Int32.toUInt32 31)).toInt32) &&& 858993459)) + (((((v0 - (((v0.toUInt32 >>> ((1 : Int32).toUInt32 &&& Int32.toUInt32 31)).toInt32) &&& 1431655765)) &&& 858993459) + ((((v0 - (((v0.toUInt32 >>> ((1 : Int32).toUInt32 &&& Int32.toUInt32 31)).toInt32) &&& 1431655765)).toUInt32 >>> ((2 : Int32).toUInt32 &&& Int32.toUInt32 31)).toInt32) &&& 858993459)).toUInt32 >>> ((4 : Int32).toUInt32 &&& Int32.toUInt32 31)).toInt32)) &&& 252645135).toUInt32 >>> ((8 : Int32).toUInt32 &&& Int32.toUInt32 31)).toInt32)).toUInt32 >>> ((16 : Int32).toUInt32 &&& Int32.toUInt32 31)).toInt32)) &&& 63)
abbrev rmJ6_bitCount_0f7a4 : Room := { frames := 0, cells := 0, slots := 0, locals := 0 }
theorem pdJ6_bitCount_0f7a4 : (yJ6_bitCount_0f7a4.cls ≠ "java/lang/invoke/MethodHandle" ∧ yJ6_bitCount_0f7a4.cls ≠ "java/lang/invoke/VarHandle" ∧ (parseMethodDescriptor yJ6_bitCount_0f7a4.desc).map (fun d => d.parameters.length) = some 1) := by decide +kernel
set_option maxHeartbeats 4000000 in
set_option maxRecDepth 100000 in
theorem tJ6_bitCount_0f7a4 (l : Launch) (D : va_G) (cI cS : ClassId) (v0 : Int32) (z0 : Int32) (h : fJ6_bitCount_0f7a4 v0 = z0) : Met l yJ6_bitCount_0f7a4 wsJ6_bitCount_0f7a4 rmJ6_bitCount_0f7a4 (PZ D cI cS [.int v0] (fun U => va_P D vwCl ([] : va_W) U.heap)) (vp_Si (fun x => x = z0)) 0 0 (fun _ => False) := by
  refine Met.mk RJ6 (by decide) rfl rfl (Nat.le_of_ble_eq_true rfl) ?_
  intro p e s m below meth c ls C0 hP hl
  have hl : lv_has ls 1 [(0, .int v0)] := hl
  obtain ⟨hx, hb, hr, hml, hown, hts, hlk, hE⟩ := id C0
  rw [fJ6_bitCount_0f7a4] at h
  refine lv_iload_n hx hb dJ6_bitCount_0f7a4_0 rfl (lv_at hl 0 rfl) ?_
  refine lv_iload_n hx hb dJ6_bitCount_0f7a4_1 rfl (lv_at hl 0 rfl) ?_
  refine lv_iconst (v := 1) hx hb dJ6_bitCount_0f7a4_2 (by decide) ?_
  refine lv_iushr (v := (v0.toUInt32 >>> ((1 : Int32).toUInt32 &&& Int32.toUInt32 31)).toInt32) hx hb dJ6_bitCount_0f7a4_3 rfl ?_
  refine lv_ldcw (v := 1431655765) hx hb hown (hts _ (List.mem_of_getElem? (i := 1) rfl)) dJ6_bitCount_0f7a4_4 ?_
  refine lv_iand hx hb dJ6_bitCount_0f7a4_7 ?_
  refine lv_isub hx hb dJ6_bitCount_0f7a4_8 ?_
  refine lv_istore_n (lv' := [(0, .int (v0 - (((v0.toUInt32 >>> ((1 : Int32).toUInt32 &&& Int32.toUInt32 31)).toInt32) &&& 1431655765)))]) hx hb dJ6_bitCount_0f7a4_9 rfl hl (by decide) rfl (fun ls hl => ?_)
  refine lv_iload_n hx hb dJ6_bitCount_0f7a4_10 rfl (lv_at hl 0 rfl) ?_
  refine lv_ldcw (v := 858993459) hx hb hown (hts _ (List.mem_of_getElem? (i := 2) rfl)) dJ6_bitCount_0f7a4_11 ?_
  refine lv_iand hx hb dJ6_bitCount_0f7a4_14 ?_
  refine lv_iload_n hx hb dJ6_bitCount_0f7a4_15 rfl (lv_at hl 0 rfl) ?_
  refine lv_iconst (v := 2) hx hb dJ6_bitCount_0f7a4_16 (by decide) ?_
  refine lv_iushr (v := ((v0 - (((v0.toUInt32 >>> ((1 : Int32).toUInt32 &&& Int32.toUInt32 31)).toInt32) &&& 1431655765)).toUInt32 >>> ((2 : Int32).toUInt32 &&& Int32.toUInt32 31)).toInt32) hx hb dJ6_bitCount_0f7a4_17 rfl ?_
  refine lv_ldcw (v := 858993459) hx hb hown (hts _ (List.mem_of_getElem? (i := 2) rfl)) dJ6_bitCount_0f7a4_18 ?_
  refine lv_iand hx hb dJ6_bitCount_0f7a4_21 ?_
  refine lv_iadd hx hb dJ6_bitCount_0f7a4_22 ?_
  refine lv_istore_n (lv' := [(0, .int (((v0 - (((v0.toUInt32 >>> ((1 : Int32).toUInt32 &&& Int32.toUInt32 31)).toInt32) &&& 1431655765)) &&& 858993459) + ((((v0 - (((v0.toUInt32 >>> ((1 : Int32).toUInt32 &&& Int32.toUInt32 31)).toInt32) &&& 1431655765)).toUInt32 >>> ((2 : Int32).toUInt32 &&& Int32.toUInt32 31)).toInt32) &&& 858993459)))]) hx hb dJ6_bitCount_0f7a4_23 rfl hl (by decide) rfl (fun ls hl => ?_)
  refine lv_iload_n hx hb dJ6_bitCount_0f7a4_24 rfl (lv_at hl 0 rfl) ?_
  refine lv_iload_n hx hb dJ6_bitCount_0f7a4_25 rfl (lv_at hl 0 rfl) ?_
  refine lv_iconst (v := 4) hx hb dJ6_bitCount_0f7a4_26 (by decide) ?_
  refine lv_iushr (v := ((((v0 - (((v0.toUInt32 >>> ((1 : Int32).toUInt32 &&& Int32.toUInt32 31)).toInt32) &&& 1431655765)) &&& 858993459) + ((((v0 - (((v0.toUInt32 >>> ((1 : Int32).toUInt32 &&& Int32.toUInt32 31)).toInt32) &&& 1431655765)).toUInt32 >>> ((2 : Int32).toUInt32 &&& Int32.toUInt32 31)).toInt32) &&& 858993459)).toUInt32 >>> ((4 : Int32).toUInt32 &&& Int32.toUInt32 31)).toInt32) hx hb dJ6_bitCount_0f7a4_27 rfl ?_
  refine lv_iadd hx hb dJ6_bitCount_0f7a4_28 ?_
  refine lv_ldcw (v := 252645135) hx hb hown (hts _ (List.mem_of_getElem? (i := 3) rfl)) dJ6_bitCount_0f7a4_29 ?_
  refine lv_iand hx hb dJ6_bitCount_0f7a4_32 ?_
  refine lv_istore_n (lv' := [(0, .int (((((v0 - (((v0.toUInt32 >>> ((1 : Int32).toUInt32 &&& Int32.toUInt32 31)).toInt32) &&& 1431655765)) &&& 858993459) + ((((v0 - (((v0.toUInt32 >>> ((1 : Int32).toUInt32 &&& Int32.toUInt32 31)).toInt32) &&& 1431655765)).toUInt32 >>> ((2 : Int32).toUInt32 &&& Int32.toUInt32 31)).toInt32) &&& 858993459)) + (((((v0 - (((v0.toUInt32 >>> ((1 : Int32).toUInt32 &&& Int32.toUInt32 31)).toInt32) &&& 1431655765)) &&& 858993459) + ((((v0 - (((v0.toUInt32 >>> ((1 : Int32).toUInt32 &&& Int32.toUInt32 31)).toInt32) &&& 1431655765)).toUInt32 >>> ((2 : Int32).toUInt32 &&& Int32.toUInt32 31)).toInt32) &&& 858993459)).toUInt32 >>> ((4 : Int32).toUInt32 &&& Int32.toUInt32 31)).toInt32)) &&& 252645135))]) hx hb dJ6_bitCount_0f7a4_33 rfl hl (by decide) rfl (fun ls hl => ?_)
  refine lv_iload_n hx hb dJ6_bitCount_0f7a4_34 rfl (lv_at hl 0 rfl) ?_
  refine lv_iload_n hx hb dJ6_bitCount_0f7a4_35 rfl (lv_at hl 0 rfl) ?_
  refine lv_bipush (v := 8) hx hb dJ6_bitCount_0f7a4_36 (by decide) ?_
  refine lv_iushr (v := ((((((v0 - (((v0.toUInt32 >>> ((1 : Int32).toUInt32 &&& Int32.toUInt32 31)).toInt32) &&& 1431655765)) &&& 858993459) + ((((v0 - (((v0.toUInt32 >>> ((1 : Int32).toUInt32 &&& Int32.toUInt32 31)).toInt32) &&& 1431655765)).toUInt32 >>> ((2 : Int32).toUInt32 &&& Int32.toUInt32 31)).toInt32) &&& 858993459)) + (((((v0 - (((v0.toUInt32 >>> ((1 : Int32).toUInt32 &&& Int32.toUInt32 31)).toInt32) &&& 1431655765)) &&& 858993459) + ((((v0 - (((v0.toUInt32 >>> ((1 : Int32).toUInt32 &&& Int32.toUInt32 31)).toInt32) &&& 1431655765)).toUInt32 >>> ((2 : Int32).toUInt32 &&& Int32.toUInt32 31)).toInt32) &&& 858993459)).toUInt32 >>> ((4 : Int32).toUInt32 &&& Int32.toUInt32 31)).toInt32)) &&& 252645135).toUInt32 >>> ((8 : Int32).toUInt32 &&& Int32.toUInt32 31)).toInt32) hx hb dJ6_bitCount_0f7a4_38 rfl ?_
  refine lv_iadd hx hb dJ6_bitCount_0f7a4_39 ?_
  refine lv_istore_n (lv' := [(0, .int ((((((v0 - (((v0.toUInt32 >>> ((1 : Int32).toUInt32 &&& Int32.toUInt32 31)).toInt32) &&& 1431655765)) &&& 858993459) + ((((v0 - (((v0.toUInt32 >>> ((1 : Int32).toUInt32 &&& Int32.toUInt32 31)).toInt32) &&& 1431655765)).toUInt32 >>> ((2 : Int32).toUInt32 &&& Int32.toUInt32 31)).toInt32) &&& 858993459)) + (((((v0 - (((v0.toUInt32 >>> ((1 : Int32).toUInt32 &&& Int32.toUInt32 31)).toInt32) &&& 1431655765)) &&& 858993459) + ((((v0 - (((v0.toUInt32 >>> ((1 : Int32).toUInt32 &&& Int32.toUInt32 31)).toInt32) &&& 1431655765)).toUInt32 >>> ((2 : Int32).toUInt32 &&& Int32.toUInt32 31)).toInt32) &&& 858993459)).toUInt32 >>> ((4 : Int32).toUInt32 &&& Int32.toUInt32 31)).toInt32)) &&& 252645135) + (((((((v0 - (((v0.toUInt32 >>> ((1 : Int32).toUInt32 &&& Int32.toUInt32 31)).toInt32) &&& 1431655765)) &&& 858993459) + ((((v0 - (((v0.toUInt32 >>> ((1 : Int32).toUInt32 &&& Int32.toUInt32 31)).toInt32) &&& 1431655765)).toUInt32 >>> ((2 : Int32).toUInt32 &&& Int32.toUInt32 31)).toInt32) &&& 858993459)) + (((((v0 - (((v0.toUInt32 >>> ((1 : Int32).toUInt32 &&& Int32.toUInt32 31)).toInt32) &&& 1431655765)) &&& 858993459) + ((((v0 - (((v0.toUInt32 >>> ((1 : Int32).toUInt32 &&& Int32.toUInt32 31)).toInt32) &&& 1431655765)).toUInt32 >>> ((2 : Int32).toUInt32 &&& Int32.toUInt32 31)).toInt32) &&& 858993459)).toUInt32 >>> ((4 : Int32).toUInt32 &&& Int32.toUInt32 31)).toInt32)) &&& 252645135).toUInt32 >>> ((8 : Int32).toUInt32 &&& Int32.toUInt32 31)).toInt32)))]) hx hb dJ6_bitCount_0f7a4_40 rfl hl (by decide) rfl (fun ls hl => ?_)
  refine lv_iload_n hx hb dJ6_bitCount_0f7a4_41 rfl (lv_at hl 0 rfl) ?_
  refine lv_iload_n hx hb dJ6_bitCount_0f7a4_42 rfl (lv_at hl 0 rfl) ?_
  refine lv_bipush (v := 16) hx hb dJ6_bitCount_0f7a4_43 (by decide) ?_
  refine lv_iushr (v := (((((((v0 - (((v0.toUInt32 >>> ((1 : Int32).toUInt32 &&& Int32.toUInt32 31)).toInt32) &&& 1431655765)) &&& 858993459) + ((((v0 - (((v0.toUInt32 >>> ((1 : Int32).toUInt32 &&& Int32.toUInt32 31)).toInt32) &&& 1431655765)).toUInt32 >>> ((2 : Int32).toUInt32 &&& Int32.toUInt32 31)).toInt32) &&& 858993459)) + (((((v0 - (((v0.toUInt32 >>> ((1 : Int32).toUInt32 &&& Int32.toUInt32 31)).toInt32) &&& 1431655765)) &&& 858993459) + ((((v0 - (((v0.toUInt32 >>> ((1 : Int32).toUInt32 &&& Int32.toUInt32 31)).toInt32) &&& 1431655765)).toUInt32 >>> ((2 : Int32).toUInt32 &&& Int32.toUInt32 31)).toInt32) &&& 858993459)).toUInt32 >>> ((4 : Int32).toUInt32 &&& Int32.toUInt32 31)).toInt32)) &&& 252645135) + (((((((v0 - (((v0.toUInt32 >>> ((1 : Int32).toUInt32 &&& Int32.toUInt32 31)).toInt32) &&& 1431655765)) &&& 858993459) + ((((v0 - (((v0.toUInt32 >>> ((1 : Int32).toUInt32 &&& Int32.toUInt32 31)).toInt32) &&& 1431655765)).toUInt32 >>> ((2 : Int32).toUInt32 &&& Int32.toUInt32 31)).toInt32) &&& 858993459)) + (((((v0 - (((v0.toUInt32 >>> ((1 : Int32).toUInt32 &&& Int32.toUInt32 31)).toInt32) &&& 1431655765)) &&& 858993459) + ((((v0 - (((v0.toUInt32 >>> ((1 : Int32).toUInt32 &&& Int32.toUInt32 31)).toInt32) &&& 1431655765)).toUInt32 >>> ((2 : Int32).toUInt32 &&& Int32.toUInt32 31)).toInt32) &&& 858993459)).toUInt32 >>> ((4 : Int32).toUInt32 &&& Int32.toUInt32 31)).toInt32)) &&& 252645135).toUInt32 >>> ((8 : Int32).toUInt32 &&& Int32.toUInt32 31)).toInt32)).toUInt32 >>> ((16 : Int32).toUInt32 &&& Int32.toUInt32 31)).toInt32) hx hb dJ6_bitCount_0f7a4_45 rfl ?_
  refine lv_iadd hx hb dJ6_bitCount_0f7a4_46 ?_
  refine lv_istore_n (lv' := [(0, .int (((((((v0 - (((v0.toUInt32 >>> ((1 : Int32).toUInt32 &&& Int32.toUInt32 31)).toInt32) &&& 1431655765)) &&& 858993459) + ((((v0 - (((v0.toUInt32 >>> ((1 : Int32).toUInt32 &&& Int32.toUInt32 31)).toInt32) &&& 1431655765)).toUInt32 >>> ((2 : Int32).toUInt32 &&& Int32.toUInt32 31)).toInt32) &&& 858993459)) + (((((v0 - (((v0.toUInt32 >>> ((1 : Int32).toUInt32 &&& Int32.toUInt32 31)).toInt32) &&& 1431655765)) &&& 858993459) + ((((v0 - (((v0.toUInt32 >>> ((1 : Int32).toUInt32 &&& Int32.toUInt32 31)).toInt32) &&& 1431655765)).toUInt32 >>> ((2 : Int32).toUInt32 &&& Int32.toUInt32 31)).toInt32) &&& 858993459)).toUInt32 >>> ((4 : Int32).toUInt32 &&& Int32.toUInt32 31)).toInt32)) &&& 252645135) + (((((((v0 - (((v0.toUInt32 >>> ((1 : Int32).toUInt32 &&& Int32.toUInt32 31)).toInt32) &&& 1431655765)) &&& 858993459) + ((((v0 - (((v0.toUInt32 >>> ((1 : Int32).toUInt32 &&& Int32.toUInt32 31)).toInt32) &&& 1431655765)).toUInt32 >>> ((2 : Int32).toUInt32 &&& Int32.toUInt32 31)).toInt32) &&& 858993459)) + (((((v0 - (((v0.toUInt32 >>> ((1 : Int32).toUInt32 &&& Int32.toUInt32 31)).toInt32) &&& 1431655765)) &&& 858993459) + ((((v0 - (((v0.toUInt32 >>> ((1 : Int32).toUInt32 &&& Int32.toUInt32 31)).toInt32) &&& 1431655765)).toUInt32 >>> ((2 : Int32).toUInt32 &&& Int32.toUInt32 31)).toInt32) &&& 858993459)).toUInt32 >>> ((4 : Int32).toUInt32 &&& Int32.toUInt32 31)).toInt32)) &&& 252645135).toUInt32 >>> ((8 : Int32).toUInt32 &&& Int32.toUInt32 31)).toInt32)) + ((((((((v0 - (((v0.toUInt32 >>> ((1 : Int32).toUInt32 &&& Int32.toUInt32 31)).toInt32) &&& 1431655765)) &&& 858993459) + ((((v0 - (((v0.toUInt32 >>> ((1 : Int32).toUInt32 &&& Int32.toUInt32 31)).toInt32) &&& 1431655765)).toUInt32 >>> ((2 : Int32).toUInt32 &&& Int32.toUInt32 31)).toInt32) &&& 858993459)) + (((((v0 - (((v0.toUInt32 >>> ((1 : Int32).toUInt32 &&& Int32.toUInt32 31)).toInt32) &&& 1431655765)) &&& 858993459) + ((((v0 - (((v0.toUInt32 >>> ((1 : Int32).toUInt32 &&& Int32.toUInt32 31)).toInt32) &&& 1431655765)).toUInt32 >>> ((2 : Int32).toUInt32 &&& Int32.toUInt32 31)).toInt32) &&& 858993459)).toUInt32 >>> ((4 : Int32).toUInt32 &&& Int32.toUInt32 31)).toInt32)) &&& 252645135) + (((((((v0 - (((v0.toUInt32 >>> ((1 : Int32).toUInt32 &&& Int32.toUInt32 31)).toInt32) &&& 1431655765)) &&& 858993459) + ((((v0 - (((v0.toUInt32 >>> ((1 : Int32).toUInt32 &&& Int32.toUInt32 31)).toInt32) &&& 1431655765)).toUInt32 >>> ((2 : Int32).toUInt32 &&& Int32.toUInt32 31)).toInt32) &&& 858993459)) + (((((v0 - (((v0.toUInt32 >>> ((1 : Int32).toUInt32 &&& Int32.toUInt32 31)).toInt32) &&& 1431655765)) &&& 858993459) + ((((v0 - (((v0.toUInt32 >>> ((1 : Int32).toUInt32 &&& Int32.toUInt32 31)).toInt32) &&& 1431655765)).toUInt32 >>> ((2 : Int32).toUInt32 &&& Int32.toUInt32 31)).toInt32) &&& 858993459)).toUInt32 >>> ((4 : Int32).toUInt32 &&& Int32.toUInt32 31)).toInt32)) &&& 252645135).toUInt32 >>> ((8 : Int32).toUInt32 &&& Int32.toUInt32 31)).toInt32)).toUInt32 >>> ((16 : Int32).toUInt32 &&& Int32.toUInt32 31)).toInt32)))]) hx hb dJ6_bitCount_0f7a4_47 rfl hl (by decide) rfl (fun ls hl => ?_)
  refine lv_iload_n hx hb dJ6_bitCount_0f7a4_48 rfl (lv_at hl 0 rfl) ?_
  refine lv_bipush (v := 63) hx hb dJ6_bitCount_0f7a4_49 (by decide) ?_
  refine lv_iand hx hb dJ6_bitCount_0f7a4_51 ?_
  exact eRi C0 h dJ6_bitCount_0f7a4_52
