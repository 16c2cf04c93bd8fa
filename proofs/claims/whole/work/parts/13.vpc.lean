def fX1_wordOf (v0 : Int32) : Nat := (if v0 = 1 then 1 else if v0 = 2 then 2 else if v0 = 3 then 3 else if v0 = 4 then 4 else if v0 = 5 then 5 else if v0 = 6 then 6 else 0)
abbrev rmX1_wordOf : Room := { frames := 0, cells := 0, slots := 0, locals := 0 }
theorem pdX1_wordOf : (yX1_wordOf.cls ≠ "java/lang/invoke/MethodHandle" ∧ yX1_wordOf.cls ≠ "java/lang/invoke/VarHandle" ∧ (parseMethodDescriptor yX1_wordOf.desc).map (fun d => d.parameters.length) = some 1) := by decide +kernel
set_option maxHeartbeats 4000000 in
set_option maxRecDepth 100000 in
theorem tX1_wordOf (l : Launch) (D : va_G) (cI cS : ClassId) (cs : CSt) (v0 : Int32) (z0 : Nat) (h : fX1_wordOf v0 = z0) : Met l yX1_wordOf wsX1_wordOf rmX1_wordOf (PZ D cI cS [.int v0] (fun U => va_P D vwCl ([] : va_W) U.heap ∧ CST cs NoA U U.heap)) (qS cs z0) 0 0 (fun _ => False) := by
  refine Met.mk RX1 (by decide) rfl rfl (Nat.le_of_ble_eq_true rfl) ?_
  intro p e s m below meth c ls C0 hP hl
  obtain ⟨hP, hCS⟩ := hP
  have hl : lv_has ls 1 [(0, .int v0)] := hl
  obtain ⟨hx, hb, hr, hml, hown, hts, hlk, hE⟩ := id C0
  have hS : va_S NoA s.heap s.heap [] := va_S.rf
  rw [fX1_wordOf] at h
  refine lv_iload_n hx hb dX1_wordOf_0 rfl (lv_at hl 0 rfl) ?_
  by_cases c_1 : v0 = 1
  · have h := ifp c_1 h
    refine lv_tableIn (tgt := 40) hx hb dX1_wordOf_1 (by rw [c_1]; decide) (by rw [c_1]; decide) (by rw [c_1]; rfl) (by decide) ?_
    refine va_ldcS hx hb hown (show vk_R RX1 15 "promise" (cs.1 1) s from hCS.2.2.2.1 ("VaguePort$Kinds", 15, "promise", 1) (List.mem_of_getElem? (i := 0) rfl)) dX1_wordOf_40 ?_
    subst h
    exact eRs C0 dX1_wordOf_42
  have h := ifn c_1 h
  by_cases c_2 : v0 = 2
  · have h := ifp c_2 h
    refine lv_tableIn (tgt := 43) hx hb dX1_wordOf_1 (by rw [c_2]; decide) (by rw [c_2]; decide) (by rw [c_2]; rfl) (by decide) ?_
    refine va_ldcS hx hb hown (show vk_R RX1 17 "sermon" (cs.1 2) s from hCS.2.2.2.1 ("VaguePort$Kinds", 17, "sermon", 2) (List.mem_of_getElem? (i := 1) rfl)) dX1_wordOf_43 ?_
    subst h
    exact eRs C0 dX1_wordOf_45
  have h := ifn c_2 h
  by_cases c_3 : v0 = 3
  · have h := ifp c_3 h
    refine lv_tableIn (tgt := 46) hx hb dX1_wordOf_1 (by rw [c_3]; decide) (by rw [c_3]; decide) (by rw [c_3]; rfl) (by decide) ?_
    refine va_ldcS hx hb hown (show vk_R RX1 19 "will" (cs.1 3) s from hCS.2.2.2.1 ("VaguePort$Kinds", 19, "will", 3) (List.mem_of_getElem? (i := 2) rfl)) dX1_wordOf_46 ?_
    subst h
    exact eRs C0 dX1_wordOf_48
  have h := ifn c_3 h
  by_cases c_4 : v0 = 4
  · have h := ifp c_4 h
    refine lv_tableIn (tgt := 49) hx hb dX1_wordOf_1 (by rw [c_4]; decide) (by rw [c_4]; decide) (by rw [c_4]; rfl) (by decide) ?_
    refine va_ldcS hx hb hown (show vk_R RX1 21 "engagement" (cs.1 4) s from hCS.2.2.2.1 ("VaguePort$Kinds", 21, "engagement", 4) (List.mem_of_getElem? (i := 3) rfl)) dX1_wordOf_49 ?_
    subst h
    exact eRs C0 dX1_wordOf_51
  have h := ifn c_4 h
  by_cases c_5 : v0 = 5
  · have h := ifp c_5 h
    refine lv_tableIn (tgt := 52) hx hb dX1_wordOf_1 (by rw [c_5]; decide) (by rw [c_5]; decide) (by rw [c_5]; rfl) (by decide) ?_
    refine va_ldcS hx hb hown (show vk_R RX1 23 "plain" (cs.1 5) s from hCS.2.2.2.1 ("VaguePort$Kinds", 23, "plain", 5) (List.mem_of_getElem? (i := 4) rfl)) dX1_wordOf_52 ?_
    subst h
    exact eRs C0 dX1_wordOf_54
  have h := ifn c_5 h
  by_cases c_6 : v0 = 6
  · have h := ifp c_6 h
    refine lv_tableIn (tgt := 55) hx hb dX1_wordOf_1 (by rw [c_6]; decide) (by rw [c_6]; decide) (by rw [c_6]; rfl) (by decide) ?_
    refine va_ldcS hx hb hown (show vk_R RX1 25 "law" (cs.1 6) s from hCS.2.2.2.1 ("VaguePort$Kinds", 25, "law", 6) (List.mem_of_getElem? (i := 5) rfl)) dX1_wordOf_55 ?_
    subst h
    exact eRs C0 dX1_wordOf_57
  have h := ifn c_6 h
  refine lv_tableOut (tgt := 58) hx hb dX1_wordOf_1 (tb0 (tbS (k := 1) (by decide) c_1 (tbS (k := 2) (by decide) c_2 (tbS (k := 3) (by decide) c_3 (tbS (k := 4) (by decide) c_4 (tbS (k := 5) (by decide) c_5 (tbS (k := 6) (by decide) c_6 (tbE (by decide))))))))) (by decide) ?_
  refine va_ldcS hx hb hown (show vk_R RX1 27 "saying" (cs.1 0) s from hCS.2.2.2.1 ("VaguePort$Kinds", 27, "saying", 0) (List.mem_of_getElem? (i := 6) rfl)) dX1_wordOf_58 ?_
  subst h
  exact eRs C0 dX1_wordOf_60
theorem ltX1_wordOf (v0 : Int32) : fX1_wordOf v0 < 14 := by unfold fX1_wordOf; (repeat' split) <;> decide
