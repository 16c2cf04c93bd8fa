/-! THE START: constants, classes -/
theorem inBy {big ws : List Cond} (ps : List Nat) (hp : ws = ps.filterMap (fun i => big[i]?)) : ∀ w ∈ ws, w ∈ big := by
  intro w h
  rw [hp] at h
  obtain ⟨i, -, hi⟩ := List.mem_filterMap.mp h
  exact List.mem_of_getElem? hi
set_option maxRecDepth 100000 in
theorem nwL_in : ∀ w ∈ nwL, w ∈ lw_tbl := inBy [110, 111, 113, 114, 116, 118, 139, 145, 165, 220, 227, 273, 522, 577, 595, 674, 731, 754] (by decide +kernel)
def strC : List Cond := [Cond.stringRef "VaguePort$Kinds" 15 "promise", Cond.stringRef "VaguePort$Kinds" 17 "sermon", Cond.stringRef "VaguePort$Kinds" 19 "will", Cond.stringRef "VaguePort$Kinds" 21 "engagement", Cond.stringRef "VaguePort$Kinds" 23 "plain", Cond.stringRef "VaguePort$Kinds" 25 "law", Cond.stringRef "VaguePort$Kinds" 27 "saying", Cond.stringRef "VaguePort$Tape" 102 "sees", Cond.stringRef "VaguePort$Tape" 104 "fast", Cond.stringRef "VaguePort$Tape" 52 "ship", Cond.stringRef "VaguePort$Tape" 62 "finish", Cond.stringRef "VaguePort$Tape" 81 "at", Cond.stringRef "VaguePort$Tape" 87 "said", Cond.stringRef "VaguePort$Tape" 97 "finished", Cond.stringRef "VaguePortModel" 27 "saying", Cond.stringRef "VaguePortModel" 29 "promise", Cond.stringRef "VaguePortModel" 303 "at", Cond.stringRef "VaguePortModel" 308 "said", Cond.stringRef "VaguePortModel" 31 "sermon", Cond.stringRef "VaguePortModel" 310 "finished", Cond.stringRef "VaguePortModel" 319 "sees", Cond.stringRef "VaguePortModel" 321 "fast", Cond.stringRef "VaguePortModel" 326 "ship", Cond.stringRef "VaguePortModel" 33 "will", Cond.stringRef "VaguePortModel" 331 "finish", Cond.stringRef "VaguePortModel" 35 "engagement", Cond.stringRef "VaguePortModel" 37 "plain", Cond.stringRef "VaguePortModel" 39 "law"]
set_option maxRecDepth 100000 in
theorem strC_in : ∀ w ∈ strC, w ∈ lw_tbl := inBy [607, 608, 609, 610, 611, 612, 613, 689, 690, 684, 692, 675, 680, 683, 797, 798, 1230, 1235, 799, 1236, 1246, 1247, 1241, 800, 1248, 801, 802, 803] (by decide +kernel)
set_option maxRecDepth 100000 in
theorem sr_stH {s : State} {b : Nat} {A : Nat → Prop} (hts : ∀ w ∈ lw_tbl, w.before #[Value.ref b] s = true) (hgv : (Jvm.Cond.and given_1 narrow_1).before #[Value.ref b] s = true) (hA : ∀ a : Nat, a < s.heap.size → ¬ A a) : ∃ t : Nat, va_Z "VaguePort" "HIGHEST_OF_SAYING" "[I" (.ref t) A s s.heap ∧ va_T .int t 5 (fun j => .int (stH j)) A s s.heap := by
  have hs := flat_of_before _ hgv
  obtain ⟨t, h1, h2⟩ := va_Tof (args := #[Value.ref b]) (s := s) (tm := Term.static "VaguePort" "HIGHEST_OF_SAYING" "[I") (ty := .int) (N := 5) (f := fun j => .int (stH j)) (A := A) (by decide) (hs (Cond.arrayOf (Term.static "VaguePort" "HIGHEST_OF_SAYING" "[I") FieldType.int) (List.mem_of_getElem? (i := 5) (by decide +kernel))) (va_eqt (hs (Cond.eq (Term.length (Term.static "VaguePort" "HIGHEST_OF_SAYING" "[I")) (Term.int 5)) (List.mem_of_getElem? (i := 6) (by decide +kernel)))) (fun j hj => by
    match j, hj with
    | 0, _ => exact va_eqt (z := 6) (hs (Cond.eq (Term.elem (Term.static "VaguePort" "HIGHEST_OF_SAYING" "[I") (Term.int 0)) (Term.int 6)) (List.mem_of_getElem? (i := 7) (by decide +kernel)))
    | 1, _ => exact va_eqt (z := 15) (hs (Cond.eq (Term.elem (Term.static "VaguePort" "HIGHEST_OF_SAYING" "[I") (Term.int 1)) (Term.int 15)) (List.mem_of_getElem? (i := 8) (by decide +kernel)))
    | 2, _ => exact va_eqt (z := 99) (hs (Cond.eq (Term.elem (Term.static "VaguePort" "HIGHEST_OF_SAYING" "[I") (Term.int 2)) (Term.int 99)) (List.mem_of_getElem? (i := 9) (by decide +kernel)))
    | 3, _ => exact va_eqt (z := 1) (hs (Cond.eq (Term.elem (Term.static "VaguePort" "HIGHEST_OF_SAYING" "[I") (Term.int 3)) (Term.int 1)) (List.mem_of_getElem? (i := 10) (by decide +kernel)))
    | 4, _ => exact va_eqt (z := 9999) (hs (Cond.eq (Term.elem (Term.static "VaguePort" "HIGHEST_OF_SAYING" "[I") (Term.int 4)) (Term.int 9999)) (List.mem_of_getElem? (i := 11) (by decide +kernel)))
    | j + 5, hj => exact absurd hj (by omega)) hA
  exact ⟨t, va_Zref (hts (Cond.laysStatic "VaguePort" "HIGHEST_OF_SAYING" "[I") (List.mem_of_getElem? (i := 299) (by decide +kernel))) (hts (Cond.initialized "VaguePort") (List.mem_of_getElem? (i := 74) (by decide +kernel))) h1 hA, h2⟩
set_option maxRecDepth 100000 in
theorem sr_stL {s : State} {b : Nat} {A : Nat → Prop} (hts : ∀ w ∈ lw_tbl, w.before #[Value.ref b] s = true) (hgv : (Jvm.Cond.and given_1 narrow_1).before #[Value.ref b] s = true) (hA : ∀ a : Nat, a < s.heap.size → ¬ A a) : ∃ t : Nat, va_Z "VaguePort" "LOWEST_OF_SHIP" "[I" (.ref t) A s s.heap ∧ va_T .int t 4 (fun j => .int (stL j)) A s s.heap := by
  have hs := flat_of_before _ hgv
  obtain ⟨t, h1, h2⟩ := va_Tof (args := #[Value.ref b]) (s := s) (tm := Term.static "VaguePort" "LOWEST_OF_SHIP" "[I") (ty := .int) (N := 4) (f := fun j => .int (stL j)) (A := A) (by decide) (hs (Cond.arrayOf (Term.static "VaguePort" "LOWEST_OF_SHIP" "[I") FieldType.int) (List.mem_of_getElem? (i := 13) (by decide +kernel))) (va_eqt (hs (Cond.eq (Term.length (Term.static "VaguePort" "LOWEST_OF_SHIP" "[I")) (Term.int 4)) (List.mem_of_getElem? (i := 14) (by decide +kernel)))) (fun j hj => by
    match j, hj with
    | 0, _ => exact va_eqt (z := 0) (hs (Cond.eq (Term.elem (Term.static "VaguePort" "LOWEST_OF_SHIP" "[I") (Term.int 0)) (Term.int 0)) (List.mem_of_getElem? (i := 15) (by decide +kernel)))
    | 1, _ => exact va_eqt (z := 0) (hs (Cond.eq (Term.elem (Term.static "VaguePort" "LOWEST_OF_SHIP" "[I") (Term.int 1)) (Term.int 0)) (List.mem_of_getElem? (i := 16) (by decide +kernel)))
    | 2, _ => exact va_eqt (z := 1) (hs (Cond.eq (Term.elem (Term.static "VaguePort" "LOWEST_OF_SHIP" "[I") (Term.int 2)) (Term.int 1)) (List.mem_of_getElem? (i := 17) (by decide +kernel)))
    | 3, _ => exact va_eqt (z := 0) (hs (Cond.eq (Term.elem (Term.static "VaguePort" "LOWEST_OF_SHIP" "[I") (Term.int 3)) (Term.int 0)) (List.mem_of_getElem? (i := 18) (by decide +kernel)))
    | j + 4, hj => exact absurd hj (by omega)) hA
  exact ⟨t, va_Zref (hts (Cond.laysStatic "VaguePort" "LOWEST_OF_SHIP" "[I") (List.mem_of_getElem? (i := 320) (by decide +kernel))) (hts (Cond.initialized "VaguePort") (List.mem_of_getElem? (i := 74) (by decide +kernel))) h1 hA, h2⟩
set_option maxRecDepth 100000 in
theorem sr_stM {s : State} {b : Nat} {A : Nat → Prop} (hts : ∀ w ∈ lw_tbl, w.before #[Value.ref b] s = true) (hgv : (Jvm.Cond.and given_1 narrow_1).before #[Value.ref b] s = true) (hA : ∀ a : Nat, a < s.heap.size → ¬ A a) : ∃ t : Nat, va_Z "VaguePort" "HIGHEST_OF_SHIP" "[I" (.ref t) A s s.heap ∧ va_T .int t 4 (fun j => .int (stM j)) A s s.heap := by
  have hs := flat_of_before _ hgv
  obtain ⟨t, h1, h2⟩ := va_Tof (args := #[Value.ref b]) (s := s) (tm := Term.static "VaguePort" "HIGHEST_OF_SHIP" "[I") (ty := .int) (N := 4) (f := fun j => .int (stM j)) (A := A) (by decide) (hs (Cond.arrayOf (Term.static "VaguePort" "HIGHEST_OF_SHIP" "[I") FieldType.int) (List.mem_of_getElem? (i := 20) (by decide +kernel))) (va_eqt (hs (Cond.eq (Term.length (Term.static "VaguePort" "HIGHEST_OF_SHIP" "[I")) (Term.int 4)) (List.mem_of_getElem? (i := 21) (by decide +kernel)))) (fun j hj => by
    match j, hj with
    | 0, _ => exact va_eqt (z := 15) (hs (Cond.eq (Term.elem (Term.static "VaguePort" "HIGHEST_OF_SHIP" "[I") (Term.int 0)) (Term.int 15)) (List.mem_of_getElem? (i := 22) (by decide +kernel)))
    | 1, _ => exact va_eqt (z := 99) (hs (Cond.eq (Term.elem (Term.static "VaguePort" "HIGHEST_OF_SHIP" "[I") (Term.int 1)) (Term.int 99)) (List.mem_of_getElem? (i := 23) (by decide +kernel)))
    | 2, _ => exact va_eqt (z := 5) (hs (Cond.eq (Term.elem (Term.static "VaguePort" "HIGHEST_OF_SHIP" "[I") (Term.int 2)) (Term.int 5)) (List.mem_of_getElem? (i := 24) (by decide +kernel)))
    | 3, _ => exact va_eqt (z := 9999) (hs (Cond.eq (Term.elem (Term.static "VaguePort" "HIGHEST_OF_SHIP" "[I") (Term.int 3)) (Term.int 9999)) (List.mem_of_getElem? (i := 25) (by decide +kernel)))
    | j + 4, hj => exact absurd hj (by omega)) hA
  exact ⟨t, va_Zref (hts (Cond.laysStatic "VaguePort" "HIGHEST_OF_SHIP" "[I") (List.mem_of_getElem? (i := 322) (by decide +kernel))) (hts (Cond.initialized "VaguePort") (List.mem_of_getElem? (i := 74) (by decide +kernel))) h1 hA, h2⟩
set_option maxRecDepth 100000 in
theorem cst_start {s : State} {b : Nat} {A : Nat → Prop} (hts : ∀ w ∈ lw_tbl, w.before #[Value.ref b] s = true) (hgv : (Jvm.Cond.and given_1 narrow_1).before #[Value.ref b] s = true) (hA : ∀ a : Nat, a < s.heap.size → ¬ A a) : ∃ cs : CSt, CST cs A s s.heap := by
  have hs := flat_of_before _ hgv
  obtain ⟨K0, V0, h0, p0, m0⟩ := st_0 hgv hA
  obtain ⟨K1, V1, h1, p1, m1⟩ := st_1 hgv hA
  obtain ⟨K2, V2, h2, p2, m2⟩ := st_2 hgv hA
  obtain ⟨K3, V3, h3, p3, m3⟩ := st_3 hgv hA
  obtain ⟨K4, V4, h4, p4, m4⟩ := st_4 hgv hA
  obtain ⟨K5, V5, h5, p5, m5⟩ := st_5 hgv hA
  obtain ⟨K6, V6, h6, p6, m6⟩ := st_6 hgv hA
  obtain ⟨K7, V7, h7, p7, m7⟩ := st_7 hgv hA
  obtain ⟨K8, V8, h8, p8, m8⟩ := st_8 hgv hA
  obtain ⟨K9, V9, h9, p9, m9⟩ := st_9 hgv hA
  obtain ⟨K10, V10, h10, p10, m10⟩ := st_10 hgv hA
  obtain ⟨K11, V11, h11, p11, m11⟩ := st_11 hgv hA
  obtain ⟨K12, V12, h12, p12, m12⟩ := st_12 hgv hA
  obtain ⟨K13, V13, h13, p13, m13⟩ := st_13 hgv hA
  obtain ⟨tstH, zstH, ystH⟩ := sr_stH hts hgv hA
  obtain ⟨tstL, zstL, ystL⟩ := sr_stL hts hgv hA
  obtain ⟨tstM, zstM, ystM⟩ := sr_stM hts hgv hA
  refine ⟨(fun i => [K0, K1, K2, K3, K4, K5, K6, K7, K8, K9, K10, K11, K12, K13].getD i 0, fun i => [V0, V1, V2, V3, V4, V5, V6, V7, V8, V9, V10, V11, V12, V13].getD i 0, tstH, tstL, tstM), ?_, ?_, ?_, ?_, ⟨zstH, ystH⟩, ⟨zstL, ystL⟩, ⟨zstM, ystM⟩⟩
  · intro i hi
    match i, hi with
    | 0, _ => exact h0
    | 1, _ => exact h1
    | 2, _ => exact h2
    | 3, _ => exact h3
    | 4, _ => exact h4
    | 5, _ => exact h5
    | 6, _ => exact h6
    | 7, _ => exact h7
    | 8, _ => exact h8
    | 9, _ => exact h9
    | 10, _ => exact h10
    | 11, _ => exact h11
    | 12, _ => exact h12
    | 13, _ => exact h13
    | i + 14, hi => exact absurd hi (by omega)
  · exact va_Zof (hts (Cond.laysStatic "java/lang/String" "COMPACT_STRINGS" "Z") (List.mem_of_getElem? (i := 627) (by decide +kernel))) (hts (Cond.initialized "java/lang/String") (List.mem_of_getElem? (i := 84) (by decide +kernel))) (va_eqi (hs (Cond.eq (Term.static "java/lang/String" "COMPACT_STRINGS" "Z") (Term.int 1)) (List.mem_of_getElem? (i := 26) (by decide +kernel)))) hA
  · exact va_Zqof (hts (Cond.laysStatic "jdk/internal/util/Preconditions" "SIOOBE_FORMATTER" "Ljava/util/function/BiFunction;") (List.mem_of_getElem? (i := 643) (by decide +kernel))) (hts (Cond.initialized "jdk/internal/util/Preconditions") (List.mem_of_getElem? (i := 86) (by decide +kernel))) (hs (Cond.isRef (Term.static "jdk/internal/util/Preconditions" "SIOOBE_FORMATTER" "Ljava/util/function/BiFunction;")) (List.mem_of_getElem? (i := 27) (by decide +kernel))) hA
  · exact List.forall_mem_cons.mpr ⟨vk_R.of (A := #[Value.ref b]) (hts _ (strC_in _ (List.mem_of_getElem? (i := 0) rfl))) p1, List.forall_mem_cons.mpr ⟨vk_R.of (A := #[Value.ref b]) (hts _ (strC_in _ (List.mem_of_getElem? (i := 1) rfl))) p2, List.forall_mem_cons.mpr ⟨vk_R.of (A := #[Value.ref b]) (hts _ (strC_in _ (List.mem_of_getElem? (i := 2) rfl))) p3, List.forall_mem_cons.mpr ⟨vk_R.of (A := #[Value.ref b]) (hts _ (strC_in _ (List.mem_of_getElem? (i := 3) rfl))) p4, List.forall_mem_cons.mpr ⟨vk_R.of (A := #[Value.ref b]) (hts _ (strC_in _ (List.mem_of_getElem? (i := 4) rfl))) p5, List.forall_mem_cons.mpr ⟨vk_R.of (A := #[Value.ref b]) (hts _ (strC_in _ (List.mem_of_getElem? (i := 5) rfl))) p6, List.forall_mem_cons.mpr ⟨vk_R.of (A := #[Value.ref b]) (hts _ (strC_in _ (List.mem_of_getElem? (i := 6) rfl))) p0, List.forall_mem_cons.mpr ⟨vk_R.of (A := #[Value.ref b]) (hts _ (strC_in _ (List.mem_of_getElem? (i := 7) rfl))) p12, List.forall_mem_cons.mpr ⟨vk_R.of (A := #[Value.ref b]) (hts _ (strC_in _ (List.mem_of_getElem? (i := 8) rfl))) p13, List.forall_mem_cons.mpr ⟨vk_R.of (A := #[Value.ref b]) (hts _ (strC_in _ (List.mem_of_getElem? (i := 9) rfl))) p7, List.forall_mem_cons.mpr ⟨vk_R.of (A := #[Value.ref b]) (hts _ (strC_in _ (List.mem_of_getElem? (i := 10) rfl))) p8, List.forall_mem_cons.mpr ⟨vk_R.of (A := #[Value.ref b]) (hts _ (strC_in _ (List.mem_of_getElem? (i := 11) rfl))) p9, List.forall_mem_cons.mpr ⟨vk_R.of (A := #[Value.ref b]) (hts _ (strC_in _ (List.mem_of_getElem? (i := 12) rfl))) p10, List.forall_mem_cons.mpr ⟨vk_R.of (A := #[Value.ref b]) (hts _ (strC_in _ (List.mem_of_getElem? (i := 13) rfl))) p11, List.forall_mem_cons.mpr ⟨vk_R.of (A := #[Value.ref b]) (hts _ (strC_in _ (List.mem_of_getElem? (i := 14) rfl))) m0, List.forall_mem_cons.mpr ⟨vk_R.of (A := #[Value.ref b]) (hts _ (strC_in _ (List.mem_of_getElem? (i := 15) rfl))) m1, List.forall_mem_cons.mpr ⟨vk_R.of (A := #[Value.ref b]) (hts _ (strC_in _ (List.mem_of_getElem? (i := 16) rfl))) m9, List.forall_mem_cons.mpr ⟨vk_R.of (A := #[Value.ref b]) (hts _ (strC_in _ (List.mem_of_getElem? (i := 17) rfl))) m10, List.forall_mem_cons.mpr ⟨vk_R.of (A := #[Value.ref b]) (hts _ (strC_in _ (List.mem_of_getElem? (i := 18) rfl))) m2, List.forall_mem_cons.mpr ⟨vk_R.of (A := #[Value.ref b]) (hts _ (strC_in _ (List.mem_of_getElem? (i := 19) rfl))) m11, List.forall_mem_cons.mpr ⟨vk_R.of (A := #[Value.ref b]) (hts _ (strC_in _ (List.mem_of_getElem? (i := 20) rfl))) m12, List.forall_mem_cons.mpr ⟨vk_R.of (A := #[Value.ref b]) (hts _ (strC_in _ (List.mem_of_getElem? (i := 21) rfl))) m13, List.forall_mem_cons.mpr ⟨vk_R.of (A := #[Value.ref b]) (hts _ (strC_in _ (List.mem_of_getElem? (i := 22) rfl))) m7, List.forall_mem_cons.mpr ⟨vk_R.of (A := #[Value.ref b]) (hts _ (strC_in _ (List.mem_of_getElem? (i := 23) rfl))) m3, List.forall_mem_cons.mpr ⟨vk_R.of (A := #[Value.ref b]) (hts _ (strC_in _ (List.mem_of_getElem? (i := 24) rfl))) m8, List.forall_mem_cons.mpr ⟨vk_R.of (A := #[Value.ref b]) (hts _ (strC_in _ (List.mem_of_getElem? (i := 25) rfl))) m4, List.forall_mem_cons.mpr ⟨vk_R.of (A := #[Value.ref b]) (hts _ (strC_in _ (List.mem_of_getElem? (i := 26) rfl))) m5, List.forall_mem_cons.mpr ⟨vk_R.of (A := #[Value.ref b]) (hts _ (strC_in _ (List.mem_of_getElem? (i := 27) rfl))) m6, fun _ h => absurd h List.not_mem_nil⟩⟩⟩⟩⟩⟩⟩⟩⟩⟩⟩⟩⟩⟩⟩⟩⟩⟩⟩⟩⟩⟩⟩⟩⟩⟩⟩⟩
set_option maxRecDepth 100000 in
theorem ev_start {s : State} {b : Nat} (hts : ∀ w ∈ lw_tbl, w.before #[Value.ref b] s = true) : ∃ (D : va_G) (cI cS : ClassId), EV D cI cS s := by
  obtain ⟨c0, f0, k0⟩ := u_known (C := RX0) (T := TX0) (N := 8) (n := 8) hts wi_wsX00 (hts (Cond.instantiable RX0 8) (List.mem_of_getElem? (i := 97) (by decide +kernel)))
  obtain ⟨c2, f2, k2⟩ := u_known (C := RX2) (T := TX2) (N := 3) (n := 3) hts wi_wsX20 (hts (Cond.instantiable RX2 3) (List.mem_of_getElem? (i := 164) (by decide +kernel)))
  obtain ⟨c3, f3, k3⟩ := u_known (C := RX3) (T := TX3) (N := 6) (n := 6) hts wi_wsX30 (hts (Cond.instantiable RX3 6) (List.mem_of_getElem? (i := 138) (by decide +kernel)))
  obtain ⟨c4, f4, k4⟩ := u_known (C := RX4) (T := TX4) (N := 7) (n := 7) hts wi_wsX40 (hts (Cond.instantiable RX4 7) (List.mem_of_getElem? (i := 89) (by decide +kernel)))
  obtain ⟨c5, f5, k5⟩ := u_known (C := RX5) (T := TX5) (N := 21) (n := 21) hts wi_wsX50 (hts (Cond.instantiable RX5 21) (List.mem_of_getElem? (i := 790) (by decide +kernel)))
  obtain ⟨cI, kI, qI, i1, i2, i3⟩ := Cond.arrayClass_spec (hts (Cond.arrayClass FieldType.int) (List.mem_of_getElem? (i := 136) (by decide +kernel)))
  obtain ⟨cm, cS, kS, s1, -, s3, s4, s5⟩ := Cond.arrayOver_spec (hts (Cond.arrayOver (FieldType.object "java/lang/String")) (List.mem_of_getElem? (i := 796) (by decide +kernel)))
  refine ⟨(fun k => if k = 0 then c0 else if k = 1 then c2 else if k = 2 then c3 else if k = 3 then c4 else c5, fun k => if k = 0 then f0 else if k = 1 then f2 else if k = 2 then f3 else if k = 3 then f4 else f5), cI, cS, ⟨?_, ?_⟩, ?_⟩
  · intro k q hq
    match k, hq with
    | 0, hq => cases hq; exact k0
    | 1, hq => cases hq; exact k2
    | 2, hq => cases hq; exact k3
    | 3, hq => cases hq; exact k4
    | 4, hq => cases hq; exact k5
    | k + 5, hq => simp [vwCl] at hq
  · intro k q hq
    match k, hq with
    | 0, hq => cases hq; exact ⟨fun n z => ⟨(fun k h => by cases h), kI, i2, qI, i3⟩, i1⟩
    | 1, hq => cases hq; exact ⟨fun n z => ⟨(fun k h => by cases h), kS, s3, cm, s4⟩, kS, cm, s3, s4, s1, s5⟩
    | k + 2, hq => simp at hq
  · exact fun w hw => va_Nw.of (nwL_tab w hw) (hts w (nwL_in w hw))
