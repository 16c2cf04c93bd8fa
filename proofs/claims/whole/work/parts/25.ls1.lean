/-! THE START: its strings -/
theorem vk_S1 {len : List Nat} {byt : List (List Int32)} {K V : Nat → Nat} {A : Nat → Prop} {U : State} {H : Heap} (h : vk_S 1 len byt K V A U H) : vk_S 1 len byt (fun _ => K 0) (fun _ => V 0) A U H :=
  ⟨fun i hi => by
    have e9 : i = 0 := by omega
    subst e9
    exact h.1 0 hi, fun i j hi hj _ => by omega⟩
set_option maxRecDepth 100000 in
theorem st_0 {s : State} {b : Nat} {A : Nat → Prop} (hgv : (Jvm.Cond.and given_1 narrow_1).before #[Value.ref b] s = true) (hA : ∀ a : Nat, a < s.heap.size → ¬ A a) : ∃ K V : Nat, vk_S 1 [6] [[115, 97, 121, 105, 110, 103]] (fun _ => K) (fun _ => V) A s s.heap ∧ (Term.string "VaguePort$Kinds" 27).eval #[Value.ref b] s none [] s = some (.ref K) ∧ (Term.string "VaguePortModel" 27).eval #[Value.ref b] s none [] s = some (.ref K) := by
  have hs := flat_of_before _ hgv
  obtain ⟨K, V, h1, h2⟩ := vk_Sof (args := #[Value.ref b]) (s := s) (N := 1) (tm := fun _ => Term.string "VaguePort$Kinds" 27) (len := [6]) (byt := [[115, 97, 121, 105, 110, 103]]) (A := A) (fun i hi => by
      have e9 : i = 0 := by omega
      subst e9
      decide)
    (fun i hi => (hs (Cond.exactly (Term.string "VaguePort$Kinds" 27) "java/lang/String") (List.mem_of_getElem? (i := 90) (by decide +kernel))))
    (fun i hi => (hs (Cond.eq (Term.field (Term.string "VaguePort$Kinds" 27) "java/lang/String" "coder" "B") (Term.int 0)) (List.mem_of_getElem? (i := 91) (by decide +kernel))))
    (fun i hi => (hs (Cond.arrayOf (Term.field (Term.string "VaguePort$Kinds" 27) "java/lang/String" "value" "[B") FieldType.byte) (List.mem_of_getElem? (i := 92) (by decide +kernel))))
    (fun i hi => by
      have e9 : i = 0 := by omega
      subst e9
      exact (hs (Cond.eq (Term.length (Term.field (Term.string "VaguePort$Kinds" 27) "java/lang/String" "value" "[B")) (Term.int 6)) (List.mem_of_getElem? (i := 93) (by decide +kernel))))
    (fun i hi j hj => by
      have e9 : i = 0 := by omega
      subst e9
      have hj : j < 6 := hj
      match j, hj with
      | 0, _ => exact (hs (Cond.eq (Term.elem (Term.field (Term.string "VaguePort$Kinds" 27) "java/lang/String" "value" "[B") (Term.int 0)) (Term.int 115)) (List.mem_of_getElem? (i := 94) (by decide +kernel)))
      | 1, _ => exact (hs (Cond.eq (Term.elem (Term.field (Term.string "VaguePort$Kinds" 27) "java/lang/String" "value" "[B") (Term.int 1)) (Term.int 97)) (List.mem_of_getElem? (i := 95) (by decide +kernel)))
      | 2, _ => exact (hs (Cond.eq (Term.elem (Term.field (Term.string "VaguePort$Kinds" 27) "java/lang/String" "value" "[B") (Term.int 2)) (Term.int 121)) (List.mem_of_getElem? (i := 96) (by decide +kernel)))
      | 3, _ => exact (hs (Cond.eq (Term.elem (Term.field (Term.string "VaguePort$Kinds" 27) "java/lang/String" "value" "[B") (Term.int 3)) (Term.int 105)) (List.mem_of_getElem? (i := 97) (by decide +kernel)))
      | 4, _ => exact (hs (Cond.eq (Term.elem (Term.field (Term.string "VaguePort$Kinds" 27) "java/lang/String" "value" "[B") (Term.int 4)) (Term.int 110)) (List.mem_of_getElem? (i := 98) (by decide +kernel)))
      | 5, _ => exact (hs (Cond.eq (Term.elem (Term.field (Term.string "VaguePort$Kinds" 27) "java/lang/String" "value" "[B") (Term.int 5)) (Term.int 103)) (List.mem_of_getElem? (i := 99) (by decide +kernel)))
      | j + 6, hj => exact absurd hj (by omega))
    (fun i j hi hj h => absurd (by omega) h) hA
  exact ⟨K 0, V 0, vk_S1 h1, h2 0 (by decide), va_eqR (hs (Cond.eq (Term.string "VaguePort$Kinds" 27) (Term.string "VaguePortModel" 27)) (List.mem_of_getElem? (i := 170) (by decide +kernel))) (h2 0 (by decide))⟩
set_option maxRecDepth 100000 in
theorem st_1 {s : State} {b : Nat} {A : Nat → Prop} (hgv : (Jvm.Cond.and given_1 narrow_1).before #[Value.ref b] s = true) (hA : ∀ a : Nat, a < s.heap.size → ¬ A a) : ∃ K V : Nat, vk_S 1 [7] [[112, 114, 111, 109, 105, 115, 101]] (fun _ => K) (fun _ => V) A s s.heap ∧ (Term.string "VaguePort$Kinds" 15).eval #[Value.ref b] s none [] s = some (.ref K) ∧ (Term.string "VaguePortModel" 29).eval #[Value.ref b] s none [] s = some (.ref K) := by
  have hs := flat_of_before _ hgv
  obtain ⟨K, V, h1, h2⟩ := vk_Sof (args := #[Value.ref b]) (s := s) (N := 1) (tm := fun _ => Term.string "VaguePort$Kinds" 15) (len := [7]) (byt := [[112, 114, 111, 109, 105, 115, 101]]) (A := A) (fun i hi => by
      have e9 : i = 0 := by omega
      subst e9
      decide)
    (fun i hi => (hs (Cond.exactly (Term.string "VaguePort$Kinds" 15) "java/lang/String") (List.mem_of_getElem? (i := 31) (by decide +kernel))))
    (fun i hi => (hs (Cond.eq (Term.field (Term.string "VaguePort$Kinds" 15) "java/lang/String" "coder" "B") (Term.int 0)) (List.mem_of_getElem? (i := 32) (by decide +kernel))))
    (fun i hi => (hs (Cond.arrayOf (Term.field (Term.string "VaguePort$Kinds" 15) "java/lang/String" "value" "[B") FieldType.byte) (List.mem_of_getElem? (i := 33) (by decide +kernel))))
    (fun i hi => by
      have e9 : i = 0 := by omega
      subst e9
      exact (hs (Cond.eq (Term.length (Term.field (Term.string "VaguePort$Kinds" 15) "java/lang/String" "value" "[B")) (Term.int 7)) (List.mem_of_getElem? (i := 34) (by decide +kernel))))
    (fun i hi j hj => by
      have e9 : i = 0 := by omega
      subst e9
      have hj : j < 7 := hj
      match j, hj with
      | 0, _ => exact (hs (Cond.eq (Term.elem (Term.field (Term.string "VaguePort$Kinds" 15) "java/lang/String" "value" "[B") (Term.int 0)) (Term.int 112)) (List.mem_of_getElem? (i := 35) (by decide +kernel)))
      | 1, _ => exact (hs (Cond.eq (Term.elem (Term.field (Term.string "VaguePort$Kinds" 15) "java/lang/String" "value" "[B") (Term.int 1)) (Term.int 114)) (List.mem_of_getElem? (i := 36) (by decide +kernel)))
      | 2, _ => exact (hs (Cond.eq (Term.elem (Term.field (Term.string "VaguePort$Kinds" 15) "java/lang/String" "value" "[B") (Term.int 2)) (Term.int 111)) (List.mem_of_getElem? (i := 37) (by decide +kernel)))
      | 3, _ => exact (hs (Cond.eq (Term.elem (Term.field (Term.string "VaguePort$Kinds" 15) "java/lang/String" "value" "[B") (Term.int 3)) (Term.int 109)) (List.mem_of_getElem? (i := 38) (by decide +kernel)))
      | 4, _ => exact (hs (Cond.eq (Term.elem (Term.field (Term.string "VaguePort$Kinds" 15) "java/lang/String" "value" "[B") (Term.int 4)) (Term.int 105)) (List.mem_of_getElem? (i := 39) (by decide +kernel)))
      | 5, _ => exact (hs (Cond.eq (Term.elem (Term.field (Term.string "VaguePort$Kinds" 15) "java/lang/String" "value" "[B") (Term.int 5)) (Term.int 115)) (List.mem_of_getElem? (i := 40) (by decide +kernel)))
      | 6, _ => exact (hs (Cond.eq (Term.elem (Term.field (Term.string "VaguePort$Kinds" 15) "java/lang/String" "value" "[B") (Term.int 6)) (Term.int 101)) (List.mem_of_getElem? (i := 41) (by decide +kernel)))
      | j + 7, hj => exact absurd hj (by omega))
    (fun i j hi hj h => absurd (by omega) h) hA
  exact ⟨K 0, V 0, vk_S1 h1, h2 0 (by decide), va_eqR (hs (Cond.eq (Term.string "VaguePort$Kinds" 15) (Term.string "VaguePortModel" 29)) (List.mem_of_getElem? (i := 182) (by decide +kernel))) (h2 0 (by decide))⟩
set_option maxRecDepth 100000 in
theorem st_2 {s : State} {b : Nat} {A : Nat → Prop} (hgv : (Jvm.Cond.and given_1 narrow_1).before #[Value.ref b] s = true) (hA : ∀ a : Nat, a < s.heap.size → ¬ A a) : ∃ K V : Nat, vk_S 1 [6] [[115, 101, 114, 109, 111, 110]] (fun _ => K) (fun _ => V) A s s.heap ∧ (Term.string "VaguePort$Kinds" 17).eval #[Value.ref b] s none [] s = some (.ref K) ∧ (Term.string "VaguePortModel" 31).eval #[Value.ref b] s none [] s = some (.ref K) := by
  have hs := flat_of_before _ hgv
  obtain ⟨K, V, h1, h2⟩ := vk_Sof (args := #[Value.ref b]) (s := s) (N := 1) (tm := fun _ => Term.string "VaguePort$Kinds" 17) (len := [6]) (byt := [[115, 101, 114, 109, 111, 110]]) (A := A) (fun i hi => by
      have e9 : i = 0 := by omega
      subst e9
      decide)
    (fun i hi => (hs (Cond.exactly (Term.string "VaguePort$Kinds" 17) "java/lang/String") (List.mem_of_getElem? (i := 42) (by decide +kernel))))
    (fun i hi => (hs (Cond.eq (Term.field (Term.string "VaguePort$Kinds" 17) "java/lang/String" "coder" "B") (Term.int 0)) (List.mem_of_getElem? (i := 43) (by decide +kernel))))
    (fun i hi => (hs (Cond.arrayOf (Term.field (Term.string "VaguePort$Kinds" 17) "java/lang/String" "value" "[B") FieldType.byte) (List.mem_of_getElem? (i := 44) (by decide +kernel))))
    (fun i hi => by
      have e9 : i = 0 := by omega
      subst e9
      exact (hs (Cond.eq (Term.length (Term.field (Term.string "VaguePort$Kinds" 17) "java/lang/String" "value" "[B")) (Term.int 6)) (List.mem_of_getElem? (i := 45) (by decide +kernel))))
    (fun i hi j hj => by
      have e9 : i = 0 := by omega
      subst e9
      have hj : j < 6 := hj
      match j, hj with
      | 0, _ => exact (hs (Cond.eq (Term.elem (Term.field (Term.string "VaguePort$Kinds" 17) "java/lang/String" "value" "[B") (Term.int 0)) (Term.int 115)) (List.mem_of_getElem? (i := 46) (by decide +kernel)))
      | 1, _ => exact (hs (Cond.eq (Term.elem (Term.field (Term.string "VaguePort$Kinds" 17) "java/lang/String" "value" "[B") (Term.int 1)) (Term.int 101)) (List.mem_of_getElem? (i := 47) (by decide +kernel)))
      | 2, _ => exact (hs (Cond.eq (Term.elem (Term.field (Term.string "VaguePort$Kinds" 17) "java/lang/String" "value" "[B") (Term.int 2)) (Term.int 114)) (List.mem_of_getElem? (i := 48) (by decide +kernel)))
      | 3, _ => exact (hs (Cond.eq (Term.elem (Term.field (Term.string "VaguePort$Kinds" 17) "java/lang/String" "value" "[B") (Term.int 3)) (Term.int 109)) (List.mem_of_getElem? (i := 49) (by decide +kernel)))
      | 4, _ => exact (hs (Cond.eq (Term.elem (Term.field (Term.string "VaguePort$Kinds" 17) "java/lang/String" "value" "[B") (Term.int 4)) (Term.int 111)) (List.mem_of_getElem? (i := 50) (by decide +kernel)))
      | 5, _ => exact (hs (Cond.eq (Term.elem (Term.field (Term.string "VaguePort$Kinds" 17) "java/lang/String" "value" "[B") (Term.int 5)) (Term.int 110)) (List.mem_of_getElem? (i := 51) (by decide +kernel)))
      | j + 6, hj => exact absurd hj (by omega))
    (fun i j hi hj h => absurd (by omega) h) hA
  exact ⟨K 0, V 0, vk_S1 h1, h2 0 (by decide), va_eqR (hs (Cond.eq (Term.string "VaguePort$Kinds" 17) (Term.string "VaguePortModel" 31)) (List.mem_of_getElem? (i := 193) (by decide +kernel))) (h2 0 (by decide))⟩
set_option maxRecDepth 100000 in
theorem st_3 {s : State} {b : Nat} {A : Nat → Prop} (hgv : (Jvm.Cond.and given_1 narrow_1).before #[Value.ref b] s = true) (hA : ∀ a : Nat, a < s.heap.size → ¬ A a) : ∃ K V : Nat, vk_S 1 [4] [[119, 105, 108, 108]] (fun _ => K) (fun _ => V) A s s.heap ∧ (Term.string "VaguePort$Kinds" 19).eval #[Value.ref b] s none [] s = some (.ref K) ∧ (Term.string "VaguePortModel" 33).eval #[Value.ref b] s none [] s = some (.ref K) := by
  have hs := flat_of_before _ hgv
  obtain ⟨K, V, h1, h2⟩ := vk_Sof (args := #[Value.ref b]) (s := s) (N := 1) (tm := fun _ => Term.string "VaguePort$Kinds" 19) (len := [4]) (byt := [[119, 105, 108, 108]]) (A := A) (fun i hi => by
      have e9 : i = 0 := by omega
      subst e9
      decide)
    (fun i hi => (hs (Cond.exactly (Term.string "VaguePort$Kinds" 19) "java/lang/String") (List.mem_of_getElem? (i := 52) (by decide +kernel))))
    (fun i hi => (hs (Cond.eq (Term.field (Term.string "VaguePort$Kinds" 19) "java/lang/String" "coder" "B") (Term.int 0)) (List.mem_of_getElem? (i := 53) (by decide +kernel))))
    (fun i hi => (hs (Cond.arrayOf (Term.field (Term.string "VaguePort$Kinds" 19) "java/lang/String" "value" "[B") FieldType.byte) (List.mem_of_getElem? (i := 54) (by decide +kernel))))
    (fun i hi => by
      have e9 : i = 0 := by omega
      subst e9
      exact (hs (Cond.eq (Term.length (Term.field (Term.string "VaguePort$Kinds" 19) "java/lang/String" "value" "[B")) (Term.int 4)) (List.mem_of_getElem? (i := 55) (by decide +kernel))))
    (fun i hi j hj => by
      have e9 : i = 0 := by omega
      subst e9
      have hj : j < 4 := hj
      match j, hj with
      | 0, _ => exact (hs (Cond.eq (Term.elem (Term.field (Term.string "VaguePort$Kinds" 19) "java/lang/String" "value" "[B") (Term.int 0)) (Term.int 119)) (List.mem_of_getElem? (i := 56) (by decide +kernel)))
      | 1, _ => exact (hs (Cond.eq (Term.elem (Term.field (Term.string "VaguePort$Kinds" 19) "java/lang/String" "value" "[B") (Term.int 1)) (Term.int 105)) (List.mem_of_getElem? (i := 57) (by decide +kernel)))
      | 2, _ => exact (hs (Cond.eq (Term.elem (Term.field (Term.string "VaguePort$Kinds" 19) "java/lang/String" "value" "[B") (Term.int 2)) (Term.int 108)) (List.mem_of_getElem? (i := 58) (by decide +kernel)))
      | 3, _ => exact (hs (Cond.eq (Term.elem (Term.field (Term.string "VaguePort$Kinds" 19) "java/lang/String" "value" "[B") (Term.int 3)) (Term.int 108)) (List.mem_of_getElem? (i := 59) (by decide +kernel)))
      | j + 4, hj => exact absurd hj (by omega))
    (fun i j hi hj h => absurd (by omega) h) hA
  exact ⟨K 0, V 0, vk_S1 h1, h2 0 (by decide), va_eqR (hs (Cond.eq (Term.string "VaguePort$Kinds" 19) (Term.string "VaguePortModel" 33)) (List.mem_of_getElem? (i := 202) (by decide +kernel))) (h2 0 (by decide))⟩
set_option maxRecDepth 100000 in
theorem st_4 {s : State} {b : Nat} {A : Nat → Prop} (hgv : (Jvm.Cond.and given_1 narrow_1).before #[Value.ref b] s = true) (hA : ∀ a : Nat, a < s.heap.size → ¬ A a) : ∃ K V : Nat, vk_S 1 [10] [[101, 110, 103, 97, 103, 101, 109, 101, 110, 116]] (fun _ => K) (fun _ => V) A s s.heap ∧ (Term.string "VaguePort$Kinds" 21).eval #[Value.ref b] s none [] s = some (.ref K) ∧ (Term.string "VaguePortModel" 35).eval #[Value.ref b] s none [] s = some (.ref K) := by
  have hs := flat_of_before _ hgv
  obtain ⟨K, V, h1, h2⟩ := vk_Sof (args := #[Value.ref b]) (s := s) (N := 1) (tm := fun _ => Term.string "VaguePort$Kinds" 21) (len := [10]) (byt := [[101, 110, 103, 97, 103, 101, 109, 101, 110, 116]]) (A := A) (fun i hi => by
      have e9 : i = 0 := by omega
      subst e9
      decide)
    (fun i hi => (hs (Cond.exactly (Term.string "VaguePort$Kinds" 21) "java/lang/String") (List.mem_of_getElem? (i := 60) (by decide +kernel))))
    (fun i hi => (hs (Cond.eq (Term.field (Term.string "VaguePort$Kinds" 21) "java/lang/String" "coder" "B") (Term.int 0)) (List.mem_of_getElem? (i := 61) (by decide +kernel))))
    (fun i hi => (hs (Cond.arrayOf (Term.field (Term.string "VaguePort$Kinds" 21) "java/lang/String" "value" "[B") FieldType.byte) (List.mem_of_getElem? (i := 62) (by decide +kernel))))
    (fun i hi => by
      have e9 : i = 0 := by omega
      subst e9
      exact (hs (Cond.eq (Term.length (Term.field (Term.string "VaguePort$Kinds" 21) "java/lang/String" "value" "[B")) (Term.int 10)) (List.mem_of_getElem? (i := 63) (by decide +kernel))))
    (fun i hi j hj => by
      have e9 : i = 0 := by omega
      subst e9
      have hj : j < 10 := hj
      match j, hj with
      | 0, _ => exact (hs (Cond.eq (Term.elem (Term.field (Term.string "VaguePort$Kinds" 21) "java/lang/String" "value" "[B") (Term.int 0)) (Term.int 101)) (List.mem_of_getElem? (i := 64) (by decide +kernel)))
      | 1, _ => exact (hs (Cond.eq (Term.elem (Term.field (Term.string "VaguePort$Kinds" 21) "java/lang/String" "value" "[B") (Term.int 1)) (Term.int 110)) (List.mem_of_getElem? (i := 65) (by decide +kernel)))
      | 2, _ => exact (hs (Cond.eq (Term.elem (Term.field (Term.string "VaguePort$Kinds" 21) "java/lang/String" "value" "[B") (Term.int 2)) (Term.int 103)) (List.mem_of_getElem? (i := 66) (by decide +kernel)))
      | 3, _ => exact (hs (Cond.eq (Term.elem (Term.field (Term.string "VaguePort$Kinds" 21) "java/lang/String" "value" "[B") (Term.int 3)) (Term.int 97)) (List.mem_of_getElem? (i := 67) (by decide +kernel)))
      | 4, _ => exact (hs (Cond.eq (Term.elem (Term.field (Term.string "VaguePort$Kinds" 21) "java/lang/String" "value" "[B") (Term.int 4)) (Term.int 103)) (List.mem_of_getElem? (i := 68) (by decide +kernel)))
      | 5, _ => exact (hs (Cond.eq (Term.elem (Term.field (Term.string "VaguePort$Kinds" 21) "java/lang/String" "value" "[B") (Term.int 5)) (Term.int 101)) (List.mem_of_getElem? (i := 69) (by decide +kernel)))
      | 6, _ => exact (hs (Cond.eq (Term.elem (Term.field (Term.string "VaguePort$Kinds" 21) "java/lang/String" "value" "[B") (Term.int 6)) (Term.int 109)) (List.mem_of_getElem? (i := 70) (by decide +kernel)))
      | 7, _ => exact (hs (Cond.eq (Term.elem (Term.field (Term.string "VaguePort$Kinds" 21) "java/lang/String" "value" "[B") (Term.int 7)) (Term.int 101)) (List.mem_of_getElem? (i := 71) (by decide +kernel)))
      | 8, _ => exact (hs (Cond.eq (Term.elem (Term.field (Term.string "VaguePort$Kinds" 21) "java/lang/String" "value" "[B") (Term.int 8)) (Term.int 110)) (List.mem_of_getElem? (i := 72) (by decide +kernel)))
      | 9, _ => exact (hs (Cond.eq (Term.elem (Term.field (Term.string "VaguePort$Kinds" 21) "java/lang/String" "value" "[B") (Term.int 9)) (Term.int 116)) (List.mem_of_getElem? (i := 73) (by decide +kernel)))
      | j + 10, hj => exact absurd hj (by omega))
    (fun i j hi hj h => absurd (by omega) h) hA
  exact ⟨K 0, V 0, vk_S1 h1, h2 0 (by decide), va_eqR (hs (Cond.eq (Term.string "VaguePort$Kinds" 21) (Term.string "VaguePortModel" 35)) (List.mem_of_getElem? (i := 217) (by decide +kernel))) (h2 0 (by decide))⟩
set_option maxRecDepth 100000 in
theorem st_5 {s : State} {b : Nat} {A : Nat → Prop} (hgv : (Jvm.Cond.and given_1 narrow_1).before #[Value.ref b] s = true) (hA : ∀ a : Nat, a < s.heap.size → ¬ A a) : ∃ K V : Nat, vk_S 1 [5] [[112, 108, 97, 105, 110]] (fun _ => K) (fun _ => V) A s s.heap ∧ (Term.string "VaguePort$Kinds" 23).eval #[Value.ref b] s none [] s = some (.ref K) ∧ (Term.string "VaguePortModel" 37).eval #[Value.ref b] s none [] s = some (.ref K) := by
  have hs := flat_of_before _ hgv
  obtain ⟨K, V, h1, h2⟩ := vk_Sof (args := #[Value.ref b]) (s := s) (N := 1) (tm := fun _ => Term.string "VaguePort$Kinds" 23) (len := [5]) (byt := [[112, 108, 97, 105, 110]]) (A := A) (fun i hi => by
      have e9 : i = 0 := by omega
      subst e9
      decide)
    (fun i hi => (hs (Cond.exactly (Term.string "VaguePort$Kinds" 23) "java/lang/String") (List.mem_of_getElem? (i := 74) (by decide +kernel))))
    (fun i hi => (hs (Cond.eq (Term.field (Term.string "VaguePort$Kinds" 23) "java/lang/String" "coder" "B") (Term.int 0)) (List.mem_of_getElem? (i := 75) (by decide +kernel))))
    (fun i hi => (hs (Cond.arrayOf (Term.field (Term.string "VaguePort$Kinds" 23) "java/lang/String" "value" "[B") FieldType.byte) (List.mem_of_getElem? (i := 76) (by decide +kernel))))
    (fun i hi => by
      have e9 : i = 0 := by omega
      subst e9
      exact (hs (Cond.eq (Term.length (Term.field (Term.string "VaguePort$Kinds" 23) "java/lang/String" "value" "[B")) (Term.int 5)) (List.mem_of_getElem? (i := 77) (by decide +kernel))))
    (fun i hi j hj => by
      have e9 : i = 0 := by omega
      subst e9
      have hj : j < 5 := hj
      match j, hj with
      | 0, _ => exact (hs (Cond.eq (Term.elem (Term.field (Term.string "VaguePort$Kinds" 23) "java/lang/String" "value" "[B") (Term.int 0)) (Term.int 112)) (List.mem_of_getElem? (i := 78) (by decide +kernel)))
      | 1, _ => exact (hs (Cond.eq (Term.elem (Term.field (Term.string "VaguePort$Kinds" 23) "java/lang/String" "value" "[B") (Term.int 1)) (Term.int 108)) (List.mem_of_getElem? (i := 79) (by decide +kernel)))
      | 2, _ => exact (hs (Cond.eq (Term.elem (Term.field (Term.string "VaguePort$Kinds" 23) "java/lang/String" "value" "[B") (Term.int 2)) (Term.int 97)) (List.mem_of_getElem? (i := 80) (by decide +kernel)))
      | 3, _ => exact (hs (Cond.eq (Term.elem (Term.field (Term.string "VaguePort$Kinds" 23) "java/lang/String" "value" "[B") (Term.int 3)) (Term.int 105)) (List.mem_of_getElem? (i := 81) (by decide +kernel)))
      | 4, _ => exact (hs (Cond.eq (Term.elem (Term.field (Term.string "VaguePort$Kinds" 23) "java/lang/String" "value" "[B") (Term.int 4)) (Term.int 110)) (List.mem_of_getElem? (i := 82) (by decide +kernel)))
      | j + 5, hj => exact absurd hj (by omega))
    (fun i j hi hj h => absurd (by omega) h) hA
  exact ⟨K 0, V 0, vk_S1 h1, h2 0 (by decide), va_eqR (hs (Cond.eq (Term.string "VaguePort$Kinds" 23) (Term.string "VaguePortModel" 37)) (List.mem_of_getElem? (i := 227) (by decide +kernel))) (h2 0 (by decide))⟩
set_option maxRecDepth 100000 in
theorem st_6 {s : State} {b : Nat} {A : Nat → Prop} (hgv : (Jvm.Cond.and given_1 narrow_1).before #[Value.ref b] s = true) (hA : ∀ a : Nat, a < s.heap.size → ¬ A a) : ∃ K V : Nat, vk_S 1 [3] [[108, 97, 119]] (fun _ => K) (fun _ => V) A s s.heap ∧ (Term.string "VaguePort$Kinds" 25).eval #[Value.ref b] s none [] s = some (.ref K) ∧ (Term.string "VaguePortModel" 39).eval #[Value.ref b] s none [] s = some (.ref K) := by
  have hs := flat_of_before _ hgv
  obtain ⟨K, V, h1, h2⟩ := vk_Sof (args := #[Value.ref b]) (s := s) (N := 1) (tm := fun _ => Term.string "VaguePort$Kinds" 25) (len := [3]) (byt := [[108, 97, 119]]) (A := A) (fun i hi => by
      have e9 : i = 0 := by omega
      subst e9
      decide)
    (fun i hi => (hs (Cond.exactly (Term.string "VaguePort$Kinds" 25) "java/lang/String") (List.mem_of_getElem? (i := 83) (by decide +kernel))))
    (fun i hi => (hs (Cond.eq (Term.field (Term.string "VaguePort$Kinds" 25) "java/lang/String" "coder" "B") (Term.int 0)) (List.mem_of_getElem? (i := 84) (by decide +kernel))))
    (fun i hi => (hs (Cond.arrayOf (Term.field (Term.string "VaguePort$Kinds" 25) "java/lang/String" "value" "[B") FieldType.byte) (List.mem_of_getElem? (i := 85) (by decide +kernel))))
    (fun i hi => by
      have e9 : i = 0 := by omega
      subst e9
      exact (hs (Cond.eq (Term.length (Term.field (Term.string "VaguePort$Kinds" 25) "java/lang/String" "value" "[B")) (Term.int 3)) (List.mem_of_getElem? (i := 86) (by decide +kernel))))
    (fun i hi j hj => by
      have e9 : i = 0 := by omega
      subst e9
      have hj : j < 3 := hj
      match j, hj with
      | 0, _ => exact (hs (Cond.eq (Term.elem (Term.field (Term.string "VaguePort$Kinds" 25) "java/lang/String" "value" "[B") (Term.int 0)) (Term.int 108)) (List.mem_of_getElem? (i := 87) (by decide +kernel)))
      | 1, _ => exact (hs (Cond.eq (Term.elem (Term.field (Term.string "VaguePort$Kinds" 25) "java/lang/String" "value" "[B") (Term.int 1)) (Term.int 97)) (List.mem_of_getElem? (i := 88) (by decide +kernel)))
      | 2, _ => exact (hs (Cond.eq (Term.elem (Term.field (Term.string "VaguePort$Kinds" 25) "java/lang/String" "value" "[B") (Term.int 2)) (Term.int 119)) (List.mem_of_getElem? (i := 89) (by decide +kernel)))
      | j + 3, hj => exact absurd hj (by omega))
    (fun i j hi hj h => absurd (by omega) h) hA
  exact ⟨K 0, V 0, vk_S1 h1, h2 0 (by decide), va_eqR (hs (Cond.eq (Term.string "VaguePort$Kinds" 25) (Term.string "VaguePortModel" 39)) (List.mem_of_getElem? (i := 235) (by decide +kernel))) (h2 0 (by decide))⟩
set_option maxRecDepth 100000 in
theorem st_7 {s : State} {b : Nat} {A : Nat → Prop} (hgv : (Jvm.Cond.and given_1 narrow_1).before #[Value.ref b] s = true) (hA : ∀ a : Nat, a < s.heap.size → ¬ A a) : ∃ K V : Nat, vk_S 1 [4] [[115, 104, 105, 112]] (fun _ => K) (fun _ => V) A s s.heap ∧ (Term.string "VaguePort$Tape" 52).eval #[Value.ref b] s none [] s = some (.ref K) ∧ (Term.string "VaguePortModel" 326).eval #[Value.ref b] s none [] s = some (.ref K) := by
  have hs := flat_of_before _ hgv
  obtain ⟨K, V, h1, h2⟩ := vk_Sof (args := #[Value.ref b]) (s := s) (N := 1) (tm := fun _ => Term.string "VaguePort$Tape" 52) (len := [4]) (byt := [[115, 104, 105, 112]]) (A := A) (fun i hi => by
      have e9 : i = 0 := by omega
      subst e9
      decide)
    (fun i hi => (hs (Cond.exactly (Term.string "VaguePort$Tape" 52) "java/lang/String") (List.mem_of_getElem? (i := 126) (by decide +kernel))))
    (fun i hi => (hs (Cond.eq (Term.field (Term.string "VaguePort$Tape" 52) "java/lang/String" "coder" "B") (Term.int 0)) (List.mem_of_getElem? (i := 127) (by decide +kernel))))
    (fun i hi => (hs (Cond.arrayOf (Term.field (Term.string "VaguePort$Tape" 52) "java/lang/String" "value" "[B") FieldType.byte) (List.mem_of_getElem? (i := 128) (by decide +kernel))))
    (fun i hi => by
      have e9 : i = 0 := by omega
      subst e9
      exact (hs (Cond.eq (Term.length (Term.field (Term.string "VaguePort$Tape" 52) "java/lang/String" "value" "[B")) (Term.int 4)) (List.mem_of_getElem? (i := 129) (by decide +kernel))))
    (fun i hi j hj => by
      have e9 : i = 0 := by omega
      subst e9
      have hj : j < 4 := hj
      match j, hj with
      | 0, _ => exact (hs (Cond.eq (Term.elem (Term.field (Term.string "VaguePort$Tape" 52) "java/lang/String" "value" "[B") (Term.int 0)) (Term.int 115)) (List.mem_of_getElem? (i := 130) (by decide +kernel)))
      | 1, _ => exact (hs (Cond.eq (Term.elem (Term.field (Term.string "VaguePort$Tape" 52) "java/lang/String" "value" "[B") (Term.int 1)) (Term.int 104)) (List.mem_of_getElem? (i := 131) (by decide +kernel)))
      | 2, _ => exact (hs (Cond.eq (Term.elem (Term.field (Term.string "VaguePort$Tape" 52) "java/lang/String" "value" "[B") (Term.int 2)) (Term.int 105)) (List.mem_of_getElem? (i := 132) (by decide +kernel)))
      | 3, _ => exact (hs (Cond.eq (Term.elem (Term.field (Term.string "VaguePort$Tape" 52) "java/lang/String" "value" "[B") (Term.int 3)) (Term.int 112)) (List.mem_of_getElem? (i := 133) (by decide +kernel)))
      | j + 4, hj => exact absurd hj (by omega))
    (fun i j hi hj h => absurd (by omega) h) hA
  exact ⟨K 0, V 0, vk_S1 h1, h2 0 (by decide), va_eqR (hs (Cond.eq (Term.string "VaguePort$Tape" 52) (Term.string "VaguePortModel" 326)) (List.mem_of_getElem? (i := 273) (by decide +kernel))) (h2 0 (by decide))⟩
set_option maxRecDepth 100000 in
theorem st_8 {s : State} {b : Nat} {A : Nat → Prop} (hgv : (Jvm.Cond.and given_1 narrow_1).before #[Value.ref b] s = true) (hA : ∀ a : Nat, a < s.heap.size → ¬ A a) : ∃ K V : Nat, vk_S 1 [6] [[102, 105, 110, 105, 115, 104]] (fun _ => K) (fun _ => V) A s s.heap ∧ (Term.string "VaguePort$Tape" 62).eval #[Value.ref b] s none [] s = some (.ref K) ∧ (Term.string "VaguePortModel" 331).eval #[Value.ref b] s none [] s = some (.ref K) := by
  have hs := flat_of_before _ hgv
  obtain ⟨K, V, h1, h2⟩ := vk_Sof (args := #[Value.ref b]) (s := s) (N := 1) (tm := fun _ => Term.string "VaguePort$Tape" 62) (len := [6]) (byt := [[102, 105, 110, 105, 115, 104]]) (A := A) (fun i hi => by
      have e9 : i = 0 := by omega
      subst e9
      decide)
    (fun i hi => (hs (Cond.exactly (Term.string "VaguePort$Tape" 62) "java/lang/String") (List.mem_of_getElem? (i := 150) (by decide +kernel))))
    (fun i hi => (hs (Cond.eq (Term.field (Term.string "VaguePort$Tape" 62) "java/lang/String" "coder" "B") (Term.int 0)) (List.mem_of_getElem? (i := 151) (by decide +kernel))))
    (fun i hi => (hs (Cond.arrayOf (Term.field (Term.string "VaguePort$Tape" 62) "java/lang/String" "value" "[B") FieldType.byte) (List.mem_of_getElem? (i := 152) (by decide +kernel))))
    (fun i hi => by
      have e9 : i = 0 := by omega
      subst e9
      exact (hs (Cond.eq (Term.length (Term.field (Term.string "VaguePort$Tape" 62) "java/lang/String" "value" "[B")) (Term.int 6)) (List.mem_of_getElem? (i := 153) (by decide +kernel))))
    (fun i hi j hj => by
      have e9 : i = 0 := by omega
      subst e9
      have hj : j < 6 := hj
      match j, hj with
      | 0, _ => exact (hs (Cond.eq (Term.elem (Term.field (Term.string "VaguePort$Tape" 62) "java/lang/String" "value" "[B") (Term.int 0)) (Term.int 102)) (List.mem_of_getElem? (i := 154) (by decide +kernel)))
      | 1, _ => exact (hs (Cond.eq (Term.elem (Term.field (Term.string "VaguePort$Tape" 62) "java/lang/String" "value" "[B") (Term.int 1)) (Term.int 105)) (List.mem_of_getElem? (i := 155) (by decide +kernel)))
      | 2, _ => exact (hs (Cond.eq (Term.elem (Term.field (Term.string "VaguePort$Tape" 62) "java/lang/String" "value" "[B") (Term.int 2)) (Term.int 110)) (List.mem_of_getElem? (i := 156) (by decide +kernel)))
      | 3, _ => exact (hs (Cond.eq (Term.elem (Term.field (Term.string "VaguePort$Tape" 62) "java/lang/String" "value" "[B") (Term.int 3)) (Term.int 105)) (List.mem_of_getElem? (i := 157) (by decide +kernel)))
      | 4, _ => exact (hs (Cond.eq (Term.elem (Term.field (Term.string "VaguePort$Tape" 62) "java/lang/String" "value" "[B") (Term.int 4)) (Term.int 115)) (List.mem_of_getElem? (i := 158) (by decide +kernel)))
      | 5, _ => exact (hs (Cond.eq (Term.elem (Term.field (Term.string "VaguePort$Tape" 62) "java/lang/String" "value" "[B") (Term.int 5)) (Term.int 104)) (List.mem_of_getElem? (i := 159) (by decide +kernel)))
      | j + 6, hj => exact absurd hj (by omega))
    (fun i j hi hj h => absurd (by omega) h) hA
  exact ⟨K 0, V 0, vk_S1 h1, h2 0 (by decide), va_eqR (hs (Cond.eq (Term.string "VaguePort$Tape" 62) (Term.string "VaguePortModel" 331)) (List.mem_of_getElem? (i := 302) (by decide +kernel))) (h2 0 (by decide))⟩
set_option maxRecDepth 100000 in
theorem st_9 {s : State} {b : Nat} {A : Nat → Prop} (hgv : (Jvm.Cond.and given_1 narrow_1).before #[Value.ref b] s = true) (hA : ∀ a : Nat, a < s.heap.size → ¬ A a) : ∃ K V : Nat, vk_S 1 [2] [[97, 116]] (fun _ => K) (fun _ => V) A s s.heap ∧ (Term.string "VaguePort$Tape" 81).eval #[Value.ref b] s none [] s = some (.ref K) ∧ (Term.string "VaguePortModel" 303).eval #[Value.ref b] s none [] s = some (.ref K) := by
  have hs := flat_of_before _ hgv
  obtain ⟨K, V, h1, h2⟩ := vk_Sof (args := #[Value.ref b]) (s := s) (N := 1) (tm := fun _ => Term.string "VaguePort$Tape" 81) (len := [2]) (byt := [[97, 116]]) (A := A) (fun i hi => by
      have e9 : i = 0 := by omega
      subst e9
      decide)
    (fun i hi => (hs (Cond.exactly (Term.string "VaguePort$Tape" 81) "java/lang/String") (List.mem_of_getElem? (i := 100) (by decide +kernel))))
    (fun i hi => (hs (Cond.eq (Term.field (Term.string "VaguePort$Tape" 81) "java/lang/String" "coder" "B") (Term.int 0)) (List.mem_of_getElem? (i := 101) (by decide +kernel))))
    (fun i hi => (hs (Cond.arrayOf (Term.field (Term.string "VaguePort$Tape" 81) "java/lang/String" "value" "[B") FieldType.byte) (List.mem_of_getElem? (i := 102) (by decide +kernel))))
    (fun i hi => by
      have e9 : i = 0 := by omega
      subst e9
      exact (hs (Cond.eq (Term.length (Term.field (Term.string "VaguePort$Tape" 81) "java/lang/String" "value" "[B")) (Term.int 2)) (List.mem_of_getElem? (i := 103) (by decide +kernel))))
    (fun i hi j hj => by
      have e9 : i = 0 := by omega
      subst e9
      have hj : j < 2 := hj
      match j, hj with
      | 0, _ => exact (hs (Cond.eq (Term.elem (Term.field (Term.string "VaguePort$Tape" 81) "java/lang/String" "value" "[B") (Term.int 0)) (Term.int 97)) (List.mem_of_getElem? (i := 104) (by decide +kernel)))
      | 1, _ => exact (hs (Cond.eq (Term.elem (Term.field (Term.string "VaguePort$Tape" 81) "java/lang/String" "value" "[B") (Term.int 1)) (Term.int 116)) (List.mem_of_getElem? (i := 105) (by decide +kernel)))
      | j + 2, hj => exact absurd hj (by omega))
    (fun i j hi hj h => absurd (by omega) h) hA
  exact ⟨K 0, V 0, vk_S1 h1, h2 0 (by decide), va_eqR (hs (Cond.eq (Term.string "VaguePort$Tape" 81) (Term.string "VaguePortModel" 303)) (List.mem_of_getElem? (i := 242) (by decide +kernel))) (h2 0 (by decide))⟩
set_option maxRecDepth 100000 in
theorem st_10 {s : State} {b : Nat} {A : Nat → Prop} (hgv : (Jvm.Cond.and given_1 narrow_1).before #[Value.ref b] s = true) (hA : ∀ a : Nat, a < s.heap.size → ¬ A a) : ∃ K V : Nat, vk_S 1 [4] [[115, 97, 105, 100]] (fun _ => K) (fun _ => V) A s s.heap ∧ (Term.string "VaguePort$Tape" 87).eval #[Value.ref b] s none [] s = some (.ref K) ∧ (Term.string "VaguePortModel" 308).eval #[Value.ref b] s none [] s = some (.ref K) := by
  have hs := flat_of_before _ hgv
  obtain ⟨K, V, h1, h2⟩ := vk_Sof (args := #[Value.ref b]) (s := s) (N := 1) (tm := fun _ => Term.string "VaguePort$Tape" 87) (len := [4]) (byt := [[115, 97, 105, 100]]) (A := A) (fun i hi => by
      have e9 : i = 0 := by omega
      subst e9
      decide)
    (fun i hi => (hs (Cond.exactly (Term.string "VaguePort$Tape" 87) "java/lang/String") (List.mem_of_getElem? (i := 106) (by decide +kernel))))
    (fun i hi => (hs (Cond.eq (Term.field (Term.string "VaguePort$Tape" 87) "java/lang/String" "coder" "B") (Term.int 0)) (List.mem_of_getElem? (i := 107) (by decide +kernel))))
    (fun i hi => (hs (Cond.arrayOf (Term.field (Term.string "VaguePort$Tape" 87) "java/lang/String" "value" "[B") FieldType.byte) (List.mem_of_getElem? (i := 108) (by decide +kernel))))
    (fun i hi => by
      have e9 : i = 0 := by omega
      subst e9
      exact (hs (Cond.eq (Term.length (Term.field (Term.string "VaguePort$Tape" 87) "java/lang/String" "value" "[B")) (Term.int 4)) (List.mem_of_getElem? (i := 109) (by decide +kernel))))
    (fun i hi j hj => by
      have e9 : i = 0 := by omega
      subst e9
      have hj : j < 4 := hj
      match j, hj with
      | 0, _ => exact (hs (Cond.eq (Term.elem (Term.field (Term.string "VaguePort$Tape" 87) "java/lang/String" "value" "[B") (Term.int 0)) (Term.int 115)) (List.mem_of_getElem? (i := 110) (by decide +kernel)))
      | 1, _ => exact (hs (Cond.eq (Term.elem (Term.field (Term.string "VaguePort$Tape" 87) "java/lang/String" "value" "[B") (Term.int 1)) (Term.int 97)) (List.mem_of_getElem? (i := 111) (by decide +kernel)))
      | 2, _ => exact (hs (Cond.eq (Term.elem (Term.field (Term.string "VaguePort$Tape" 87) "java/lang/String" "value" "[B") (Term.int 2)) (Term.int 105)) (List.mem_of_getElem? (i := 112) (by decide +kernel)))
      | 3, _ => exact (hs (Cond.eq (Term.elem (Term.field (Term.string "VaguePort$Tape" 87) "java/lang/String" "value" "[B") (Term.int 3)) (Term.int 100)) (List.mem_of_getElem? (i := 113) (by decide +kernel)))
      | j + 4, hj => exact absurd hj (by omega))
    (fun i j hi hj h => absurd (by omega) h) hA
  exact ⟨K 0, V 0, vk_S1 h1, h2 0 (by decide), va_eqR (hs (Cond.eq (Term.string "VaguePort$Tape" 87) (Term.string "VaguePortModel" 308)) (List.mem_of_getElem? (i := 251) (by decide +kernel))) (h2 0 (by decide))⟩
set_option maxRecDepth 100000 in
theorem st_11 {s : State} {b : Nat} {A : Nat → Prop} (hgv : (Jvm.Cond.and given_1 narrow_1).before #[Value.ref b] s = true) (hA : ∀ a : Nat, a < s.heap.size → ¬ A a) : ∃ K V : Nat, vk_S 1 [8] [[102, 105, 110, 105, 115, 104, 101, 100]] (fun _ => K) (fun _ => V) A s s.heap ∧ (Term.string "VaguePort$Tape" 97).eval #[Value.ref b] s none [] s = some (.ref K) ∧ (Term.string "VaguePortModel" 310).eval #[Value.ref b] s none [] s = some (.ref K) := by
  have hs := flat_of_before _ hgv
  obtain ⟨K, V, h1, h2⟩ := vk_Sof (args := #[Value.ref b]) (s := s) (N := 1) (tm := fun _ => Term.string "VaguePort$Tape" 97) (len := [8]) (byt := [[102, 105, 110, 105, 115, 104, 101, 100]]) (A := A) (fun i hi => by
      have e9 : i = 0 := by omega
      subst e9
      decide)
    (fun i hi => (hs (Cond.exactly (Term.string "VaguePort$Tape" 97) "java/lang/String") (List.mem_of_getElem? (i := 114) (by decide +kernel))))
    (fun i hi => (hs (Cond.eq (Term.field (Term.string "VaguePort$Tape" 97) "java/lang/String" "coder" "B") (Term.int 0)) (List.mem_of_getElem? (i := 115) (by decide +kernel))))
    (fun i hi => (hs (Cond.arrayOf (Term.field (Term.string "VaguePort$Tape" 97) "java/lang/String" "value" "[B") FieldType.byte) (List.mem_of_getElem? (i := 116) (by decide +kernel))))
    (fun i hi => by
      have e9 : i = 0 := by omega
      subst e9
      exact (hs (Cond.eq (Term.length (Term.field (Term.string "VaguePort$Tape" 97) "java/lang/String" "value" "[B")) (Term.int 8)) (List.mem_of_getElem? (i := 117) (by decide +kernel))))
    (fun i hi j hj => by
      have e9 : i = 0 := by omega
      subst e9
      have hj : j < 8 := hj
      match j, hj with
      | 0, _ => exact (hs (Cond.eq (Term.elem (Term.field (Term.string "VaguePort$Tape" 97) "java/lang/String" "value" "[B") (Term.int 0)) (Term.int 102)) (List.mem_of_getElem? (i := 118) (by decide +kernel)))
      | 1, _ => exact (hs (Cond.eq (Term.elem (Term.field (Term.string "VaguePort$Tape" 97) "java/lang/String" "value" "[B") (Term.int 1)) (Term.int 105)) (List.mem_of_getElem? (i := 119) (by decide +kernel)))
      | 2, _ => exact (hs (Cond.eq (Term.elem (Term.field (Term.string "VaguePort$Tape" 97) "java/lang/String" "value" "[B") (Term.int 2)) (Term.int 110)) (List.mem_of_getElem? (i := 120) (by decide +kernel)))
      | 3, _ => exact (hs (Cond.eq (Term.elem (Term.field (Term.string "VaguePort$Tape" 97) "java/lang/String" "value" "[B") (Term.int 3)) (Term.int 105)) (List.mem_of_getElem? (i := 121) (by decide +kernel)))
      | 4, _ => exact (hs (Cond.eq (Term.elem (Term.field (Term.string "VaguePort$Tape" 97) "java/lang/String" "value" "[B") (Term.int 4)) (Term.int 115)) (List.mem_of_getElem? (i := 122) (by decide +kernel)))
      | 5, _ => exact (hs (Cond.eq (Term.elem (Term.field (Term.string "VaguePort$Tape" 97) "java/lang/String" "value" "[B") (Term.int 5)) (Term.int 104)) (List.mem_of_getElem? (i := 123) (by decide +kernel)))
      | 6, _ => exact (hs (Cond.eq (Term.elem (Term.field (Term.string "VaguePort$Tape" 97) "java/lang/String" "value" "[B") (Term.int 6)) (Term.int 101)) (List.mem_of_getElem? (i := 124) (by decide +kernel)))
      | 7, _ => exact (hs (Cond.eq (Term.elem (Term.field (Term.string "VaguePort$Tape" 97) "java/lang/String" "value" "[B") (Term.int 7)) (Term.int 100)) (List.mem_of_getElem? (i := 125) (by decide +kernel)))
      | j + 8, hj => exact absurd hj (by omega))
    (fun i j hi hj h => absurd (by omega) h) hA
  exact ⟨K 0, V 0, vk_S1 h1, h2 0 (by decide), va_eqR (hs (Cond.eq (Term.string "VaguePort$Tape" 97) (Term.string "VaguePortModel" 310)) (List.mem_of_getElem? (i := 264) (by decide +kernel))) (h2 0 (by decide))⟩
set_option maxRecDepth 100000 in
theorem st_12 {s : State} {b : Nat} {A : Nat → Prop} (hgv : (Jvm.Cond.and given_1 narrow_1).before #[Value.ref b] s = true) (hA : ∀ a : Nat, a < s.heap.size → ¬ A a) : ∃ K V : Nat, vk_S 1 [4] [[115, 101, 101, 115]] (fun _ => K) (fun _ => V) A s s.heap ∧ (Term.string "VaguePort$Tape" 102).eval #[Value.ref b] s none [] s = some (.ref K) ∧ (Term.string "VaguePortModel" 319).eval #[Value.ref b] s none [] s = some (.ref K) := by
  have hs := flat_of_before _ hgv
  obtain ⟨K, V, h1, h2⟩ := vk_Sof (args := #[Value.ref b]) (s := s) (N := 1) (tm := fun _ => Term.string "VaguePort$Tape" 102) (len := [4]) (byt := [[115, 101, 101, 115]]) (A := A) (fun i hi => by
      have e9 : i = 0 := by omega
      subst e9
      decide)
    (fun i hi => (hs (Cond.exactly (Term.string "VaguePort$Tape" 102) "java/lang/String") (List.mem_of_getElem? (i := 134) (by decide +kernel))))
    (fun i hi => (hs (Cond.eq (Term.field (Term.string "VaguePort$Tape" 102) "java/lang/String" "coder" "B") (Term.int 0)) (List.mem_of_getElem? (i := 135) (by decide +kernel))))
    (fun i hi => (hs (Cond.arrayOf (Term.field (Term.string "VaguePort$Tape" 102) "java/lang/String" "value" "[B") FieldType.byte) (List.mem_of_getElem? (i := 136) (by decide +kernel))))
    (fun i hi => by
      have e9 : i = 0 := by omega
      subst e9
      exact (hs (Cond.eq (Term.length (Term.field (Term.string "VaguePort$Tape" 102) "java/lang/String" "value" "[B")) (Term.int 4)) (List.mem_of_getElem? (i := 137) (by decide +kernel))))
    (fun i hi j hj => by
      have e9 : i = 0 := by omega
      subst e9
      have hj : j < 4 := hj
      match j, hj with
      | 0, _ => exact (hs (Cond.eq (Term.elem (Term.field (Term.string "VaguePort$Tape" 102) "java/lang/String" "value" "[B") (Term.int 0)) (Term.int 115)) (List.mem_of_getElem? (i := 138) (by decide +kernel)))
      | 1, _ => exact (hs (Cond.eq (Term.elem (Term.field (Term.string "VaguePort$Tape" 102) "java/lang/String" "value" "[B") (Term.int 1)) (Term.int 101)) (List.mem_of_getElem? (i := 139) (by decide +kernel)))
      | 2, _ => exact (hs (Cond.eq (Term.elem (Term.field (Term.string "VaguePort$Tape" 102) "java/lang/String" "value" "[B") (Term.int 2)) (Term.int 101)) (List.mem_of_getElem? (i := 140) (by decide +kernel)))
      | 3, _ => exact (hs (Cond.eq (Term.elem (Term.field (Term.string "VaguePort$Tape" 102) "java/lang/String" "value" "[B") (Term.int 3)) (Term.int 115)) (List.mem_of_getElem? (i := 141) (by decide +kernel)))
      | j + 4, hj => exact absurd hj (by omega))
    (fun i j hi hj h => absurd (by omega) h) hA
  exact ⟨K 0, V 0, vk_S1 h1, h2 0 (by decide), va_eqR (hs (Cond.eq (Term.string "VaguePort$Tape" 102) (Term.string "VaguePortModel" 319)) (List.mem_of_getElem? (i := 282) (by decide +kernel))) (h2 0 (by decide))⟩
set_option maxRecDepth 100000 in
theorem st_13 {s : State} {b : Nat} {A : Nat → Prop} (hgv : (Jvm.Cond.and given_1 narrow_1).before #[Value.ref b] s = true) (hA : ∀ a : Nat, a < s.heap.size → ¬ A a) : ∃ K V : Nat, vk_S 1 [4] [[102, 97, 115, 116]] (fun _ => K) (fun _ => V) A s s.heap ∧ (Term.string "VaguePort$Tape" 104).eval #[Value.ref b] s none [] s = some (.ref K) ∧ (Term.string "VaguePortModel" 321).eval #[Value.ref b] s none [] s = some (.ref K) := by
  have hs := flat_of_before _ hgv
  obtain ⟨K, V, h1, h2⟩ := vk_Sof (args := #[Value.ref b]) (s := s) (N := 1) (tm := fun _ => Term.string "VaguePort$Tape" 104) (len := [4]) (byt := [[102, 97, 115, 116]]) (A := A) (fun i hi => by
      have e9 : i = 0 := by omega
      subst e9
      decide)
    (fun i hi => (hs (Cond.exactly (Term.string "VaguePort$Tape" 104) "java/lang/String") (List.mem_of_getElem? (i := 142) (by decide +kernel))))
    (fun i hi => (hs (Cond.eq (Term.field (Term.string "VaguePort$Tape" 104) "java/lang/String" "coder" "B") (Term.int 0)) (List.mem_of_getElem? (i := 143) (by decide +kernel))))
    (fun i hi => (hs (Cond.arrayOf (Term.field (Term.string "VaguePort$Tape" 104) "java/lang/String" "value" "[B") FieldType.byte) (List.mem_of_getElem? (i := 144) (by decide +kernel))))
    (fun i hi => by
      have e9 : i = 0 := by omega
      subst e9
      exact (hs (Cond.eq (Term.length (Term.field (Term.string "VaguePort$Tape" 104) "java/lang/String" "value" "[B")) (Term.int 4)) (List.mem_of_getElem? (i := 145) (by decide +kernel))))
    (fun i hi j hj => by
      have e9 : i = 0 := by omega
      subst e9
      have hj : j < 4 := hj
      match j, hj with
      | 0, _ => exact (hs (Cond.eq (Term.elem (Term.field (Term.string "VaguePort$Tape" 104) "java/lang/String" "value" "[B") (Term.int 0)) (Term.int 102)) (List.mem_of_getElem? (i := 146) (by decide +kernel)))
      | 1, _ => exact (hs (Cond.eq (Term.elem (Term.field (Term.string "VaguePort$Tape" 104) "java/lang/String" "value" "[B") (Term.int 1)) (Term.int 97)) (List.mem_of_getElem? (i := 147) (by decide +kernel)))
      | 2, _ => exact (hs (Cond.eq (Term.elem (Term.field (Term.string "VaguePort$Tape" 104) "java/lang/String" "value" "[B") (Term.int 2)) (Term.int 115)) (List.mem_of_getElem? (i := 148) (by decide +kernel)))
      | 3, _ => exact (hs (Cond.eq (Term.elem (Term.field (Term.string "VaguePort$Tape" 104) "java/lang/String" "value" "[B") (Term.int 3)) (Term.int 116)) (List.mem_of_getElem? (i := 149) (by decide +kernel)))
      | j + 4, hj => exact absurd hj (by omega))
    (fun i j hi hj h => absurd (by omega) h) hA
  exact ⟨K 0, V 0, vk_S1 h1, h2 0 (by decide), va_eqR (hs (Cond.eq (Term.string "VaguePort$Tape" 104) (Term.string "VaguePortModel" 321)) (List.mem_of_getElem? (i := 291) (by decide +kernel))) (h2 0 (by decide))⟩
