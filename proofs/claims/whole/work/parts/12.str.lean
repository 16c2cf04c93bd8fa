/-! CONSTANTS: strings and static rows; the JDK's length and charAt of them -/
def LENS : List Nat := [6, 7, 6, 4, 10, 5, 3, 4, 6, 2, 4, 8, 4, 4]
def BYTS : List (List Int32) := [[115, 97, 121, 105, 110, 103], [112, 114, 111, 109, 105, 115, 101], [115, 101, 114, 109, 111, 110], [119, 105, 108, 108], [101, 110, 103, 97, 103, 101, 109, 101, 110, 116], [112, 108, 97, 105, 110], [108, 97, 119], [115, 104, 105, 112], [102, 105, 110, 105, 115, 104], [97, 116], [115, 97, 105, 100], [102, 105, 110, 105, 115, 104, 101, 100], [115, 101, 101, 115], [102, 97, 115, 116]]
def strR : List (String × Nat × String × Nat) := [("VaguePort$Kinds", 15, "promise", 1), ("VaguePort$Kinds", 17, "sermon", 2), ("VaguePort$Kinds", 19, "will", 3), ("VaguePort$Kinds", 21, "engagement", 4), ("VaguePort$Kinds", 23, "plain", 5), ("VaguePort$Kinds", 25, "law", 6), ("VaguePort$Kinds", 27, "saying", 0), ("VaguePort$Tape", 102, "sees", 12), ("VaguePort$Tape", 104, "fast", 13), ("VaguePort$Tape", 52, "ship", 7), ("VaguePort$Tape", 62, "finish", 8), ("VaguePort$Tape", 81, "at", 9), ("VaguePort$Tape", 87, "said", 10), ("VaguePort$Tape", 97, "finished", 11), ("VaguePortModel", 27, "saying", 0), ("VaguePortModel", 29, "promise", 1), ("VaguePortModel", 303, "at", 9), ("VaguePortModel", 308, "said", 10), ("VaguePortModel", 31, "sermon", 2), ("VaguePortModel", 310, "finished", 11), ("VaguePortModel", 319, "sees", 12), ("VaguePortModel", 321, "fast", 13), ("VaguePortModel", 326, "ship", 7), ("VaguePortModel", 33, "will", 3), ("VaguePortModel", 331, "finish", 8), ("VaguePortModel", 35, "engagement", 4), ("VaguePortModel", 37, "plain", 5), ("VaguePortModel", 39, "law", 6)]
abbrev CSt : Type := (Nat → Nat) × (Nat → Nat) × Nat × Nat × Nat
def stH : Nat → Int32 := fun k => ([6, 15, 99, 1, 9999] : List Int32).getD k 0
def stL : Nat → Int32 := fun k => ([0, 0, 1, 0] : List Int32).getD k 0
def stM : Nat → Int32 := fun k => ([15, 99, 5, 9999] : List Int32).getD k 0
def CST (cs : CSt) (A : Nat → Prop) (U : State) (H : Heap) : Prop :=
  (∀ i : Nat, i < 14 → vk_S 1 [LENS.getD i 0] [BYTS.getD i []] (fun _ => cs.1 i) (fun _ => cs.2.1 i) A U H) ∧
  va_Z "java/lang/String" "COMPACT_STRINGS" "Z" (.int 1) A U H ∧
  va_Zq "jdk/internal/util/Preconditions" "SIOOBE_FORMATTER" "Ljava/util/function/BiFunction;" A U H ∧
  (∀ q ∈ strR, vk_R q.1 q.2.1 q.2.2.1 (cs.1 q.2.2.2) U) ∧
  (va_Z "VaguePort" "HIGHEST_OF_SAYING" "[I" (.ref cs.2.2.1) A U H ∧ va_T .int cs.2.2.1 5 (fun j => .int (stH j)) A U H) ∧
  (va_Z "VaguePort" "LOWEST_OF_SHIP" "[I" (.ref cs.2.2.2.1) A U H ∧ va_T .int cs.2.2.2.1 4 (fun j => .int (stL j)) A U H) ∧
  (va_Z "VaguePort" "HIGHEST_OF_SHIP" "[I" (.ref cs.2.2.2.2) A U H ∧ va_T .int cs.2.2.2.2 4 (fun j => .int (stM j)) A U H)
theorem CST.kept {cs : CSt} {A : Nat → Prop} {U : State} {H H1 : Heap} (h : CST cs A U H) (hq : ∀ a : Nat, a < H.size → ¬ A a → H1[a]? = H[a]?) : CST cs A U H1 :=
  ⟨fun i hi => (h.1 i hi).kept hq, h.2.1.kept hq, h.2.2.1.kept hq, h.2.2.2.1, ⟨h.2.2.2.2.1.1.kept hq, h.2.2.2.2.1.2.kept hq⟩, ⟨h.2.2.2.2.2.1.1.kept hq, h.2.2.2.2.2.1.2.kept hq⟩, ⟨h.2.2.2.2.2.2.1.kept hq, h.2.2.2.2.2.2.2.kept hq⟩⟩
theorem CST.narrow {cs : CSt} {A B : Nat → Prop} {U : State} {H : Heap} (h : CST cs A U H) (hq : ∀ q, B q → A q) : CST cs B U H :=
  ⟨fun i hi => (h.1 i hi).narrow hq, h.2.1.narrow hq, h.2.2.1.narrow hq, h.2.2.2.1, ⟨h.2.2.2.2.1.1.narrow hq, h.2.2.2.2.1.2.narrow hq⟩, ⟨h.2.2.2.2.2.1.1.narrow hq, h.2.2.2.2.2.1.2.narrow hq⟩, ⟨h.2.2.2.2.2.2.1.narrow hq, h.2.2.2.2.2.2.2.narrow hq⟩⟩
theorem CST.mv {cs : CSt} {A : Nat → Prop} {u U : State} {H : Heap} (hq : u.vm.Alike U.vm) (hR : ∀ q ∈ strR, vk_R q.1 q.2.1 q.2.2.1 (cs.1 q.2.2.2) U) (h : CST cs A u H) : CST cs A U H :=
  ⟨fun i hi => (h.1 i hi).moved hq, h.2.1.moved hq, h.2.2.1.moved hq, hR, ⟨h.2.2.2.2.1.1.moved hq, h.2.2.2.2.1.2.moved hq⟩, ⟨h.2.2.2.2.2.1.1.moved hq, h.2.2.2.2.2.1.2.moved hq⟩, ⟨h.2.2.2.2.2.2.1.moved hq, h.2.2.2.2.2.2.2.moved hq⟩⟩
theorem CST.warm {cs : CSt} {A : Nat → Prop} {s U : State} {H : Heap} (hW : s.WarmedH U.vm) (h : CST cs A s H) : CST cs A U H := CST.mv hW.alike (fun q hq => (h.2.2.2.1 q hq).warm hW) h
theorem CST.call {cs : CSt} {A : Nat → Prop} {U : State} {g : JFrame} {mk : MethodId} {a : Array Value} (h : CST cs A U U.heap) : CST cs A (U.calling g mk a) (U.calling g mk a).heap := CST.mv (u := U) (U := U.calling g mk a) (Vm.Alike.refl U.vm) (fun q hq => vk_R.same (u := U) (U := U.calling g mk a) rfl (h.2.2.2.1 q hq)) h
/-- what a contract asks of the constants: nothing of them is in A -/
abbrev NoA : Nat → Prop := fun _ => False
section ZJ
variable {p : Program} {l : Launch} {e : Env} {R : Room} {s : State} {m : MethodId} {args : Array Value} {below : List Frame} {meth : Method} {c : Code} {H H0 : Heap} {locs : List Loc} {cells slots : Nat} {Q : State → Prop}
  {own : String} {cc : ByteArray} {nL : Nat} {Ts : List Cond} {D : va_G} {cI cS : ClassId} {rest st0 : List Value} {pc : Nat} {ls : Array Slot}
theorem eRy {r v : Int32} {ty : FieldType} (C0 : CX p s m args meth c own cc nL (some ty) Ts D cI cS) (hz : narrow ty (.int v) = .int v) (hv : v = r) (hdg : decode cc pc = .ok (.ireturn, 1)) : W p l e R s m args below meth c s.heap [] cells slots (MQ below (vp_Si (fun x => x = r)) args s cells slots (fun _ => False)) (F0 m pc ls [.int v]) := by
  obtain ⟨hx, hb, hr, hml, hown, hts, hlk, hE⟩ := C0
  exact W.zret hx hb hr hz (fun t ht _ => ⟨v, rfl, hv, ht⟩) (fun q hq => by cases hq) hdg hlk
theorem eRv (C0 : CX p s m args meth c own cc nL none Ts D cI cS) (hdg : decode cc pc = .ok (.return_, 1)) : W p l e R s m args below meth c s.heap [] cells slots (MQ below (va_Sv (fun _ => True)) args s cells slots (fun _ => False)) (F0 m pc ls []) := by
  obtain ⟨hx, hb, hr, hml, hown, hts, hlk, hE⟩ := C0
  exact W.vret hx hb hr (fun t ht _ => ⟨rfl, trivial, ht⟩) (fun q hq => by cases hq) hdg hlk
theorem kRv {a : Array Value} (hr : va_Run p l e R s m args below meth c H locs cells slots 0 0 (F0 m pc ls st0) rest (va_Sv (fun _ => True) a) (fun _ => False)) (kk : W p l e R s m args below meth c H locs cells slots Q (F0 m (pc + 3) ls rest)) : W p l e R s m args below meth c H locs cells slots Q (F0 m pc ls st0) :=
  va_csv hr.toC (fun _ => kk)
/-- an answer that is a string constant -/
def qS (cs : CSt) (k : Nat) : Array Value → State → Outcome → State → Prop := va_Sr (fun x => x = k) (fun x => .ref (cs.1 x))
theorem kRs {cs : CSt} {k : Nat} {a : Array Value} (hr : va_Run p l e R s m args below meth c H locs cells slots 0 0 (F0 m pc ls st0) rest (qS cs k a) (fun _ => False)) (kk : W p l e R s m args below meth c H locs cells slots Q (F0 m (pc + 3) ls (.ref (cs.1 k) :: rest))) : W p l e R s m args below meth c H locs cells slots Q (F0 m pc ls st0) :=
  va_csr hr.toC (fun x hx => by rw [hx]; exact kk)
theorem eRs {cs : CSt} {k : Nat} {n : String} (C0 : CX p s m args meth c own cc nL (some (.object n)) Ts D cI cS) (hdg : decode cc pc = .ok (.areturn, 1)) : W p l e R s m args below meth c s.heap [] cells slots (MQ below (qS cs k) args s cells slots (fun _ => False)) (F0 m pc ls [.ref (cs.1 k)]) := by
  obtain ⟨hx, hb, hr, hml, hown, hts, hlk, hE⟩ := C0
  exact W.aret hx hb hr (Or.inl ⟨n, rfl⟩) (Or.inr ⟨_, rfl⟩) (fun t ht _ => ⟨k, rfl, rfl, ht⟩) (fun q hq => by cases hq) hdg hlk
end ZJ
theorem pdJ3_checkIndex_8e157 : (yJ3_checkIndex_8e157.cls ≠ "java/lang/invoke/MethodHandle" ∧ yJ3_checkIndex_8e157.cls ≠ "java/lang/invoke/VarHandle" ∧ (parseMethodDescriptor yJ3_checkIndex_8e157.desc).map (fun d => d.parameters.length) = some 3) := by decide +kernel
abbrev rmJ3_checkIndex_8e157 : Room := { frames := 0, cells := 0, slots := 0, locals := 0 }
set_option maxHeartbeats 4000000 in
set_option maxRecDepth 100000 in
theorem tJ3_checkIndex_8e157 (l : Launch) (D : va_G) (cI cS : ClassId) (i n : Int32) (fm : Value) (hfm : fm = .null ∨ ∃ t, fm = .ref t) (h0 : ¬ i < 0) (h1 : i < n) : Met l yJ3_checkIndex_8e157 wsJ3_checkIndex_8e157 rmJ3_checkIndex_8e157 (PZ D cI cS [.int i, .int n, fm] (fun U => va_P D vwCl [] U.heap)) (vp_Si (fun x => x = i)) 0 0 (fun _ => False) := by
  refine Met.mk RJ3 (by decide) rfl rfl (by rcases hfm with rfl | ⟨t, rfl⟩ <;> exact Nat.le_of_ble_eq_true rfl) ?_
  intro p e s m below meth c ls C0 hP hl
  have hl : lv_has ls 3 [(0, .int i), (1, .int n), (2, fm)] := hl
  obtain ⟨hx, hb, hr, hml, hown, hts, hlk, hE⟩ := id C0
  have hS : va_S NoA s.heap s.heap [] := va_S.rf
  refine lv_iload_n hx hb dJ3_checkIndex_8e157_0 rfl (lv_at hl 0 rfl) ?_
  refine lv_if_lt (tgt := 9) hx hb dJ3_checkIndex_8e157_1 (by decide) (fun c1 => absurd c1 h0) (fun _ => ?_)
  refine lv_iload_n hx hb dJ3_checkIndex_8e157_4 rfl (lv_at hl 0 rfl) ?_
  refine lv_iload_n hx hb dJ3_checkIndex_8e157_5 rfl (lv_at hl 1 rfl) ?_
  refine lv_icmp_lt (tgt := 16) hx hb dJ3_checkIndex_8e157_6 (by decide) (fun _ => ?_) (fun c2 => absurd h1 c2)
  refine lv_iload_n hx hb dJ3_checkIndex_8e157_16 rfl (lv_at hl 0 rfl) ?_
  exact eRi C0 rfl dJ3_checkIndex_8e157_17
theorem pdJ0_checkIndex_df160 : (yJ0_checkIndex_df160.cls ≠ "java/lang/invoke/MethodHandle" ∧ yJ0_checkIndex_df160.cls ≠ "java/lang/invoke/VarHandle" ∧ (parseMethodDescriptor yJ0_checkIndex_df160.desc).map (fun d => d.parameters.length) = some 2) := by decide +kernel
abbrev rmJ0_checkIndex_df160 : Room := { frames := 1, cells := 0, slots := 0, locals := 22 }
set_option maxHeartbeats 4000000 in
set_option maxRecDepth 100000 in
theorem tJ0_checkIndex_df160 (l : Launch) (D : va_G) (cI cS : ClassId) (cs : CSt) (i n : Int32) (h0 : ¬ i < 0) (h1 : i < n) : Met l yJ0_checkIndex_df160 wsJ0_checkIndex_df160 rmJ0_checkIndex_df160 (PZ D cI cS [.int i, .int n] (fun U => CST cs NoA U U.heap)) (va_Sv (fun _ => True)) 0 0 (fun _ => False) := by
  refine Met.mk RJ0 (by decide) rfl rfl (Nat.le_of_ble_eq_true rfl) ?_
  intro p e s m below meth c ls C0 hC hl
  have hl : lv_has ls 2 [(0, .int i), (1, .int n)] := hl
  obtain ⟨hx, hb, hr, hml, hown, hts, hlk, hE⟩ := id C0
  have hS : va_S NoA s.heap s.heap [] := va_S.rf
  obtain ⟨fm, hfm, hZ⟩ : ∃ fm : Value, (fm = .null ∨ ∃ t, fm = .ref t) ∧ va_Z "jdk/internal/util/Preconditions" "SIOOBE_FORMATTER" "Ljava/util/function/BiFunction;" fm NoA s s.heap := by
    rcases hC.2.2.1 with h | ⟨t, h⟩
    · exact ⟨_, Or.inl rfl, h⟩
    · exact ⟨_, Or.inr ⟨t, rfl⟩, h⟩
  refine lv_iload_n hx hb dJ0_checkIndex_df160_0 rfl (lv_at hl 0 rfl) ?_
  refine lv_iload_n hx hb dJ0_checkIndex_df160_1 rfl (lv_at hl 1 rfl) ?_
  refine va_gets hx hb hZ hS hown (hts _ (List.mem_of_getElem? (i := 1) rfl)) (fun _ h9 => h9) dJ0_checkIndex_df160_2 ?_
  refine kRi (rS C0 (tJ3_checkIndex_8e157 l D cI cS i n fm hfm h0 h1) gJ0_checkIndex_df160_J3_checkIndex_8e157 rfl ⟨rfl, rfl⟩ pdJ3_checkIndex_8e157 rfl ⟨Nat.le_of_ble_eq_true rfl, Nat.le_of_ble_eq_true rfl⟩ (fun _ _ _ _ q => q) (fun _ _ _ _ => vp0) hl.1 rfl (Nat.le_of_ble_eq_true rfl) dJ0_checkIndex_df160_5 ⟨Nat.zero_le _, Nat.zero_le _⟩) ?_
  refine lv_pop hx hb dJ0_checkIndex_df160_8 rfl ?_
  exact eRv C0 dJ0_checkIndex_df160_9
theorem pdJ1_charAt_3b067 : (yJ1_charAt_3b067.cls ≠ "java/lang/invoke/MethodHandle" ∧ yJ1_charAt_3b067.cls ≠ "java/lang/invoke/VarHandle" ∧ (parseMethodDescriptor yJ1_charAt_3b067.desc).map (fun d => d.parameters.length) = some 2) := by decide +kernel
abbrev rmJ1_charAt_3b067 : Room := { frames := 2, cells := 0, slots := 0, locals := 43 }
def CHC (i : Nat) (j : Int32) : Int32 := (BYTS.getD i []).getD j.toNatClampNeg 0
theorem CHC_ok : ∀ i, i < 14 → ∀ j, j < LENS.getD i 0 → ((((BYTS.getD i []).getD j 0 &&& 255).toUInt32 % 65536).toInt32) = (BYTS.getD i []).getD j 0 := by decide +kernel
theorem LEN_ok : ∀ i, i < 14 → LENS.getD i 0 < 2 ^ 31 ∧ Int32.ofNat (LENS.getD i 0) >>> ((0 : Int32) &&& 31) = Int32.ofNat (LENS.getD i 0) := by decide +kernel
set_option maxHeartbeats 4000000 in
set_option maxRecDepth 100000 in
theorem tJ1_charAt_3b067 (l : Launch) (D : va_G) (cI cS : ClassId) (cs : CSt) (i : Nat) (hi : i < 14) (j : Int32) (hj : vp_in j (LENS.getD i 0)) (h1 : j < Int32.ofNat (LENS.getD i 0)) : Met l yJ1_charAt_3b067 wsJ1_charAt_3b067 rmJ1_charAt_3b067 (PZ D cI cS [.ref (cs.2.1 i), .int j] (fun U => CST cs NoA U U.heap)) (vp_Si (fun x => x = CHC i j)) 0 0 (fun _ => False) := by
  refine Met.mk RJ1 (by decide) rfl rfl (Nat.le_of_ble_eq_true rfl) ?_
  intro p e s m below meth c ls C0 hC hl
  have hl : lv_has ls 2 [(0, .ref (cs.2.1 i)), (1, .int j)] := hl
  obtain ⟨hx, hb, hr, hml, hown, hts, hlk, hE⟩ := id C0
  have hS : va_S NoA s.heap s.heap [] := va_S.rf
  have hT : va_T .byte (cs.2.1 i) (LENS.getD i 0) (fun q => .int ((BYTS.getD i []).getD q 0)) NoA s s.heap := ((hC.1 i hi).1 0 (by decide)).2.2.2
  have h0 : ¬ j < 0 := fun q => hj (Or.inl q)
  have hlt : j.toNatClampNeg < LENS.getD i 0 := Nat.not_le.mp fun q => hj (Or.inr q)
  refine lv_iload_n hx hb dJ1_charAt_3b067_0 rfl (lv_at hl 1 rfl) ?_
  refine lv_aload_n hx hb dJ1_charAt_3b067_1 rfl (lv_at hl 0 rfl) ?_
  refine va_tlen (v := Int32.ofNat (LENS.getD i 0)) hx hb hT hS rfl dJ1_charAt_3b067_2 ?_
  refine kRv (rS C0 (tJ0_checkIndex_df160 l D cI cS cs j (Int32.ofNat (LENS.getD i 0)) h0 h1) gJ1_charAt_3b067_J0_checkIndex_df160 rfl ⟨rfl, rfl⟩ pdJ0_checkIndex_df160 rfl ⟨Nat.le_of_ble_eq_true rfl, Nat.le_of_ble_eq_true rfl⟩ (fun _ _ _ _ q => q.call) (fun U hU hW _ => by rw [hU]; exact hC.warm hW) hl.1 rfl (Nat.le_of_ble_eq_true rfl) dJ1_charAt_3b067_3 ⟨Nat.zero_le _, Nat.zero_le _⟩) ?_
  refine lv_aload_n hx hb dJ1_charAt_3b067_6 rfl (lv_at hl 0 rfl) ?_
  refine lv_iload_n hx hb dJ1_charAt_3b067_7 rfl (lv_at hl 1 rfl) ?_
  refine va_tb (v := .int (CHC i j)) hx hb hT hS hj rfl dJ1_charAt_3b067_8 ?_
  refine lv_sipush (v := 255) hx hb dJ1_charAt_3b067_9 (by decide) ?_
  refine lv_iand hx hb dJ1_charAt_3b067_12 ?_
  refine lv_i2c (v := ((CHC i j &&& 255).toUInt32 % 65536).toInt32) hx hb dJ1_charAt_3b067_13 rfl ?_
  exact eRy C0 (pk_nc _) (CHC_ok i hi _ hlt) dJ1_charAt_3b067_14
theorem pdJ0_coder_7d493 : (yJ0_coder_7d493.cls = RJ0 ∧ yJ0_coder_7d493.cls ≠ "java/lang/invoke/MethodHandle" ∧ yJ0_coder_7d493.cls ≠ "java/lang/invoke/VarHandle" ∧ (parseMethodDescriptor yJ0_coder_7d493.desc).map (fun d => d.parameters.length) = some 0) := by decide +kernel
abbrev rmJ0_coder_7d493 : Room := { frames := 0, cells := 0, slots := 0, locals := 0 }
set_option maxHeartbeats 4000000 in
set_option maxRecDepth 100000 in
theorem tJ0_coder_7d493 (l : Launch) (D : va_G) (cI cS : ClassId) (cs : CSt) (i : Nat) (hi : i < 14) : Met l yJ0_coder_7d493 wsJ0_coder_7d493 rmJ0_coder_7d493 (PZ D cI cS [.ref (cs.1 i)] (fun U => CST cs NoA U U.heap)) (vp_Si (fun x => x = 0)) 0 0 (fun _ => False) := by
  refine Met.mk RJ0 (by decide) rfl rfl (Nat.le_of_ble_eq_true rfl) ?_
  intro p e s m below meth c ls C0 hC hl
  have hl : lv_has ls 1 [(0, .ref (cs.1 i))] := hl
  obtain ⟨hx, hb, hr, hml, hown, hts, hlk, hE⟩ := id C0
  have hS : va_S NoA s.heap s.heap [] := va_S.rf
  have hO := (hC.1 i hi).1 0 (by decide)
  refine va_gets hx hb hC.2.1 hS hown (hts _ (List.mem_of_getElem? (i := 1) rfl)) (fun _ h9 => h9) dJ0_coder_7d493_0 ?_
  refine lv_if_eq (tgt := 13) hx hb dJ0_coder_7d493_3 (by decide) (fun c1 => absurd c1 (by decide)) (fun _ => ?_)
  refine lv_aload_n hx hb dJ0_coder_7d493_6 rfl (lv_at hl 0 rfl) ?_
  refine vk_getf hx hb hO.2.1 hS hown (hts _ (List.mem_of_getElem? (i := 2) rfl)) (fun _ h9 => h9) dJ0_coder_7d493_7 ?_
  refine lv_goto (tgt := 14) hx hb dJ0_coder_7d493_10 (by decide) ?_
  exact eRy C0 rfl rfl dJ0_coder_7d493_14
theorem pdJ0_isLatin1_aae02 : (yJ0_isLatin1_aae02.cls = RJ0 ∧ yJ0_isLatin1_aae02.cls ≠ "java/lang/invoke/MethodHandle" ∧ yJ0_isLatin1_aae02.cls ≠ "java/lang/invoke/VarHandle" ∧ (parseMethodDescriptor yJ0_isLatin1_aae02.desc).map (fun d => d.parameters.length) = some 0) := by decide +kernel
abbrev rmJ0_isLatin1_aae02 : Room := { frames := 0, cells := 0, slots := 0, locals := 0 }
set_option maxHeartbeats 4000000 in
set_option maxRecDepth 100000 in
theorem tJ0_isLatin1_aae02 (l : Launch) (D : va_G) (cI cS : ClassId) (cs : CSt) (i : Nat) (hi : i < 14) : Met l yJ0_isLatin1_aae02 wsJ0_isLatin1_aae02 rmJ0_isLatin1_aae02 (PZ D cI cS [.ref (cs.1 i)] (fun U => CST cs NoA U U.heap)) (vp_Si (fun x => x = 1)) 0 0 (fun _ => False) := by
  refine Met.mk RJ0 (by decide) rfl rfl (Nat.le_of_ble_eq_true rfl) ?_
  intro p e s m below meth c ls C0 hC hl
  have hl : lv_has ls 1 [(0, .ref (cs.1 i))] := hl
  obtain ⟨hx, hb, hr, hml, hown, hts, hlk, hE⟩ := id C0
  have hS : va_S NoA s.heap s.heap [] := va_S.rf
  have hO := (hC.1 i hi).1 0 (by decide)
  refine va_gets hx hb hC.2.1 hS hown (hts _ (List.mem_of_getElem? (i := 1) rfl)) (fun _ h9 => h9) dJ0_isLatin1_aae02_0 ?_
  refine lv_if_eq (tgt := 17) hx hb dJ0_isLatin1_aae02_3 (by decide) (fun c1 => absurd c1 (by decide)) (fun _ => ?_)
  refine lv_aload_n hx hb dJ0_isLatin1_aae02_6 rfl (lv_at hl 0 rfl) ?_
  refine vk_getf hx hb hO.2.1 hS hown (hts _ (List.mem_of_getElem? (i := 2) rfl)) (fun _ h9 => h9) dJ0_isLatin1_aae02_7 ?_
  refine lv_if_ne (tgt := 17) hx hb dJ0_isLatin1_aae02_10 (by decide) (fun c1 => absurd rfl c1) (fun _ => ?_)
  refine lv_iconst (v := 1) hx hb dJ0_isLatin1_aae02_13 (by decide) ?_
  refine lv_goto (tgt := 18) hx hb dJ0_isLatin1_aae02_14 (by decide) ?_
  exact eRy C0 rfl rfl dJ0_isLatin1_aae02_18
theorem pdJ0_length_8abf5 : (yJ0_length_8abf5.cls = RJ0 ∧ yJ0_length_8abf5.cls ≠ "java/lang/invoke/MethodHandle" ∧ yJ0_length_8abf5.cls ≠ "java/lang/invoke/VarHandle" ∧ (parseMethodDescriptor yJ0_length_8abf5.desc).map (fun d => d.parameters.length) = some 0) := by decide +kernel
abbrev rmJ0_length_8abf5 : Room := { frames := 1, cells := 0, slots := 0, locals := 20 }
set_option maxHeartbeats 4000000 in
set_option maxRecDepth 100000 in
theorem tJ0_length_8abf5 (l : Launch) (D : va_G) (cI cS : ClassId) (cs : CSt) (i : Nat) (hi : i < 14) : Met l yJ0_length_8abf5 wsJ0_length_8abf5 rmJ0_length_8abf5 (PZ D cI cS [.ref (cs.1 i)] (fun U => CST cs NoA U U.heap)) (vp_Si (fun x => x = Int32.ofNat (LENS.getD i 0))) 0 0 (fun _ => False) := by
  refine Met.mk RJ0 (by decide) rfl rfl (Nat.le_of_ble_eq_true rfl) ?_
  intro p e s m below meth c ls C0 hC hl
  have hl : lv_has ls 1 [(0, .ref (cs.1 i))] := hl
  obtain ⟨hx, hb, hr, hml, hown, hts, hlk, hE⟩ := id C0
  have hS : va_S NoA s.heap s.heap [] := va_S.rf
  have hO := (hC.1 i hi).1 0 (by decide)
  refine lv_aload_n hx hb dJ0_length_8abf5_0 rfl (lv_at hl 0 rfl) ?_
  refine vk_getf hx hb hO.2.2.1 hS hown (hts _ (List.mem_of_getElem? (i := 1) rfl)) (fun _ h9 => h9) dJ0_length_8abf5_1 ?_
  refine va_tlen (v := Int32.ofNat (LENS.getD i 0)) hx hb hO.2.2.2 hS rfl dJ0_length_8abf5_4 ?_
  refine lv_aload_n hx hb dJ0_length_8abf5_5 rfl (lv_at hl 0 rfl) ?_
  refine kRi (rV C0 (tJ0_coder_7d493 l D cI cS cs i hi) RJ0 gJ0_length_8abf5_J0_coder_7d493 rfl ⟨rfl, rfl⟩ pdJ0_coder_7d493 rfl ⟨Nat.le_of_ble_eq_true rfl, Nat.le_of_ble_eq_true rfl⟩ (fun _ _ _ _ q => q.call) (vk_recv (hC.1 i hi) (i := 0) (by decide) hS) (fun U hU hW _ => by rw [hU]; exact hC.warm hW) hl.1 rfl (Nat.le_of_ble_eq_true rfl) dJ0_length_8abf5_6 ⟨Nat.zero_le _, Nat.zero_le _⟩) ?_
  refine lv_ishr hx hb dJ0_length_8abf5_9 ?_
  exact eRi C0 (LEN_ok i hi).2 dJ0_length_8abf5_10
theorem pdJ0_charAt_5068e : (yJ0_charAt_5068e.cls = RJ0 ∧ yJ0_charAt_5068e.cls ≠ "java/lang/invoke/MethodHandle" ∧ yJ0_charAt_5068e.cls ≠ "java/lang/invoke/VarHandle" ∧ (parseMethodDescriptor yJ0_charAt_5068e.desc).map (fun d => d.parameters.length) = some 1) := by decide +kernel
abbrev rmJ0_charAt_5068e : Room := { frames := 3, cells := 0, slots := 0, locals := 64 }
set_option maxHeartbeats 4000000 in
set_option maxRecDepth 100000 in
theorem tJ0_charAt_5068e (l : Launch) (D : va_G) (cI cS : ClassId) (cs : CSt) (i : Nat) (hi : i < 14) (j : Int32) (hj : vp_in j (LENS.getD i 0)) (h1 : j < Int32.ofNat (LENS.getD i 0)) : Met l yJ0_charAt_5068e wsJ0_charAt_5068e rmJ0_charAt_5068e (PZ D cI cS [.ref (cs.1 i), .int j] (fun U => CST cs NoA U U.heap)) (vp_Si (fun x => x = CHC i j)) 0 0 (fun _ => False) := by
  refine Met.mk RJ0 (by decide) rfl rfl (Nat.le_of_ble_eq_true rfl) ?_
  intro p e s m below meth c ls C0 hC hl
  have hl : lv_has ls 2 [(0, .ref (cs.1 i)), (1, .int j)] := hl
  obtain ⟨hx, hb, hr, hml, hown, hts, hlk, hE⟩ := id C0
  have hS : va_S NoA s.heap s.heap [] := va_S.rf
  have hO := (hC.1 i hi).1 0 (by decide)
  have hlt : j.toNatClampNeg < LENS.getD i 0 := Nat.not_le.mp fun q => hj (Or.inr q)
  refine lv_aload_n hx hb dJ0_charAt_5068e_0 rfl (lv_at hl 0 rfl) ?_
  refine kRi (rV C0 (tJ0_isLatin1_aae02 l D cI cS cs i hi) RJ0 gJ0_charAt_5068e_J0_isLatin1_aae02 rfl ⟨rfl, rfl⟩ pdJ0_isLatin1_aae02 rfl ⟨Nat.le_of_ble_eq_true rfl, Nat.le_of_ble_eq_true rfl⟩ (fun _ _ _ _ q => q.call) (vk_recv (hC.1 i hi) (i := 0) (by decide) hS) (fun U hU hW _ => by rw [hU]; exact hC.warm hW) hl.1 rfl (Nat.le_of_ble_eq_true rfl) dJ0_charAt_5068e_1 ⟨Nat.zero_le _, Nat.zero_le _⟩) ?_
  refine lv_if_eq (tgt := 16) hx hb dJ0_charAt_5068e_4 (by decide) (fun c1 => absurd c1 (by decide)) (fun _ => ?_)
  refine lv_aload_n hx hb dJ0_charAt_5068e_7 rfl (lv_at hl 0 rfl) ?_
  refine vk_getf hx hb hO.2.2.1 hS hown (hts _ (List.mem_of_getElem? (i := 1) rfl)) (fun _ h9 => h9) dJ0_charAt_5068e_8 ?_
  refine lv_iload_n hx hb dJ0_charAt_5068e_11 rfl (lv_at hl 1 rfl) ?_
  refine kRi (rS C0 (tJ1_charAt_3b067 l D cI cS cs i hi j hj h1) gJ0_charAt_5068e_J1_charAt_3b067 rfl ⟨rfl, rfl⟩ pdJ1_charAt_3b067 rfl ⟨Nat.le_of_ble_eq_true rfl, Nat.le_of_ble_eq_true rfl⟩ (fun _ _ _ _ q => q.call) (fun U hU hW _ => by rw [hU]; exact hC.warm hW) hl.1 rfl (Nat.le_of_ble_eq_true rfl) dJ0_charAt_5068e_12 ⟨Nat.zero_le _, Nat.zero_le _⟩) ?_
  exact eRy C0 (by rw [CHC, ← CHC_ok i hi _ hlt]; exact pk_nc _) rfl dJ0_charAt_5068e_15
set_option maxHeartbeats 4000000 in
set_option maxRecDepth 100000 in
theorem tX4_numberT (l : Launch) (D : va_G) (cI cS : ClassId) (a n : Nat) (f : Nat → Int32) (i : Int32) (hn : n < 2 ^ 31) : Met l yX4_numberAt wsX4_numberAt rmX4_numberAt (PZ D cI cS [.ref a, .int i] (fun U => va_T .int a n (fun j => .int (f j)) NoA U U.heap)) (vp_Si (fun x => x = fX4_numberAt n f i)) 0 0 (fun _ => False) := by
  refine Met.mk RX4 (by decide) rfl rfl (Nat.le_of_ble_eq_true rfl) ?_
  intro p e s m below meth c ls C0 hX hl
  have hl : lv_has ls 2 [(0, .ref a), (1, .int i)] := hl
  obtain ⟨hx, hb, hr, hml, hown, hts, hlk, hE⟩ := id C0
  have hS : va_S NoA s.heap s.heap [] := va_S.rf
  refine lv_iload_n hx hb dX4_numberAt_0 rfl (lv_at hl 1 rfl) ?_
  refine lv_if_lt (tgt := 16) hx hb dX4_numberAt_1 (by decide) (fun c1 => ?_) (fun c1 => ?_)
  · refine lv_iconst (v := 0) hx hb dX4_numberAt_16 (by decide) ?_
    exact eRi C0 (by rw [fX4_numberAt, if_pos c1]) dX4_numberAt_17
  · refine lv_iload_n hx hb dX4_numberAt_4 rfl (lv_at hl 1 rfl) ?_
    refine lv_aload_n hx hb dX4_numberAt_5 rfl (lv_at hl 0 rfl) ?_
    refine va_tlen (v := Int32.ofNat n) hx hb hX hS rfl dX4_numberAt_6 ?_
    refine lv_icmp_ge (tgt := 16) hx hb dX4_numberAt_7 (by decide) (fun c2 => ?_) (fun c2 => ?_)
    · refine lv_iconst (v := 0) hx hb dX4_numberAt_16 (by decide) ?_
      exact eRi C0 (by rw [fX4_numberAt, if_neg c1, if_pos c2]) dX4_numberAt_17
    · refine lv_aload_n hx hb dX4_numberAt_10 rfl (lv_at hl 0 rfl) ?_
      refine lv_iload_n hx hb dX4_numberAt_11 rfl (lv_at hl 1 rfl) ?_
      refine va_ti (v := .int (f i.toNatClampNeg)) hx hb hX hS (in_ofN c1 c2 hn) rfl dX4_numberAt_12 ?_
      refine lv_goto (tgt := 17) hx hb dX4_numberAt_13 (by decide) ?_
      exact eRi C0 (by rw [fX4_numberAt, if_neg c1, if_neg c2]) dX4_numberAt_17
section ZL
variable {p : Program} {l : Launch} {e : Env} {R : Room} {s : State} {m : MethodId} {args : Array Value} {below : List Frame} {meth : Method} {c : Code} {H : Heap} {locs : List Loc} {cells slots : Nat} {Q : State → Prop}
  {cc : ByteArray} {rest : List Value} {pc : Nat} {ls : Array Slot}
theorem ldwS (hexec : p.tables.exec = Jvm.exec) (hb : c.code = cc) {own tx : String} {index q : Nat} (hown : s.vm.findClass own = some m.cls) (hZ : vk_R own index tx q s) (hdg : decode cc pc = .ok (.ldc_w index, 3))
    (k : W p l e R s m args below meth c H locs cells slots Q (F0 m (pc + 3) ls (.ref q :: rest))) : W p l e R s m args below meth c H locs cells slots Q (F0 m pc ls rest) := by
  intro T hT X
  subst hb
  obtain ⟨t, a1, b1⟩ := k T hT X
  refine ⟨t, ?_, b1⟩
  obtain ⟨kc, cf, i, a', hk, hcf, hcp, -, hr, hev'⟩ := Cond.stringRef_spec hown hZ.1
  cases hZ.2.symm.trans hev'
  obtain ⟨k', hk', he⟩ := X.warmed.alike.2.2 _ _ hk
  have hr' : k'.resolved[index]? = some (some (.string q)) := by
    rcases X.warmed.entry hk hk' index with h | ⟨h, -⟩
    · rw [h]; exact hr
    · rw [hr] at h; cases h
  jvm_step X.here [hexec, hdg, ldc_w.wp_string (e := e) (s := T) (f := F0 m pc ls rest) X.here.top hk' (by rw [he]; exact hcf) hcp hr']
  exact a1
end ZL
theorem in_lt {j : Int32} {n : Nat} (h : vp_in j n) (hn : n < 2 ^ 31) : j < Int32.ofNat n := by
  obtain ⟨-, h2⟩ := vp_in_iff.mp h
  have e : (nI n).toInt = (n : Int) := nI_toInt hn
  exact Int32.lt_iff_toInt_lt.mpr (by rw [show Int32.ofNat n = nI n from rfl, e]; exact h2)
theorem va_D.inA {A : Nat → Prop} {ws wc : va_W} (hD : va_D A ws) (isC : List Nat) (hC : isC.map (fun i => ws[i]?) = wc.map some) {q : Nat} (h : wA wc q) : A q := by
  obtain ⟨k, e, hk⟩ := (wA.sub isC hC h).of
  exact hD.2 k _ hk
theorem nzb {v : Int32} (h : v = 0 ∨ v = 1) : narrow .boolean (.int v) = .int v := by rcases h with rfl | rfl <;> rfl
theorem in_n {j : Int32} {n : Nat} (h : vp_in j n) : j.toNatClampNeg < n := Nat.not_le.mp fun q => h (Or.inr q)
