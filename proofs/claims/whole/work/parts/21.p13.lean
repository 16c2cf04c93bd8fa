/-! PURE, thirteenth part: sheets -/
theorem ixS (s k : Nat) : (nI s * 40) + nI k = nI (40 * s + k) := by
  rw [li 40, pk_mul, nI_add, Nat.mul_comm]
theorem ixM (s k : Nat) : (40 * nI s) + nI k = nI (40 * s + k) := by
  rw [li 40, pk_mul, nI_add]
theorem in4 {s : Nat} (h : s < 4) : ¬ (nI s < 0 ∨ 4 ≤ (nI s).toNatClampNeg) := nI_in h (by decide)
theorem in160 {i : Nat} (h : i < 160) : ¬ (nI i < 0 ∨ 160 ≤ (nI i).toNatClampNeg) := nI_in h (by decide)
theorem in40 {i : Nat} (h : i < 40) : ¬ (nI i < 0 ∨ 40 ≤ (nI i).toNatClampNeg) := nI_in h (by decide)
theorem hs_ex2 {ns : Nat} {x : Int32} (hns : ns < 2 ^ 30) (h : ¬ fX4_within x 0 (nI ns - 1) = 0) : ∃ k, k < ns ∧ x = nI k := by
  cases ns with
  | zero =>
    have h2 : 0 ≤ x ∧ x ≤ nI 0 - 1 := Classical.byContradiction fun q => h (wi_iff.mpr q)
    have h3 := Int32.le_iff_toInt_le.mp h2.1
    have h4 := Int32.le_iff_toInt_le.mp h2.2
    rw [show (nI 0 - 1).toInt = -1 from by decide] at h4
    rw [show (0 : Int32).toInt = 0 from by decide] at h3
    omega
  | succ ns =>
    rw [nI_pred] at h
    obtain ⟨k, h1, h2⟩ := wi_ex (n := ns) rfl (by omega) h
    exact ⟨k, by omega, h2⟩
theorem shBits {bt : Nat → Int32} {s : Nat} (hs : s < 4) : fX2_bitsOf bt (nI s) = bt s := num_at hs (by decide)
theorem shSize {sz : Nat → Int32} {s : Nat} (hs : s < 4) : fX2_sizeOf sz (nI s) = sz s := num_at hs (by decide)
theorem shNum {nm : Nat → Int32} {s k : Nat} (h : 40 * s + k < 160) : fX2_numberOf nm (nI s) (nI k) = nm (40 * s + k) := by
  unfold fX2_numberOf
  rw [ixS, num_at h (by decide)]
theorem shMis {bt : Nat → Int32} {s : Nat} (hs : s < 4) : fX2_isMissing bt (nI s) = if bt s = 0 then 1 else 0 := by
  unfold fX2_isMissing
  rw [shBits hs]
theorem flt (bt : Nat → Int32) (x : Int32) : (fX4_isSheet x = 0 ∧ fX4_faultOfSheet bt x = -1000001) ∨ ∃ s, s < 4 ∧ x = nI s ∧ ¬ fX4_isSheet x = 0 ∧ ((bt s = 0 ∧ fX4_faultOfSheet bt x = -1000006) ∨ (¬ bt s = 0 ∧ fX4_faultOfSheet bt x = 0)) := by
  unfold fX4_faultOfSheet
  by_cases c : fX4_isSheet x = 0
  · rw [if_pos c]; exact Or.inl ⟨c, rfl⟩
  · obtain ⟨s, hs, rfl⟩ := wi_ex (n := 3) rfl (by decide) c
    rw [if_neg c, shMis (by omega)]
    refine Or.inr ⟨s, by omega, rfl, c, ?_⟩
    by_cases e : bt s = 0
    · rw [if_pos e, if_neg (by decide)]; exact Or.inl ⟨e, rfl⟩
    · rw [if_neg e, if_pos rfl]; exact Or.inr ⟨e, rfl⟩
theorem mlk {bt sz nm wd mz mn : Nat → Int32} (hS : SHT bt sz nm wd mz mn) (x y : Int32) : fX5_lacks wd x y = some (if fX4_faultOfSheet bt x = 0 then (if y = 0 then -1000001 else 0) else fX4_faultOfSheet bt x) := by
  unfold fX5_lacks
  rw [show fX5_isSheet x = fX4_isSheet x from rfl]
  rcases flt bt x with ⟨c, e⟩ | ⟨s, hs, rfl, c, ⟨b, e⟩ | ⟨b, e⟩⟩
  · rw [if_pos c, e, if_neg (by decide)]
  · rw [if_neg c, if_pos (in4 hs), nI_clamp (by omega), (hS.1 s hs).1, if_pos b, e, if_neg (by decide)]
  · rw [if_neg c, if_pos (in4 hs), nI_clamp (by omega), (hS.1 s hs).1, if_neg b, e, if_pos rfl]
    by_cases hy : y = 0
    · rw [if_pos hy, if_pos hy]
    · rw [if_neg hy, if_neg hy]
theorem FD.fault {fd fm bt : Nat → Int32} {x : Int32} (h : FD fd fm) (c : ¬ fX4_faultOfSheet bt x = 0) : ∃ fm', fX5_finding fm (fX4_faultOfSheet bt x) = some (fX4_faultOfSheet bt x, fm') ∧ FD (fX4_finding_o1 fd (fX4_faultOfSheet bt x)) fm' := by
  rcases flt bt x with ⟨_, e⟩ | ⟨s, hs, rfl, _, ⟨b, e⟩ | ⟨b, e⟩⟩
  · rw [e]; exact h.beyond
  · rw [e]; exact h.missing
  · exact absurd e c
theorem fltOK {bt : Nat → Int32} {x : Int32} (c : fX4_faultOfSheet bt x = 0) : ∃ s, s < 4 ∧ x = nI s ∧ ¬ fX4_isSheet x = 0 ∧ ¬ bt s = 0 := by
  rcases flt bt x with ⟨_, e⟩ | ⟨s, hs, e0, c0, ⟨b, e⟩ | ⟨b, e⟩⟩
  · rw [e] at c; exact absurd c (by decide)
  · rw [e] at c; exact absurd c (by decide)
  · exact ⟨s, hs, e0, c0, b⟩
theorem layL {bt sz wd mz fm : Nat → Int32} {s : Nat} {z : Int32} (hs : s < 4) : ∀ (c n k : Nat) (nm mn : Nat → Int32), k + c = 40 → c < n → (∀ i, i < 160 → mn i = nm i) → ∃ nm' mn', fX2_lay_33 bt sz (nI s) z n (nI k) nm = some (z, bt, sz, nm') ∧ fX5_sheet_86 fm wd mz (nI s) n (nI k) mn = some (mz s, fm, wd, mz, mn') ∧ ∀ i, i < 160 → mn' i = nm' i := by
  intro c
  induction c with
  | zero =>
    intro n k nm mn h1 h2 h3
    obtain ⟨n, rfl⟩ : ∃ q, n = q + 1 := ⟨n - 1, by omega⟩
    obtain rfl : k = 40 := by omega
    rw [fX2_lay_33, fX5_sheet_86, if_pos (show (40 : Int32) ≤ nI 40 by decide), if_pos (show (40 : Int32) ≤ nI 40 by decide), if_pos (in4 hs), nI_clamp (by omega)]
    exact ⟨nm, mn, rfl, rfl, h3⟩
  | succ c ih =>
    intro n k nm mn h1 h2 h3
    obtain ⟨n, rfl⟩ : ∃ q, n = q + 1 := ⟨n - 1, by omega⟩
    rw [fX2_lay_33, fX5_sheet_86, if_neg (show ¬ (40 : Int32) ≤ nI k from nI_ge (b := 40) (by omega) (by omega)), if_neg (show ¬ (40 : Int32) ≤ nI k from nI_ge (b := 40) (by omega) (by omega)), ixS, ixM, if_pos (in160 (by omega)), nI_clamp (by omega), put_at (by omega) (by decide), nI_1]
    refine ih n (k + 1) _ _ (by omega) (by omega) fun i hi => ?_
    by_cases e : i = 40 * s + k
    · subst e; rw [updS, updS]
    · rw [updN e, updN e]; exact h3 i hi
theorem shA {bt sz nm wd mz mn fm : Nat → Int32} {s n F : Nat} {x2 : Int32} (hFu : 300 ≤ F) (hS : SHT bt sz nm wd mz mn) (hs : s < 4) (hn : n ≤ 40) (hx : x2 = 0 ∨ x2 = 8 ∨ x2 = 16 ∨ x2 = 32) : ∃ r bt' sz' nm' wd' mz' mn', fX2_lay F bt sz nm (nI s) x2 (nI n) = some (r, bt', sz', nm') ∧ (if x2 = 0 then fX5_sheet_86 fm (upd wd s x2) (upd mz s 0) (nI s) F 0 mn else fX5_sheet_86 fm (upd wd s x2) (upd mz s (nI n)) (nI s) F 0 mn) = some (r, fm, wd', mz', mn') ∧ SHT bt' sz' nm' wd' mz' mn' := by
  unfold fX2_lay
  have key : ∀ (z : Int32), ex 40 z → (x2 = 0 → z = 0) → ∃ nm' mn', fX2_lay_33 (upd bt s x2) (upd sz s z) (nI s) z F 0 nm = some (z, upd bt s x2, upd sz s z, nm') ∧ fX5_sheet_86 fm (upd wd s x2) (upd mz s z) (nI s) F 0 mn = some (z, fm, upd wd s x2, upd mz s z, mn') ∧ SHT (upd bt s x2) (upd sz s z) nm' (upd wd s x2) (upd mz s z) mn' := by
    intro z hz h0
    obtain ⟨nm', mn', g1, g2, g3⟩ := layL (bt := upd bt s x2) (sz := upd sz s z) (wd := upd wd s x2) (mz := upd mz s z) (fm := fm) (z := z) hs 40 F 0 nm mn (by omega) (by omega) hS.2
    refine ⟨nm', mn', g1, ?_, fun t ht => ?_, g3⟩
    · rw [updS] at g2; exact g2
    · by_cases e : t = s
      · subst e; rw [updS, updS, updS, updS]; exact ⟨rfl, rfl, hx, hz, h0⟩
      · rw [updN e, updN e, updN e, updN e]; exact hS.1 t ht
  rw [put_at hs (by decide), put_at hs (by decide), put_at hs (by decide)]
  by_cases e : x2 = 0
  · rw [if_pos e, if_pos e]
    obtain ⟨nm', mn', g1, g2, g3⟩ := key 0 ⟨0, by omega, rfl⟩ (fun _ => rfl)
    exact ⟨_, _, _, _, _, _, _, g1, g2, g3⟩
  · rw [if_neg e, if_neg e]
    obtain ⟨nm', mn', g1, g2, g3⟩ := key (nI n) ⟨n, hn, rfl⟩ (fun q => absurd q e)
    exact ⟨_, _, _, _, _, _, _, g1, g2, g3⟩
section OP
variable {ppl psp psy psh kpl ksp ksy ksh bs bt sz nm fd : Nat → Int32} {ik psc pnc pdy pzz ksc knc kdy kzz ln : Int32} {nw kp fm tp wd mz mn : Nat → Int32} {mi td : Int32}
theorem op_sheet {F : Nat} (hFu : 300 ≤ F) (h : AG ppl psp psy psh kpl ksp ksy ksh bs bt sz nm fd ik psc pnc pdy pzz ksc knc kdy kzz ln nw kp fm tp wd mz mn mi td) (x1 x2 x3 : Int32) :
    ∃ r bt' sz' nm' fd' fm' wd' mz' mn', fX4_sheet F bt sz nm fd x1 x2 x3 = some (r, bt', sz', nm', fd') ∧ fX5_sheet F fm wd mz mn x1 x2 x3 = some (r, fm', wd', mz', mn') ∧ AG ppl psp psy psh kpl ksp ksy ksh bs bt' sz' nm' fd' ik psc pnc pdy pzz ksc knc kdy kzz ln nw kp fm' tp wd' mz' mn' mi td := by
  obtain ⟨hX, hK, hF, hT, hS⟩ := h
  obtain ⟨fm1, q1, p1⟩ := hF.beyond
  obtain ⟨fm2, q2, p2⟩ := hF.size
  unfold fX4_sheet fX5_sheet
  rw [show fX5_isSheet x1 = fX4_isSheet x1 from rfl, q1, q2]
  by_cases c1 : fX4_isSheet x1 = 0
  · rw [if_pos c1, if_pos c1]; exact ⟨_, _, _, _, _, _, _, _, _, rfl, rfl, hX, hK, p1, hT, hS⟩
  rw [if_neg c1, if_neg c1]
  obtain ⟨s, hs, rfl⟩ := wi_ex (n := 3) rfl (by decide) c1
  have hs4 : s < 4 := by omega
  by_cases b : x2 = 0 ∨ x2 = 8 ∨ x2 = 16 ∨ x2 = 32
  · have key : ∀ (A B : Option (Int32 × (Nat → Int32) × (Nat → Int32) × (Nat → Int32) × (Nat → Int32))), (if x2 = 0 then A else if x2 = 8 then A else if x2 = 16 then A else if x2 = 32 then A else B) = A := by
      intro A B
      rcases b with rfl | rfl | rfl | rfl
      · rw [if_pos rfl]
      · rw [if_neg (by decide), if_pos rfl]
      · rw [if_neg (by decide), if_neg (by decide), if_pos rfl]
      · rw [if_neg (by decide), if_neg (by decide), if_neg (by decide), if_pos rfl]
    rw [key, key]
    by_cases c2 : 0 ≤ x3
    · rw [if_pos c2, if_pos c2]
      by_cases c3 : x3 ≤ 40
      · obtain ⟨n, hn, rfl⟩ := nI_of2 (M := 40) (n := 40) (by decide) (Int32.not_lt.mpr c2) c3
        rw [if_pos c3, if_pos c3, if_pos (in4 hs4), if_pos (in4 hs4), if_pos (in4 hs4), nI_clamp (by omega)]
        obtain ⟨r, bt', sz', nm', wd', mz', mn', g1, g2, g3⟩ := shA (fm := fm) hFu hS hs4 hn b
        rw [g1, g2, oSome]
        exact ⟨_, _, _, _, _, _, _, _, _, rfl, rfl, hX, hK, hF, hT, g3⟩
      · rw [if_neg c3, if_neg c3]; exact ⟨_, _, _, _, _, _, _, _, _, rfl, rfl, hX, hK, p1, hT, hS⟩
    · rw [if_neg c2, if_neg c2]; exact ⟨_, _, _, _, _, _, _, _, _, rfl, rfl, hX, hK, p2, hT, hS⟩
  · rw [if_neg (fun q => b (Or.inl q)), if_neg (fun q => b (Or.inr (Or.inl q))), if_neg (fun q => b (Or.inr (Or.inr (Or.inl q)))), if_neg (fun q => b (Or.inr (Or.inr (Or.inr q)))), if_neg (fun q => b (Or.inl q)), if_neg (fun q => b (Or.inr (Or.inl q))), if_neg (fun q => b (Or.inr (Or.inr (Or.inl q)))), if_neg (fun q => b (Or.inr (Or.inr (Or.inr q))))]
    exact ⟨_, _, _, _, _, _, _, _, _, rfl, rfl, hX, hK, p1, hT, hS⟩
theorem op_write (h : AG ppl psp psy psh kpl ksp ksy ksh bs bt sz nm fd ik psc pnc pdy pzz ksc knc kdy kzz ln nw kp fm tp wd mz mn mi td) (x1 x2 x3 : Int32) :
    ∃ r nm' fd' fm' mn', fX4_write bt sz nm fd x1 x2 x3 = (r, nm', fd') ∧ fX5_write fm wd mz mn x1 x2 x3 = some (r, fm', mn') ∧ AG ppl psp psy psh kpl ksp ksy ksh bs bt sz nm' fd' ik psc pnc pdy pzz ksc knc kdy kzz ln nw kp fm' tp wd mz mn' mi td := by
  obtain ⟨hX, hK, hF, hT, hS⟩ := h
  obtain ⟨fm1, q1, p1⟩ := hF.beyond
  obtain ⟨fm2, q2, p2⟩ := hF.missing
  unfold fX4_write fX5_write
  rw [show fX5_isSheet x1 = fX4_isSheet x1 from rfl, q1, q2, oSome, oSome, wi_eq]
  rcases flt bt x1 with ⟨c, e⟩ | ⟨s, hs, rfl, c, ⟨b, e⟩ | ⟨b, e⟩⟩
  · rw [if_pos c, e, if_neg (by decide)]; exact ⟨_, _, _, _, _, rfl, rfl, hX, hK, p1, hT, hS⟩
  · rw [if_neg c, e, if_neg (by decide), if_pos (in4 hs), nI_clamp (by omega), (hS.1 s hs).1, if_pos b]; exact ⟨_, _, _, _, _, rfl, rfl, hX, hK, p2, hT, hS⟩
  · rw [if_neg c, e, if_pos rfl, if_pos (in4 hs), if_pos (in4 hs), if_pos (in4 hs), nI_clamp (by omega), (hS.1 s hs).1, if_neg b, (hS.1 s hs).2.1, shSize hs]
    by_cases c2 : fX4_within x2 0 (sz s - 1) = 0
    · rw [if_pos c2, if_pos c2]; exact ⟨_, _, _, _, _, rfl, rfl, hX, hK, p1, hT, hS⟩
    · rw [if_neg c2, if_neg c2]
      obtain ⟨q, hq, eq⟩ := (hS.1 s hs).2.2.2.1
      obtain ⟨k, hk, rfl⟩ : ∃ k, k < 40 ∧ x2 = nI k := by
        obtain ⟨k, hk, e3⟩ := hs_ex2 (ns := q) (x := x2) (by omega) (by rw [eq] at c2; exact c2)
        exact ⟨k, by omega, e3⟩
      rw [ixM, if_pos (in160 (by omega)), nI_clamp (by omega)]
      have ep : fX2_put bt nm (nI s) (nI k) x3 = upd nm (40 * s + k) (fX5_cutTo x3 (bt s)) := by
        unfold fX2_put fX5_cutTo
        rw [ixS, shBits hs, put_at (by omega) (by decide), put_at (by omega) (by decide), put_at (by omega) (by decide)]
        by_cases e8 : bt s = 8
        · rw [if_pos e8, if_pos e8]
        · rw [if_neg e8, if_neg e8]
          by_cases e16 : bt s = 16
          · rw [if_pos e16, if_pos e16]
          · rw [if_neg e16, if_neg e16]
      rw [ep]
      refine ⟨_, _, _, _, _, rfl, rfl, hX, hK, hF, hT, hS.1, fun i hi => ?_⟩
      by_cases e4 : i = 40 * s + k
      · subst e4; rw [updS, updS]
      · rw [updN e4, updN e4]; exact hS.2 i hi
end OP
