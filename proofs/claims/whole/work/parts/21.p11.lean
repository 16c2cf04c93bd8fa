/-! PURE, eleventh part: ahead, later, fog, lands, closes, settled -/
theorem cBeh {ppl psp psy psh tpl tsp tsy tsh : Nat → Int32} {ns nv d F N : Nat} {pzz tsc tnc tdy tzz : Int32} (hE : EI ppl psp psy psh ns nv d) (hF : 8 < F) (hN : N < F) (hN2 : N < 2 ^ 30) (mv : Int32) :
    fX4_behindDays F ppl psp psy psh tpl tsp tsy tsh (nI ns) (nI nv) (nI d) pzz tsc tnc tdy tzz (nI N) mv = some (va_cpy ppl tpl 0 0 6, va_cpy psp tsp 0 0 10, syN (va_cpy ppl tpl 0 0 6) ns N d (va_cpy psy tsy 0 0 40), shN (mkB mv) (va_cpy ppl tpl 0 0 6) ns nv N d (va_cpy psy tsy 0 0 40) (va_cpy psh tsh 0 0 24), nI ns, nI nv, nI (min (d + N) 99999), pzz) := by
  have e := cPassE (pl := va_cpy ppl tpl 0 0 6) (sy := va_cpy psy tsy 0 0 40) (sh := va_cpy psh tsh 0 0 24) hE.1 hE.2.1 hF (hE.tr (tl := tpl) (tp := tsp) (ty := tsy) (th := tsh)).2.2.2.1 hN hN2 mv hE.2.2.1
  unfold fX4_behindDays
  show Option.bind (fX0_passDays F (va_cpy ppl tpl 0 0 6) (va_cpy psy tsy 0 0 40) (va_cpy psh tsh 0 0 24) (nI ns) (nI nv) (nI d) (nI N) mv) _ = _
  rw [e, oSome]
  rfl
theorem cPass1 {pl sy sh : Nat → Int32} {ns nv F d : Nat} (hns : ns ≤ 8) (hnv : nv ≤ 6) (hF : 8 < F) (hpl : ∀ i, i < 6 → ex 8 (pl i)) (mv : Int32) (hd : d ≤ 99999) : fX0_passDays F pl sy sh (nI ns) (nI nv) (nI d) 1 mv = some (daySy ns (pl (d % 6)).toNatClampNeg (nI d) sy, shR (mkB mv) sy ns nv 0 sh, nI (min (d + 1) 99999)) := cPassE (N := 1) hns hnv hF hpl (by omega) (by omega) mv hd
theorem mkB1 {u : Nat} (hu : u < 6) : mkB (1 <<< (nI u &&& 31)) u = true := by
  rcases (show u = 0 ∨ u = 1 ∨ u = 2 ∨ u = 3 ∨ u = 4 ∨ u = 5 by omega) with rfl | rfl | rfl | rfl | rfl | rfl <;> decide
theorem mNone {fd fm : Nat → Int32} (h : FD fd fm) : ∃ fm', fX5_orNone fm (-1) = some (-1000004, fm') ∧ FD (fX4_finding_o1 fd (-1000004)) fm' := by
  obtain ⟨fm', q1, q2⟩ := h.none
  exact ⟨fm', by unfold fX5_orNone; rw [if_neg (by decide), q1, oSome], q2⟩
theorem mSome {fm : Nat → Int32} {k : Nat} (hk : k < 2 ^ 31) : fX5_orNone fm (nI k) = some (nI k, fm) := by
  unfold fX5_orNone; rw [if_pos (nI_pos' hk)]
theorem inP_loc {sh sh2 : Nat → Int32} {u : Nat} (h : ∀ f, f < 4 → sh (4 * u + f) = sh2 (4 * u + f)) : inP sh u = inP sh2 u := by
  unfold inP
  rw [show sh (4 * u) = sh2 (4 * u) from h 0 (by omega)]
theorem landsL {pl sp ad fd fm : Nat → Int32} {ns nv F u : Nat} {zz tz : Int32} (hFu : 300 ≤ F) (hu : u < nv) (hFD : FD fd fm) : ∀ (c n m k d : Nat) (sy sh sh2 nw : Nat → Int32), k + c = 200 → c + 1 < n → c < m → EI pl sp sy sh2 ns nv d → RW nw pl sp sy sh2 ns nv d zz → (∀ f, f < 4 → sh (4 * u + f) = sh2 (4 * u + f)) →
    ∃ r sy' sh' fd' d' nw' fm', fX4_lands_31 F pl sp (nI ns) (nI nv) tz (nI u) n (nI k) sy sh fd (nI d) = some (r, pl, sp, sy', sh', fd', nI ns, nI nv, d', tz) ∧ fX5_lands_28 F ad (nI u) m (nI k) nw fm = some (r, nw', ad, fm') ∧ FD fd' fm' ∧ ∀ i, i < 84 → nw' i = ad i := by
  intro c
  induction c with
  | zero =>
    intro n m k d sy sh sh2 nw h1 h2 h3 hE hR hl
    obtain ⟨n, rfl⟩ : ∃ q, n = q + 2 := ⟨n - 2, by omega⟩
    obtain ⟨m, rfl⟩ : ∃ q, m = q + 1 := ⟨m - 1, by omega⟩
    obtain rfl : k = 200 := by omega
    have hnv := hE.2.1
    obtain ⟨fm', q1, q2⟩ := mNone hFD
    rw [fX4_lands_31, fX5_lands_28, if_neg (show ¬ (200 : Int32) < nI 200 by decide), if_pos (show (200 : Int32) ≤ nI 200 by decide), cInP (by omega), mInP hR.2.2.2.2.2.2.2 (by omega), oSome, inP_loc hl]
    by_cases hp : inP sh2 u = true
    · obtain ⟨nw', b1, b2⟩ := mBack (F := F) (by omega) nw ad (nI 200)
      rw [if_pos hp, if_neg (by decide), if_neg (by decide), b1, oSome, mSome (by omega), oSome]
      exact ⟨_, _, _, _, _, _, _, rfl, rfl, hFD, b2⟩
    · obtain ⟨nw', b1, b2⟩ := mBack (F := F) (by omega) nw ad (-1)
      rw [if_neg hp, if_pos rfl, if_pos rfl, b1, oSome, q1, oSome, cPass1 hE.1 hnv (by omega) hE.2.2.2.1 _ hE.2.2.1, oSome, fX4_lands_31, if_pos (show (200 : Int32) < nI 200 + 1 by decide)]
      exact ⟨_, _, _, _, _, _, _, rfl, rfl, q2, b2⟩
  | succ c ih =>
    intro n m k d sy sh sh2 nw h1 h2 h3 hE hR hl
    obtain ⟨n, rfl⟩ : ∃ q, n = q + 1 := ⟨n - 1, by omega⟩
    obtain ⟨m, rfl⟩ : ∃ q, m = q + 1 := ⟨m - 1, by omega⟩
    have hnv := hE.2.1
    rw [fX4_lands_31, fX5_lands_28, if_neg (show ¬ (200 : Int32) < nI k from nI_nlt (b := k) (a := 200) (by omega) (by omega)), if_neg (show ¬ (200 : Int32) ≤ nI k from nI_ge (b := 200) (by omega) (by omega)), cInP (by omega), mInP hR.2.2.2.2.2.2.2 (by omega), oSome, inP_loc hl]
    by_cases hp : inP sh2 u = true
    · obtain ⟨nw', b1, b2⟩ := mBack (F := F) (by omega) nw ad (nI k)
      rw [if_pos hp, if_neg (by decide), if_neg (by decide), oSome, if_neg (by decide), b1, oSome, mSome (by omega), oSome]
      exact ⟨_, _, _, _, _, _, _, rfl, rfl, hFD, b2⟩
    · obtain ⟨n1, g1, g2⟩ := mDayR (F := F) (by omega) hE hR
      rw [if_neg hp, if_pos rfl, if_pos rfl, g1, oSome, cPass1 hE.1 hnv (by omega) hE.2.2.2.1 _ hE.2.2.1, oSome, nI_1]
      exact ih n m (k + 1) _ _ _ _ n1 (by omega) (by omega) (by omega) (hE.day1 _) g2 (shN_at (pl := pl) (nv := nv) (mkB1 (by omega)) rfl 1 d sy sh sh2 hl)
theorem closesL {pl sp ad fd fm : Nat → Int32} {ns nv F : Nat} {zz tz x v : Int32} (hFu : 300 ≤ F) (hFD : FD fd fm) : ∀ (c n m k d : Nat) (sy sh sh2 nw : Nat → Int32), k + c = 200 → c + 1 < n → c < m → EI pl sp sy sh2 ns nv d → RW nw pl sp sy sh2 ns nv d zz →
    ∃ r sy' sh' fd' d' nw' fm', fX4_closes_38 F pl sp (nI ns) (nI nv) tz x v n (nI k) sy sh fd (nI d) = some (r, pl, sp, sy', sh', fd', nI ns, nI nv, d', tz) ∧ fX5_closes_38 F ad x v m (nI k) nw fm = some (r, nw', ad, fm') ∧ FD fd' fm' ∧ ∀ i, i < 84 → nw' i = ad i := by
  intro c
  induction c with
  | zero =>
    intro n m k d sy sh sh2 nw h1 h2 h3 hE hR
    obtain ⟨n, rfl⟩ : ∃ q, n = q + 2 := ⟨n - 2, by omega⟩
    obtain ⟨m, rfl⟩ : ∃ q, m = q + 1 := ⟨m - 1, by omega⟩
    obtain rfl : k = 200 := by omega
    obtain ⟨fm', q1, q2⟩ := mNone hFD
    rw [fX4_closes_38, fX5_closes_38, if_neg (show ¬ (200 : Int32) < nI 200 by decide), if_pos (show (200 : Int32) ≤ nI 200 by decide), cThick hE.1 (by omega), oSome, mThick hR.2.2.2.2.2.2.1 hR.2.1 hE.1 (SaysFin hE.2.2.2.2.2.1) (by omega), oSome]
    by_cases hp : v ≤ thickS sy ns x
    · obtain ⟨nw', b1, b2⟩ := mBack (F := F) (by omega) nw ad (nI 200)
      rw [if_pos hp, if_neg (Int32.not_lt.mpr hp), b1, oSome, mSome (by omega), oSome]
      exact ⟨_, _, _, _, _, _, _, rfl, rfl, hFD, b2⟩
    · obtain ⟨nw', b1, b2⟩ := mBack (F := F) (by omega) nw ad (-1)
      rw [if_neg hp, if_pos (Int32.not_le.mp hp), b1, oSome, q1, oSome, cPass1 hE.1 hE.2.1 (by omega) hE.2.2.2.1 _ hE.2.2.1, oSome, fX4_closes_38, if_pos (show (200 : Int32) < nI 200 + 1 by decide)]
      exact ⟨_, _, _, _, _, _, _, rfl, rfl, q2, b2⟩
  | succ c ih =>
    intro n m k d sy sh sh2 nw h1 h2 h3 hE hR
    obtain ⟨n, rfl⟩ : ∃ q, n = q + 1 := ⟨n - 1, by omega⟩
    obtain ⟨m, rfl⟩ : ∃ q, m = q + 1 := ⟨m - 1, by omega⟩
    rw [fX4_closes_38, fX5_closes_38, if_neg (show ¬ (200 : Int32) < nI k from nI_nlt (b := k) (a := 200) (by omega) (by omega)), if_neg (show ¬ (200 : Int32) ≤ nI k from nI_ge (b := 200) (by omega) (by omega)), cThick hE.1 (by omega), oSome, mThick hR.2.2.2.2.2.2.1 hR.2.1 hE.1 (SaysFin hE.2.2.2.2.2.1) (by omega), oSome]
    by_cases hp : v ≤ thickS sy ns x
    · obtain ⟨nw', b1, b2⟩ := mBack (F := F) (by omega) nw ad (nI k)
      rw [if_pos hp, if_neg (Int32.not_lt.mpr hp), oSome, if_pos hp, b1, oSome, mSome (by omega), oSome]
      exact ⟨_, _, _, _, _, _, _, rfl, rfl, hFD, b2⟩
    · obtain ⟨n1, g1, g2⟩ := mDayR (F := F) (by omega) hE hR
      rw [if_neg hp, if_pos (Int32.not_le.mp hp), g1, oSome, cPass1 hE.1 hE.2.1 (by omega) hE.2.2.2.1 _ hE.2.2.1, oSome, nI_1]
      exact ih n m (k + 1) _ _ _ _ n1 (by omega) (by omega) (by omega) (hE.day1 _) g2
theorem stl : ∀ ns, ns ≤ 8 → ∀ a, a < 2 ^ ns → (fJ6_bitCount_0f7a4 (nI a) = nI ns ↔ nI a = ((1 <<< (nI ns &&& 31)) - 1)) := by decide +kernel
def allF (sy : Nat → Int32) (ns : Nat) : Bool := decide (bitS (isF sy) ns = ((1 <<< (nI ns &&& 31)) - 1))
theorem mSet {nw sy : Nat → Int32} {ns F : Nat} (R : RowS nw sy) (e1 : nw 1 = nI ns) (hf : FinOK sy ns) (hns : ns ≤ 8) (hF : 8 < F) : fX5_isSettled F nw = some (if allF sy ns = true then 1 else 0) := by
  unfold fX5_isSettled allF
  rw [mFinB R e1 hf hns hF, oSome, e1]
  by_cases h : bitS (isF sy) ns = ((1 <<< (nI ns &&& 31)) - 1)
  · rw [if_pos h, if_pos (decide_eq_true h)]
  · rw [if_neg h, if_neg (fun q => h (of_decide_eq_true q))]
theorem cSet {sy : Nat → Int32} {ns : Nat} (hns : ns ≤ 8) : (fJ6_bitCount_0f7a4 (bitS (isF sy) ns) = nI ns) ↔ allF sy ns = true := by
  obtain ⟨a, h1, h2, h3⟩ := bitS_ex (isF sy) hns
  unfold allF
  rw [h3, stl ns hns a h1, decide_eq_true_iff]
theorem settledL {pl sp ad fd fm : Nat → Int32} {ns nv F : Nat} {zz tz : Int32} (hFu : 300 ≤ F) (hFD : FD fd fm) : ∀ (c n m k d : Nat) (sy sh sh2 nw : Nat → Int32), k + c = 200 → c + 1 < n → c < m → EI pl sp sy sh2 ns nv d → RW nw pl sp sy sh2 ns nv d zz →
    ∃ r sy' sh' fd' d' nw' fm', fX4_settled_13 F pl sp (nI ns) (nI nv) tz n (nI k) sy sh fd (nI d) = some (r, pl, sp, sy', sh', fd', nI ns, nI nv, d', tz) ∧ fX5_settled_13 F ad m (nI k) nw fm = some (r, nw', ad, fm') ∧ FD fd' fm' ∧ ∀ i, i < 84 → nw' i = ad i := by
  intro c
  induction c with
  | zero =>
    intro n m k d sy sh sh2 nw h1 h2 h3 hE hR
    obtain ⟨n, rfl⟩ : ∃ q, n = q + 2 := ⟨n - 2, by omega⟩
    obtain ⟨m, rfl⟩ : ∃ q, m = q + 1 := ⟨m - 1, by omega⟩
    obtain rfl : k = 200 := by omega
    obtain ⟨fm', q1, q2⟩ := mNone hFD
    rw [fX4_settled_13, fX5_settled_13, if_neg (show ¬ (200 : Int32) < nI 200 by decide), if_pos (show (200 : Int32) ≤ nI 200 by decide), cFinB hE.1 (by omega), oSome, mSet hR.2.2.2.2.2.2.1 hR.2.1 (SaysFin hE.2.2.2.2.2.1) hE.1 (by omega), oSome]
    by_cases hp : allF sy ns = true
    · obtain ⟨nw', b1, b2⟩ := mBack (F := F) (by omega) nw ad (nI 200)
      rw [if_pos hp, if_pos ((cSet hE.1).mpr hp), if_neg (by decide), b1, oSome, mSome (by omega), oSome]
      exact ⟨_, _, _, _, _, _, _, rfl, rfl, hFD, b2⟩
    · obtain ⟨nw', b1, b2⟩ := mBack (F := F) (by omega) nw ad (-1)
      rw [if_neg hp, if_pos rfl, if_neg (fun q => hp ((cSet hE.1).mp q)), b1, oSome, q1, oSome, cPass1 hE.1 hE.2.1 (by omega) hE.2.2.2.1 _ hE.2.2.1, oSome, fX4_settled_13, if_pos (show (200 : Int32) < nI 200 + 1 by decide)]
      exact ⟨_, _, _, _, _, _, _, rfl, rfl, q2, b2⟩
  | succ c ih =>
    intro n m k d sy sh sh2 nw h1 h2 h3 hE hR
    obtain ⟨n, rfl⟩ : ∃ q, n = q + 1 := ⟨n - 1, by omega⟩
    obtain ⟨m, rfl⟩ : ∃ q, m = q + 1 := ⟨m - 1, by omega⟩
    rw [fX4_settled_13, fX5_settled_13, if_neg (show ¬ (200 : Int32) < nI k from nI_nlt (b := k) (a := 200) (by omega) (by omega)), if_neg (show ¬ (200 : Int32) ≤ nI k from nI_ge (b := 200) (by omega) (by omega)), cFinB hE.1 (by omega), oSome, mSet hR.2.2.2.2.2.2.1 hR.2.1 (SaysFin hE.2.2.2.2.2.1) hE.1 (by omega), oSome]
    by_cases hp : allF sy ns = true
    · obtain ⟨nw', b1, b2⟩ := mBack (F := F) (by omega) nw ad (nI k)
      rw [if_pos hp, if_pos ((cSet hE.1).mpr hp), if_neg (by decide), oSome, if_neg (by decide), b1, oSome, mSome (by omega), oSome]
      exact ⟨_, _, _, _, _, _, _, rfl, rfl, hFD, b2⟩
    · obtain ⟨n1, g1, g2⟩ := mDayR (F := F) (by omega) hE hR
      rw [if_neg hp, if_pos rfl, if_neg (fun q => hp ((cSet hE.1).mp q)), g1, oSome, cPass1 hE.1 hE.2.1 (by omega) hE.2.2.2.1 _ hE.2.2.1, oSome, nI_1]
      exact ih n m (k + 1) _ _ _ _ n1 (by omega) (by omega) (by omega) (hE.day1 _) g2
section OP
variable {ppl psp psy psh kpl ksp ksy ksh bs bt sz nm fd : Nat → Int32} {ik psc pnc pdy pzz ksc knc kdy kzz ln : Int32} {nw kp fm tp wd mz mn : Nat → Int32} {mi td : Int32}
theorem op_ahead {F : Nat} (hFu : 300 ≤ F) (h : AG ppl psp psy psh kpl ksp ksy ksh bs bt sz nm fd ik psc pnc pdy pzz ksc knc kdy kzz ln nw kp fm tp wd mz mn mi td) (tpl tsp tsy tsh ad : Nat → Int32) (tsc tnc tdy tzz : Int32) (x1 x2 x3 : Int32) :
    ∃ r tpl' tsp' tsy' tsh' fd' tsc' tnc' tdy' tzz' nw' ad' fm', fX4_ahead F ppl psp psy psh tpl tsp tsy tsh fd psc pnc pdy pzz tsc tnc tdy tzz x1 x2 x3 = some (r, tpl', tsp', tsy', tsh', fd', tsc', tnc', tdy', tzz') ∧ fX5_ahead F nw ad fm x1 x2 x3 = some (r, nw', ad', fm') ∧ AG ppl psp psy psh kpl ksp ksy ksh bs bt sz nm fd' ik psc pnc pdy pzz ksc knc kdy kzz ln nw' kp fm' tp wd mz mn mi td := by
  have h' := h
  obtain ⟨⟨ns, nv, d, rfl, rfl, rfl, hE, hR⟩, hK, hF, hT, hS⟩ := h
  obtain ⟨fm', q1, q2⟩ := hF.beyond
  have hns := hE.1
  unfold fX4_ahead fX5_ahead
  rw [m_isSay hR.2.1, q1, oSome, wi_eq, wi_eq]
  by_cases c1 : fX0_hasSaying (nI ns) x1 = 0
  · rw [if_pos c1, if_pos c1]; exact ⟨_, _, _, _, _, _, _, _, _, _, _, _, _, rfl, rfl, h'.1, hK, q2, hT, hS⟩
  rw [if_neg c1, if_neg c1]
  by_cases c2 : fX4_within x2 2 5 = 0
  · rw [if_pos c2, if_pos c2]; exact ⟨_, _, _, _, _, _, _, _, _, _, _, _, _, rfl, rfl, h'.1, hK, q2, hT, hS⟩
  rw [if_neg c2, if_neg c2]
  by_cases c3 : fX4_within x3 0 100 = 0
  · rw [if_pos c3, if_pos c3]; exact ⟨_, _, _, _, _, _, _, _, _, _, _, _, _, rfl, rfl, h'.1, hK, q2, hT, hS⟩
  rw [if_neg c3, if_neg c3]
  obtain ⟨k, hk, rfl⟩ := hs_ex hns c1
  have h2 : 2 ≤ x2 ∧ x2 ≤ 5 := Classical.byContradiction fun q => c2 (wi_iff.mpr q)
  obtain ⟨j, hj, rfl⟩ := nI_of2 (M := 5) (n := 5) (by decide) (Int32.not_lt.mpr (Int32.le_trans (by decide) h2.1)) h2.2
  obtain ⟨n, hn, rfl⟩ := wi_ex (n := 100) rfl (by decide) c3
  obtain ⟨a1, b1, b2⟩ := mCopy (F := F) (by omega) nw ad
  obtain ⟨n1, g1, g2⟩ := mGo (N := n) (F := F) (by omega) (by omega) (by omega) (hE.tr (tl := tpl) (tp := tsp) (ty := tsy) (th := tsh)) hR.tr
  rw [cBeh hE (by omega) (by omega) (by omega), oSome, b1, oSome, g1, oSome, mTold g2.2.2.2.2.2.2.1 (by omega) (by omega), oSome, g2.1]
  obtain ⟨n2, b3, b4⟩ := mBack (F := F) (by omega) n1 a1 (fX0_tellOfSaying (syN (va_cpy ppl tpl 0 0 6) ns n d (va_cpy psy tsy 0 0 40)) (nI (min (d + n) 99999)) (nI k) (nI j))
  rw [b3, oSome]
  exact ⟨_, _, _, _, _, _, _, _, _, _, _, _, _, rfl, rfl, ⟨ns, nv, d, rfl, rfl, rfl, hE, hR.row fun i hi => (b4 i hi).trans (b2 i hi)⟩, hK, hF, hT, hS⟩
theorem op_fog {F : Nat} (hFu : 300 ≤ F) (h : AG ppl psp psy psh kpl ksp ksy ksh bs bt sz nm fd ik psc pnc pdy pzz ksc knc kdy kzz ln nw kp fm tp wd mz mn mi td) (tpl tsp tsy tsh ad : Nat → Int32) (tsc tnc tdy tzz : Int32) (x1 x2 : Int32) :
    ∃ r tpl' tsp' tsy' tsh' fd' tsc' tnc' tdy' tzz' nw' ad' fm', fX4_fog F ppl psp psy psh tpl tsp tsy tsh fd psc pnc pdy pzz tsc tnc tdy tzz x1 x2 = some (r, tpl', tsp', tsy', tsh', fd', tsc', tnc', tdy', tzz') ∧ fX5_fog F nw ad fm x1 x2 = some (r, nw', ad', fm') ∧ AG ppl psp psy psh kpl ksp ksy ksh bs bt sz nm fd' ik psc pnc pdy pzz ksc knc kdy kzz ln nw' kp fm' tp wd mz mn mi td := by
  have h' := h
  obtain ⟨⟨ns, nv, d, rfl, rfl, rfl, hE, hR⟩, hK, hF, hT, hS⟩ := h
  obtain ⟨fm', q1, q2⟩ := hF.beyond
  have hns := hE.1
  unfold fX4_fog fX5_fog
  rw [show fX5_isCell x1 = fX4_isCell x1 from rfl, q1, oSome, wi_eq]
  by_cases c1 : fX4_isCell x1 = 0
  · rw [if_pos c1, if_pos c1]; exact ⟨_, _, _, _, _, _, _, _, _, _, _, _, _, rfl, rfl, h'.1, hK, q2, hT, hS⟩
  rw [if_neg c1, if_neg c1]
  by_cases c3 : fX4_within x2 0 100 = 0
  · rw [if_pos c3, if_pos c3]; exact ⟨_, _, _, _, _, _, _, _, _, _, _, _, _, rfl, rfl, h'.1, hK, q2, hT, hS⟩
  rw [if_neg c3, if_neg c3]
  obtain ⟨n, hn, rfl⟩ := wi_ex (n := 100) rfl (by decide) c3
  obtain ⟨a1, b1, b2⟩ := mCopy (F := F) (by omega) nw ad
  have hE2 := hE.tr (tl := tpl) (tp := tsp) (ty := tsy) (th := tsh)
  obtain ⟨n1, g1, g2⟩ := mGo (N := n) (F := F) (by omega) (by omega) (by omega) hE2 hR.tr
  rw [cBeh hE (by omega) (by omega) (by omega), oSome, b1, oSome, g1, oSome, cThick hns (by omega), oSome, mThick g2.2.2.2.2.2.2.1 g2.2.1 hns (SaysFin (hE2.days (fun _ => true) n).2.2.2.2.2.1) (by omega), oSome]
  obtain ⟨n2, b3, b4⟩ := mBack (F := F) (by omega) n1 a1 (thickS (syN (va_cpy ppl tpl 0 0 6) ns n d (va_cpy psy tsy 0 0 40)) ns x1)
  rw [b3, oSome]
  exact ⟨_, _, _, _, _, _, _, _, _, _, _, _, _, rfl, rfl, ⟨ns, nv, d, rfl, rfl, rfl, hE, hR.row fun i hi => (b4 i hi).trans (b2 i hi)⟩, hK, hF, hT, hS⟩
theorem mBeh {ppl psp psy psh ad : Nat → Int32} {ns nv d F N m : Nat} {zz : Int32} (hE : EI ppl psp psy psh ns nv d) (hR : RW nw ppl psp psy psh ns nv d zz) (hF : 84 < F) (hN : N < F) (hN2 : N < 2 ^ 30) (hm : m < 24) : ∃ nw' ad', fX5_behind F nw ad (nI (60 + m)) (nI N) = some (shN (fun _ => true) ppl ns nv N d psy psh m, nw', ad') ∧ ∀ i, i < 84 → nw' i = nw i := by
  obtain ⟨a1, b1, b2⟩ := mCopy hF nw ad
  obtain ⟨n1, g1, g2⟩ := mGo (N := N) (F := F) (by omega) (by omega) (by omega) hE hR
  obtain ⟨n2, b3, b4⟩ := mBack hF n1 a1 (n1 (60 + m))
  refine ⟨n2, a1, ?_, fun i hi => (b4 i hi).trans (b2 i hi)⟩
  unfold fX5_behind
  rw [b1, oSome, g1, oSome, if_pos (in84 (by omega)), nI_clamp (by omega), b3, oSome, g2.2.2.2.2.2.2.2 m hm]
theorem op_later {F : Nat} (hFu : 300 ≤ F) (h : AG ppl psp psy psh kpl ksp ksy ksh bs bt sz nm fd ik psc pnc pdy pzz ksc knc kdy kzz ln nw kp fm tp wd mz mn mi td) (tpl tsp tsy tsh ad : Nat → Int32) (tsc tnc tdy tzz : Int32) (x1 x2 x3 : Int32) :
    ∃ r tpl' tsp' tsy' tsh' fd' tsc' tnc' tdy' tzz' nw' ad' fm', fX4_later F ppl psp psy psh tpl tsp tsy tsh fd psc pnc pdy pzz tsc tnc tdy tzz x1 x2 x3 = some (r, tpl', tsp', tsy', tsh', fd', tsc', tnc', tdy', tzz') ∧ fX5_later F nw ad fm x1 x2 x3 = some (r, nw', ad', fm') ∧ AG ppl psp psy psh kpl ksp ksy ksh bs bt sz nm fd' ik psc pnc pdy pzz ksc knc kdy kzz ln nw' kp fm' tp wd mz mn mi td := by
  have h' := h
  obtain ⟨⟨ns, nv, d, rfl, rfl, rfl, hE, hR⟩, hK, hF, hT, hS⟩ := h
  obtain ⟨fm', q1, q2⟩ := hF.beyond
  have hnv := hE.2.1
  unfold fX4_later fX5_later
  rw [m_isShip hR.2.2.2.1, hv_eq, q1, oSome, wi_eq]
  by_cases c1 : fX0_hasSaying (nI nv) x1 = 0
  · rw [if_pos c1, if_pos c1]; exact ⟨_, _, _, _, _, _, _, _, _, _, _, _, _, rfl, rfl, h'.1, hK, q2, hT, hS⟩
  rw [if_neg c1, if_neg c1]
  obtain ⟨k, hk, rfl⟩ := hs_ex (by omega) c1
  by_cases c3 : fX4_within x3 0 100 = 0
  · rw [if_pos c3, if_pos c3]
    by_cases c2 : x2 = 0
    · rw [if_pos c2, if_pos c2]; exact ⟨_, _, _, _, _, _, _, _, _, _, _, _, _, rfl, rfl, h'.1, hK, q2, hT, hS⟩
    rw [if_neg c2, if_neg c2]
    by_cases c4 : x2 = 3
    · rw [if_pos c4, if_pos c4]; exact ⟨_, _, _, _, _, _, _, _, _, _, _, _, _, rfl, rfl, h'.1, hK, q2, hT, hS⟩
    · rw [if_neg c4, if_neg c4]; exact ⟨_, _, _, _, _, _, _, _, _, _, _, _, _, rfl, rfl, h'.1, hK, q2, hT, hS⟩
  obtain ⟨n, hn, rfl⟩ := wi_ex (n := 100) rfl (by decide) c3
  rw [if_neg c3, if_neg c3, cBeh hE (by omega) (by omega) (by omega), oSome, shN63 hnv]
  by_cases c2 : x2 = 0
  · subst c2
    obtain ⟨n2, a2, b3, b4⟩ := mBeh (ad := ad) (F := F) (N := n) (m := 4 * k) (hE.tr (tl := tpl) (tp := tsp) (ty := tsy) (th := tsh)) hR.tr (by omega) (by omega) (by omega) (by omega)
    rw [if_pos rfl, if_pos rfl, show fX5_shipAt (nI k) 0 = nI (60 + 4 * k) from at4 k 0, b3, oSome, hHas0 (by omega)]
    exact ⟨_, _, _, _, _, _, _, _, _, _, _, _, _, rfl, rfl, ⟨ns, nv, d, rfl, rfl, rfl, hE, hR.row b4⟩, hK, hF, hT, hS⟩
  rw [if_neg c2, if_neg c2]
  by_cases c4 : x2 = 3
  · subst c4
    obtain ⟨n2, a2, b3, b4⟩ := mBeh (ad := ad) (F := F) (N := n) (m := 4 * k + 3) (hE.tr (tl := tpl) (tp := tsp) (ty := tsy) (th := tsh)) hR.tr (by omega) (by omega) (by omega) (by omega)
    rw [if_pos rfl, if_pos rfl, show fX5_shipAt (nI k) 3 = nI (60 + (4 * k + 3)) from (at4 k 3).trans (congrArg nI (Nat.add_assoc 60 (4 * k) 3)), b3, oSome, hHas3 (by omega)]
    exact ⟨_, _, _, _, _, _, _, _, _, _, _, _, _, rfl, rfl, ⟨ns, nv, d, rfl, rfl, rfl, hE, hR.row b4⟩, hK, hF, hT, hS⟩
  · rw [if_neg c4, if_neg c4]; exact ⟨_, _, _, _, _, _, _, _, _, _, _, _, _, rfl, rfl, h'.1, hK, q2, hT, hS⟩
theorem op_lands {F : Nat} (hFu : 300 ≤ F) (h : AG ppl psp psy psh kpl ksp ksy ksh bs bt sz nm fd ik psc pnc pdy pzz ksc knc kdy kzz ln nw kp fm tp wd mz mn mi td) (tpl tsp tsy tsh ad : Nat → Int32) (tsc tnc tdy tzz : Int32) (x1 : Int32) :
    ∃ r tpl' tsp' tsy' tsh' fd' tsc' tnc' tdy' tzz' nw' ad' fm', fX4_lands F ppl psp psy psh tpl tsp tsy tsh fd psc pnc pdy pzz tsc tnc tdy tzz x1 = some (r, tpl', tsp', tsy', tsh', fd', tsc', tnc', tdy', tzz') ∧ fX5_lands F nw ad fm x1 = some (r, nw', ad', fm') ∧ AG ppl psp psy psh kpl ksp ksy ksh bs bt sz nm fd' ik psc pnc pdy pzz ksc knc kdy kzz ln nw' kp fm' tp wd mz mn mi td := by
  have h' := h
  obtain ⟨⟨ns, nv, d, rfl, rfl, rfl, hE, hR⟩, hK, hF, hT, hS⟩ := h
  obtain ⟨fm', q1, q2⟩ := hF.beyond
  have hnv := hE.2.1
  unfold fX4_lands fX5_lands
  rw [m_isShip hR.2.2.2.1, hv_eq, q1, oSome]
  by_cases c1 : fX0_hasSaying (nI nv) x1 = 0
  · rw [if_pos c1, if_pos c1]; exact ⟨_, _, _, _, _, _, _, _, _, _, _, _, _, rfl, rfl, h'.1, hK, q2, hT, hS⟩
  rw [if_neg c1, if_neg c1]
  obtain ⟨k, hk, rfl⟩ := hs_ex (by omega) c1
  obtain ⟨a1, b1, b2⟩ := mCopy (F := F) (by omega) nw ad
  rw [b1, oSome]
  obtain ⟨r, sy', sh', fd', d', nw', fm3, g1, g2, g3, g4⟩ := landsL (ad := a1) (tz := pzz) hFu hk hF 200 F F 0 d (va_cpy psy tsy 0 0 40) (va_cpy psh tsh 0 0 24) (va_cpy psh tsh 0 0 24) nw (by omega) (by omega) (by omega) (hE.tr (tl := tpl) (tp := tsp)) hR.tr (fun _ _ => rfl)
  exact ⟨r, _, _, sy', sh', fd', _, _, d', _, nw', a1, fm3, g1, g2, ⟨ns, nv, d, rfl, rfl, rfl, hE, hR.row fun i hi => (g4 i hi).trans (b2 i hi)⟩, hK, g3, hT, hS⟩
theorem op_closes {F : Nat} (hFu : 300 ≤ F) (h : AG ppl psp psy psh kpl ksp ksy ksh bs bt sz nm fd ik psc pnc pdy pzz ksc knc kdy kzz ln nw kp fm tp wd mz mn mi td) (tpl tsp tsy tsh ad : Nat → Int32) (tsc tnc tdy tzz : Int32) (x1 x2 : Int32) :
    ∃ r tpl' tsp' tsy' tsh' fd' tsc' tnc' tdy' tzz' nw' ad' fm', fX4_closes F ppl psp psy psh tpl tsp tsy tsh fd psc pnc pdy pzz tsc tnc tdy tzz x1 x2 = some (r, tpl', tsp', tsy', tsh', fd', tsc', tnc', tdy', tzz') ∧ fX5_closes F nw ad fm x1 x2 = some (r, nw', ad', fm') ∧ AG ppl psp psy psh kpl ksp ksy ksh bs bt sz nm fd' ik psc pnc pdy pzz ksc knc kdy kzz ln nw' kp fm' tp wd mz mn mi td := by
  have h' := h
  obtain ⟨⟨ns, nv, d, rfl, rfl, rfl, hE, hR⟩, hK, hF, hT, hS⟩ := h
  obtain ⟨fm', q1, q2⟩ := hF.beyond
  unfold fX4_closes fX5_closes
  rw [show fX5_isCell x1 = fX4_isCell x1 from rfl, q1, oSome, wi_eq]
  by_cases c1 : fX4_isCell x1 = 0
  · rw [if_pos c1, if_pos c1]; exact ⟨_, _, _, _, _, _, _, _, _, _, _, _, _, rfl, rfl, h'.1, hK, q2, hT, hS⟩
  rw [if_neg c1, if_neg c1]
  by_cases c3 : fX4_within x2 0 999 = 0
  · rw [if_pos c3, if_pos c3]; exact ⟨_, _, _, _, _, _, _, _, _, _, _, _, _, rfl, rfl, h'.1, hK, q2, hT, hS⟩
  rw [if_neg c3, if_neg c3]
  obtain ⟨a1, b1, b2⟩ := mCopy (F := F) (by omega) nw ad
  rw [b1, oSome]
  obtain ⟨r, sy', sh', fd', d', nw', fm3, g1, g2, g3, g4⟩ := closesL (ad := a1) (tz := pzz) (x := x1) (v := x2) hFu hF 200 F F 0 d (va_cpy psy tsy 0 0 40) (va_cpy psh tsh 0 0 24) (va_cpy psh tsh 0 0 24) nw (by omega) (by omega) (by omega) (hE.tr (tl := tpl) (tp := tsp)) hR.tr
  exact ⟨r, _, _, sy', sh', fd', _, _, d', _, nw', a1, fm3, g1, g2, ⟨ns, nv, d, rfl, rfl, rfl, hE, hR.row fun i hi => (g4 i hi).trans (b2 i hi)⟩, hK, g3, hT, hS⟩
theorem op_settled {F : Nat} (hFu : 300 ≤ F) (h : AG ppl psp psy psh kpl ksp ksy ksh bs bt sz nm fd ik psc pnc pdy pzz ksc knc kdy kzz ln nw kp fm tp wd mz mn mi td) (tpl tsp tsy tsh ad : Nat → Int32) (tsc tnc tdy tzz : Int32) :
    ∃ r tpl' tsp' tsy' tsh' fd' tsc' tnc' tdy' tzz' nw' ad' fm', fX4_settled F ppl psp psy psh tpl tsp tsy tsh fd psc pnc pdy pzz tsc tnc tdy tzz = some (r, tpl', tsp', tsy', tsh', fd', tsc', tnc', tdy', tzz') ∧ fX5_settled F nw ad fm = some (r, nw', ad', fm') ∧ AG ppl psp psy psh kpl ksp ksy ksh bs bt sz nm fd' ik psc pnc pdy pzz ksc knc kdy kzz ln nw' kp fm' tp wd mz mn mi td := by
  obtain ⟨⟨ns, nv, d, rfl, rfl, rfl, hE, hR⟩, hK, hF, hT, hS⟩ := h
  unfold fX4_settled fX5_settled
  obtain ⟨a1, b1, b2⟩ := mCopy (F := F) (by omega) nw ad
  rw [b1, oSome]
  obtain ⟨r, sy', sh', fd', d', nw', fm3, g1, g2, g3, g4⟩ := settledL (ad := a1) (tz := pzz) hFu hF 200 F F 0 d (va_cpy psy tsy 0 0 40) (va_cpy psh tsh 0 0 24) (va_cpy psh tsh 0 0 24) nw (by omega) (by omega) (by omega) (hE.tr (tl := tpl) (tp := tsp)) hR.tr
  exact ⟨r, _, _, sy', sh', fd', _, _, d', _, nw', a1, fm3, g1, g2, ⟨ns, nv, d, rfl, rfl, rfl, hE, hR.row fun i hi => (g4 i hi).trans (b2 i hi)⟩, hK, g3, hT, hS⟩
end OP
