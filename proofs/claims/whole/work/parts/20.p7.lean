/-! PURE, seventh part: calls without days -/
section OP
variable {ppl psp psy psh kpl ksp ksy ksh bs bt sz nm fd : Nat → Int32} {ik psc pnc pdy pzz ksc knc kdy kzz ln : Int32} {nw kp fm tp wd mz mn : Nat → Int32} {mi td : Int32}
theorem op_saying (h : AG ppl psp psy psh kpl ksp ksy ksh bs bt sz nm fd ik psc pnc pdy pzz ksc knc kdy kzz ln nw kp fm tp wd mz mn mi td) (x1 x2 x3 : Int32) :
    ∃ r psy' fd' psc' nw' fm', fX4_saying psy fd psc x1 x2 x3 = (r, psy', fd', psc') ∧ fX5_saying nw fm x1 x2 x3 = some (r, nw', fm') ∧ AG ppl psp psy' psh kpl ksp ksy ksh bs bt sz nm fd' ik psc' pnc pdy pzz ksc knc kdy kzz ln nw' kp fm' tp wd mz mn mi td := by
  obtain ⟨⟨ns, nv, d, es, en, ed, hE, hR⟩, hK, hF, hT, hS⟩ := h
  obtain ⟨fm', q1, q2⟩ := hF.beyond
  obtain ⟨fm2, q3, q4⟩ := hF.full
  unfold fX4_saying fX5_saying
  rw [show fX5_isKind x1 = fX4_isKind x1 from rfl, show fX5_isMany x2 = fX4_within x2 0 99 from rfl, show fX5_isCell x3 = fX4_isCell x3 from rfl]
  by_cases c1 : fX4_isKind x1 = 0
  · rw [if_pos c1, if_pos c1, q1, oSome]
    exact ⟨_, _, _, _, _, _, rfl, rfl, ⟨ns, nv, d, es, en, ed, hE, hR⟩, hK, q2, hT, hS⟩
  rw [if_neg c1, if_neg c1]
  by_cases c2 : fX4_within x2 0 99 = 0
  · rw [if_pos c2, if_pos c2, q1, oSome]
    exact ⟨_, _, _, _, _, _, rfl, rfl, ⟨ns, nv, d, es, en, ed, hE, hR⟩, hK, q2, hT, hS⟩
  rw [if_neg c2, if_neg c2]
  by_cases c3 : fX4_isCell x3 = 0
  · rw [if_pos c3, if_pos c3, q1, oSome]
    exact ⟨_, _, _, _, _, _, rfl, rfl, ⟨ns, nv, d, es, en, ed, hE, hR⟩, hK, q2, hT, hS⟩
  rw [if_neg c3, if_neg c3, hR.2.1]
  have hns := hE.1
  by_cases c4 : ns = 8
  · subst c4
    rw [if_pos (show nI 8 = 8 from rfl), q3, oSome, if_neg (show ¬ psc < 8 by rw [es]; decide)]
    exact ⟨_, _, _, _, _, _, rfl, rfl, ⟨8, nv, d, es, en, ed, hE, hR⟩, hK, q4, hT, hS⟩
  · have h8 : ns < 8 := by omega
    rw [if_neg (show ¬ nI ns = 8 from fun e => c4 ((nI_eq (by omega) (by decide)).mp (show nI ns = nI 8 from e))), if_pos (show psc < 8 by rw [es]; exact nI_lt (b := 8) h8 (by decide))]
    obtain ⟨nw', g1, g2⟩ := mComes hR h8 x1 x2 x3
    rw [g1, oSome]
    have ha := cAdd (sy := psy) x1 x2 x3 h8
    refine ⟨nI ns, addS psy ns x1 x2 x3, fd, nI (ns + 1), nw', fm, ?_, rfl, ⟨ns + 1, nv, d, rfl, en, ed, hE.addS h8 (wi_ex rfl (by decide) c1) (wi_ex rfl (by decide) c2) (wi_ex rfl (by decide) c3), g2⟩, hK, hF, hT, hS⟩
    unfold fX0_addSaying_o0 fX0_addSaying_o1 fX0_addSaying_o2
    rw [es, ha]
theorem wi_ex1 {x : Int32} (h : ¬ fX4_within x 1 5 = 0) : ∃ k, 1 ≤ k ∧ k ≤ 5 ∧ x = nI k := by
  have h2 : 1 ≤ x ∧ x ≤ 5 := Classical.byContradiction fun q => h (wi_iff.mpr q)
  obtain ⟨k, h3, rfl⟩ := nI_of2 (M := 5) (n := 5) (by decide) (Int32.not_lt.mpr (Int32.le_trans (by decide) h2.1)) h2.2
  exact ⟨k, (nI_leI (by decide) (by omega)).mp (show nI 1 ≤ nI k from h2.1), h3, rfl⟩
theorem op_ship (h : AG ppl psp psy psh kpl ksp ksy ksh bs bt sz nm fd ik psc pnc pdy pzz ksc knc kdy kzz ln nw kp fm tp wd mz mn mi td) (x1 x2 : Int32) :
    ∃ r psh' fd' pnc' nw' fm', fX4_ship psh fd pnc x1 x2 = (r, psh', fd', pnc') ∧ fX5_ship nw fm x1 x2 = some (r, nw', fm') ∧ AG ppl psp psy psh' kpl ksp ksy ksh bs bt sz nm fd' ik psc pnc' pdy pzz ksc knc kdy kzz ln nw' kp fm' tp wd mz mn mi td := by
  obtain ⟨⟨ns, nv, d, es, en, ed, hE, hR⟩, hK, hF, hT, hS⟩ := h
  obtain ⟨fm', q1, q2⟩ := hF.beyond
  obtain ⟨fm2, q3, q4⟩ := hF.full
  unfold fX4_ship fX5_ship
  rw [show fX5_isCell x1 = fX4_isCell x1 from rfl, show fX5_isFast x2 = fX4_within x2 1 5 from rfl]
  by_cases c1 : fX4_isCell x1 = 0
  · rw [if_pos c1, if_pos c1, q1, oSome]
    exact ⟨_, _, _, _, _, _, rfl, rfl, ⟨ns, nv, d, es, en, ed, hE, hR⟩, hK, q2, hT, hS⟩
  rw [if_neg c1, if_neg c1]
  by_cases c2 : fX4_within x2 1 5 = 0
  · rw [if_pos c2, if_pos c2, q1, oSome]
    exact ⟨_, _, _, _, _, _, rfl, rfl, ⟨ns, nv, d, es, en, ed, hE, hR⟩, hK, q2, hT, hS⟩
  rw [if_neg c2, if_neg c2, hR.2.2.2.1]
  have hnv := hE.2.1
  by_cases c4 : nv = 6
  · subst c4
    rw [if_pos (show nI 6 = 6 from rfl), q3, oSome, if_neg (show ¬ pnc < 6 by rw [en]; decide)]
    exact ⟨_, _, _, _, _, _, rfl, rfl, ⟨ns, 6, d, es, en, ed, hE, hR⟩, hK, q4, hT, hS⟩
  · have h6 : nv < 6 := by omega
    rw [if_neg (show ¬ nI nv = 6 from fun e => c4 ((nI_eq (by omega) (by decide)).mp (show nI nv = nI 6 from e))), if_pos (show pnc < 6 by rw [en]; exact nI_lt (b := 6) h6 (by decide))]
    obtain ⟨nw', g1, g2⟩ := mSails hR h6 x1 x2
    rw [g1, oSome]
    have ha := cAddH (sh := psh) x1 30 x2 h6
    refine ⟨nI nv, addH psh nv x1 30 x2, fd, nI (nv + 1), nw', fm, ?_, rfl, ⟨ns, nv + 1, d, es, rfl, ed, hE.addH h6 (wi_ex rfl (by decide) c1) ⟨30, by decide, rfl⟩ (wi_ex1 c2), g2⟩, hK, hF, hT, hS⟩
    unfold fX0_addShip_o0 fX0_addShip_o1 fX0_addShip_o2
    rw [en, ha]
theorem mTold {nw' sy : Nat → Int32} (R : RowS nw' sy) {k : Nat} (hk : k < 8) {j : Nat} (hj : j ≤ 8) : fX5_told nw' (nI k) (nI j) = some (fX0_tellOfSaying sy (nw' 0) (nI k) (nI j)) := by
  unfold fX5_told fX0_tellOfSaying
  rw [sHas0 hk, sHas2 hk, sHas4 hk, mThickens R hk, mReaches R hk, mBlurs R hk, mResists R hk]
  by_cases c5 : nI j = 5
  · rw [if_pos c5, if_pos c5, oSome]
  rw [if_neg c5, if_neg c5]
  by_cases c6 : nI j = 6
  · rw [if_pos c6, if_pos c6, oSome]
  rw [if_neg c6, if_neg c6]
  by_cases c7 : nI j = 7
  · rw [if_pos c7, if_pos c7, oSome]
  rw [if_neg c7, if_neg c7]
  by_cases c8 : nI j = 8
  · rw [if_pos c8, if_pos c8, oSome]
  rw [if_neg c8, if_neg c8]
  have h5 : j < 5 := by
    rcases (show j < 5 ∨ j = 5 ∨ j = 6 ∨ j = 7 ∨ j = 8 by omega) with h | rfl | rfl | rfl | rfl
    · exact h
    · exact absurd rfl c5
    · exact absurd rfl c6
    · exact absurd rfl c7
    · exact absurd rfl c8
  rw [R.is hk h5, oSome, has_at hk h5]
theorem op_of (h : AG ppl psp psy psh kpl ksp ksy ksh bs bt sz nm fd ik psc pnc pdy pzz ksc knc kdy kzz ln nw kp fm tp wd mz mn mi td) (x1 x2 : Int32) :
    ∃ r fd' fm', fX4_of psy fd psc pdy x1 x2 = (r, fd') ∧ fX5_of nw fm x1 x2 = some (r, fm') ∧ AG ppl psp psy psh kpl ksp ksy ksh bs bt sz nm fd' ik psc pnc pdy pzz ksc knc kdy kzz ln nw kp fm' tp wd mz mn mi td := by
  obtain ⟨⟨ns, nv, d, es, en, ed, hE, hR⟩, hK, hF, hT, hS⟩ := h
  obtain ⟨fm', q1, q2⟩ := hF.beyond
  unfold fX4_of fX5_of
  rw [m_isSay hR.2.1, es, wi_eq]
  by_cases c1 : fX0_hasSaying (nI ns) x1 = 0
  · rw [if_pos c1, if_pos c1, q1, oSome]
    exact ⟨_, _, _, rfl, rfl, ⟨ns, nv, d, rfl, en, ed, hE, hR⟩, hK, q2, hT, hS⟩
  rw [if_neg c1, if_neg c1]
  by_cases c2 : fX4_within x2 0 8 = 0
  · rw [if_pos c2, if_pos c2, q1, oSome]
    exact ⟨_, _, _, rfl, rfl, ⟨ns, nv, d, rfl, en, ed, hE, hR⟩, hK, q2, hT, hS⟩
  rw [if_neg c2, if_neg c2]
  obtain ⟨k, hk, rfl⟩ := hs_ex hE.1 c1
  obtain ⟨j, hj, rfl⟩ := wi_ex (n := 8) rfl (by decide) c2
  have hns := hE.1
  rw [mTold hR.2.2.2.2.2.2.1 (by omega) hj, oSome, hR.1, ed]
  exact ⟨_, _, _, rfl, rfl, ⟨ns, nv, d, rfl, en, rfl, hE, hR⟩, hK, hF, hT, hS⟩
theorem op_ofShip (h : AG ppl psp psy psh kpl ksp ksy ksh bs bt sz nm fd ik psc pnc pdy pzz ksc knc kdy kzz ln nw kp fm tp wd mz mn mi td) (x1 x2 : Int32) :
    ∃ r fd' fm', fX4_ofShip psh fd pnc x1 x2 = (r, fd') ∧ fX5_ofShip nw fm x1 x2 = some (r, fm') ∧ AG ppl psp psy psh kpl ksp ksy ksh bs bt sz nm fd' ik psc pnc pdy pzz ksc knc kdy kzz ln nw kp fm' tp wd mz mn mi td := by
  obtain ⟨⟨ns, nv, d, es, en, ed, hE, hR⟩, hK, hF, hT, hS⟩ := h
  obtain ⟨fm', q1, q2⟩ := hF.beyond
  unfold fX4_ofShip fX5_ofShip
  rw [m_isShip hR.2.2.2.1, hv_eq, en, wi_eq]
  by_cases c1 : fX0_hasSaying (nI nv) x1 = 0
  · rw [if_pos c1, if_pos c1, q1, oSome]
    exact ⟨_, _, _, rfl, rfl, ⟨ns, nv, d, es, rfl, ed, hE, hR⟩, hK, q2, hT, hS⟩
  rw [if_neg c1, if_neg c1]
  by_cases c2 : fX4_within x2 0 3 = 0
  · rw [if_pos c2, if_pos c2, q1, oSome]
    exact ⟨_, _, _, rfl, rfl, ⟨ns, nv, d, es, rfl, ed, hE, hR⟩, hK, q2, hT, hS⟩
  rw [if_neg c2, if_neg c2]
  have hnv := hE.2.1
  obtain ⟨k, hk, rfl⟩ := hs_ex (by omega) c1
  obtain ⟨j, hj, rfl⟩ := wi_ex (n := 3) rfl (by decide) c2
  rw [hR.2.2.2.2.2.2.2.is (by omega) (by omega), oSome, hHas (by omega) (by omega)]
  exact ⟨_, _, _, rfl, rfl, ⟨ns, nv, d, es, rfl, ed, hE, hR⟩, hK, hF, hT, hS⟩
theorem op_seed (h : AG ppl psp psy psh kpl ksp ksy ksh bs bt sz nm fd ik psc pnc pdy pzz ksc knc kdy kzz ln nw kp fm tp wd mz mn mi td) (x1 : Int32) :
    ∃ r pzz' nw', fX4_seed pzz x1 = (r, pzz') ∧ fX5_seed nw x1 = some (r, nw') ∧ AG ppl psp psy psh kpl ksp ksy ksh bs bt sz nm fd ik psc pnc pdy pzz' ksc knc kdy kzz ln nw' kp fm tp wd mz mn mi td := by
  obtain ⟨⟨ns, nv, d, es, en, ed, hE, hR⟩, hK, hF, hT, hS⟩ := h
  unfold fX4_seed fX5_seed
  rw [show (2 : Int32) = nI 2 from rfl, mBecome (by decide), oSome, hR.2.2.1]
  exact ⟨_, _, _, rfl, rfl, ⟨ns, nv, d, es, en, ed, hE, hR.setZ⟩, hK, hF, hT, hS⟩
theorem op_wipe (h : AG ppl psp psy psh kpl ksp ksy ksh bs bt sz nm fd ik psc pnc pdy pzz ksc knc kdy kzz ln nw kp fm tp wd mz mn mi td) :
    ∃ r ln' td', fX4_wipe ln = (r, ln') ∧ fX5_wipe td = (r, td') ∧ AG ppl psp psy psh kpl ksp ksy ksh bs bt sz nm fd ik psc pnc pdy pzz ksc knc kdy kzz ln' nw kp fm tp wd mz mn mi td' := by
  obtain ⟨hX, hK, hF, ⟨n, h1, h2, h3, h4⟩, hS⟩ := h
  unfold fX4_wipe fX5_wipe
  rw [h2, h3]
  exact ⟨_, _, _, rfl, rfl, hX, hK, hF, ⟨0, by omega, rfl, rfl, fun i hi => absurd hi (Nat.not_lt_zero i)⟩, hS⟩
theorem op_tear (h : AG ppl psp psy psh kpl ksp ksy ksh bs bt sz nm fd ik psc pnc pdy pzz ksc knc kdy kzz ln nw kp fm tp wd mz mn mi td) :
    ∃ r ik' mi', fX4_tear ik = (r, ik') ∧ fX5_tear mi = (r, mi') ∧ AG ppl psp psy psh kpl ksp ksy ksh bs bt sz nm fd ik' psc pnc pdy pzz ksc knc kdy kzz ln nw kp fm tp wd mz mn mi' td := by
  obtain ⟨hX, ⟨h1, h2⟩, hF, hT, hS⟩ := h
  subst h1
  unfold fX4_tear fX5_tear
  by_cases c : mi = 0
  · rw [if_pos c]
    exact ⟨_, _, _, rfl, rfl, hX, ⟨rfl, Or.inl rfl⟩, hF, hT, hS⟩
  · rw [if_neg c]
    exact ⟨_, _, _, rfl, rfl, hX, ⟨rfl, Or.inl rfl⟩, hF, hT, hS⟩
theorem op_hold (h : AG ppl psp psy psh kpl ksp ksy ksh bs bt sz nm fd ik psc pnc pdy pzz ksc knc kdy kzz ln nw kp fm tp wd mz mn mi td) (x1 x2 : Int32) :
    ∃ r psp' fd' nw' fm', fX4_hold psp fd psc x1 x2 = (r, psp', fd') ∧ fX5_hold nw fm x1 x2 = some (r, nw', fm') ∧ AG ppl psp' psy psh kpl ksp ksy ksh bs bt sz nm fd' ik psc pnc pdy pzz ksc knc kdy kzz ln nw' kp fm' tp wd mz mn mi td := by
  obtain ⟨⟨ns, nv, d, es, en, ed, hE, hR⟩, hK, hF, hT, hS⟩ := h
  obtain ⟨fm', q1, q2⟩ := hF.beyond
  unfold fX4_hold fX5_hold
  rw [show fX5_isSpot x1 = fX4_within x1 0 9 from rfl, m_isSay hR.2.1, es]
  by_cases c1 : fX4_within x1 0 9 = 0
  · rw [if_pos c1, if_pos c1, q1, oSome]
    exact ⟨_, _, _, _, _, rfl, rfl, ⟨ns, nv, d, rfl, en, ed, hE, hR⟩, hK, q2, hT, hS⟩
  rw [if_neg c1, if_neg c1]
  obtain ⟨i, hi, rfl⟩ := wi_ex (n := 9) rfl (by decide) c1
  rw [show (10 : Int32) + nI i = nI (10 + i) from nI_add 10 i, if_pos (in84 (by omega)), nI_clamp (by omega)]
  have hp : ∀ v : Int32, fX0_setHeld psp (nI i) v = upd psp i v := fun v => put_at (by omega) (by decide)
  by_cases c2 : x2 = -1
  · rw [if_pos c2, if_pos c2, hp]
    exact ⟨_, _, _, _, _, rfl, rfl, ⟨ns, nv, d, rfl, en, ed, hE.setP (Or.inl c2), hR.setP (by omega)⟩, hK, hF, hT, hS⟩
  rw [if_neg c2, if_neg c2]
  by_cases c3 : fX0_hasSaying (nI ns) x2 = 0
  · rw [if_pos c3, if_pos c3, q1, oSome]
    exact ⟨_, _, _, _, _, rfl, rfl, ⟨ns, nv, d, rfl, en, ed, hE, hR⟩, hK, q2, hT, hS⟩
  · rw [if_neg c3, if_neg c3, hp]
    exact ⟨_, _, _, _, _, rfl, rfl, ⟨ns, nv, d, rfl, en, ed, hE.setP (Or.inr (hs_ex hE.1 c3)), hR.setP (by omega)⟩, hK, hF, hT, hS⟩
theorem op_thick {F : Nat} (hFu : 300 ≤ F) (h : AG ppl psp psy psh kpl ksp ksy ksh bs bt sz nm fd ik psc pnc pdy pzz ksc knc kdy kzz ln nw kp fm tp wd mz mn mi td) (x1 : Int32) :
    ∃ r fd' fm', fX4_thick F psy fd psc x1 = some (r, fd') ∧ fX5_thick F nw fm x1 = some (r, fm') ∧ AG ppl psp psy psh kpl ksp ksy ksh bs bt sz nm fd' ik psc pnc pdy pzz ksc knc kdy kzz ln nw kp fm' tp wd mz mn mi td := by
  obtain ⟨⟨ns, nv, d, es, en, ed, hE, hR⟩, hK, hF, hT, hS⟩ := h
  obtain ⟨fm', q1, q2⟩ := hF.beyond
  unfold fX4_thick fX5_thick
  rw [show fX5_isCell x1 = fX4_isCell x1 from rfl, es]
  by_cases c1 : fX4_isCell x1 = 0
  · rw [if_pos c1, if_pos c1, q1, oSome]
    exact ⟨_, _, _, rfl, rfl, ⟨ns, nv, d, rfl, en, ed, hE, hR⟩, hK, q2, hT, hS⟩
  rw [if_neg c1, if_neg c1, cThick hE.1 (by omega), oSome, mThick hR.2.2.2.2.2.2.1 hR.2.1 hE.1 (SaysFin hE.2.2.2.2.2.1) (by omega), oSome]
  exact ⟨_, _, _, rfl, rfl, ⟨ns, nv, d, rfl, en, ed, hE, hR⟩, hK, hF, hT, hS⟩
end OP
