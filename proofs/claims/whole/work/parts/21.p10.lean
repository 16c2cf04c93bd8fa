/-! PURE, tenth part: now, go, count, change, steer, as, status, image, undo -/
def bitN (p : Nat → Bool) : Nat → Nat
  | 0 => 0
  | k + 1 => if p k = true then bitN p k + 2 ^ k else bitN p k
theorem bitN_lt (p : Nat → Bool) : ∀ k, bitN p k < 2 ^ k
  | 0 => Nat.one_pos
  | k + 1 => by
    have h := bitN_lt p k
    rw [bitN, Nat.pow_succ]
    split <;> omega
theorem orB : ∀ k, k < 8 → ∀ a, a < 2 ^ k → nI a ||| (1 <<< (nI k &&& 31)) = nI (a + 2 ^ k) := by decide +kernel
theorem bitS_N (p : Nat → Bool) : ∀ k, k ≤ 8 → bitS p k = nI (bitN p k)
  | 0, _ => rfl
  | k + 1, h => by
    rw [bitS, bitN, bitS_N p k (by omega)]
    split
    · exact orB k (by omega) _ (bitN_lt p k)
    · rfl
theorem nI_nm1 {j : Nat} (h : j < 2 ^ 31) : ¬ nI j = -1 := fun q => absurd (show (0 : Int32) ≤ -1 from q ▸ nI_pos' h) (by decide)
theorem p256 {k : Nat} (h : k ≤ 8) : 2 ^ k ≤ 256 := Nat.pow_le_pow_right (n := 2) (by decide) h
theorem bitS_ex (p : Nat → Bool) {k : Nat} (h : k ≤ 8) : ∃ a, a < 2 ^ k ∧ a < 256 ∧ bitS p k = nI a := ⟨bitN p k, bitN_lt p k, Nat.lt_of_lt_of_le (bitN_lt p k) (p256 h), bitS_N p k h⟩
theorem bits_mono {r : Int32} (m : Nat) : ∀ (n : Nat) (a b : Int32), fX5_bits_4 n a b = some r → fX5_bits_4 (n + m) a b = some r
  | 0, _, _, h => by cases h
  | n + 1, a, b, h => by
    rw [show n + 1 + m = (n + m) + 1 by omega, fX5_bits_4]
    rw [fX5_bits_4] at h
    split
    · next e => rw [if_pos e] at h; exact h
    · next e => rw [if_neg e] at h; exact bits_mono m n _ _ h
theorem bits256 : ∀ k, k < 256 → fX5_bits_4 9 0 (nI k) = some (fJ6_bitCount_0f7a4 (nI k)) := by decide +kernel
theorem mBits {F k : Nat} (hk : k < 256) (hF : 20 < F) : fX5_bits F (nI k) = some (fJ6_bitCount_0f7a4 (nI k)) := by
  unfold fX5_bits
  rw [show F = 9 + (F - 9) by omega]
  exact bits_mono _ _ _ _ (bits256 k hk)
theorem cSpotL {sp : Nat → Int32} {nw fd : Nat → Int32} (hs : ∀ i, i < 10 → nw (10 + i) = sp i) (ho : ∀ i, i < 10 → sp i = -1 ∨ ∃ k, k < 8 ∧ sp i = nI k) : ∀ (n k : Nat) (a : Int32), k ≤ 10 → 10 < k + n → ∃ r, fX0_spotsThatHold_13 sp 10 n a (nI k) = some r ∧ fX5_count_96 nw fd n a (nI k) = some (r, fd) := by
  intro n
  induction n with
  | zero => intro k a h1 h2; omega
  | succ n ih =>
    intro k a h1 h2
    rw [fX0_spotsThatHold_13, fX5_count_96]
    by_cases hk : k = 10
    · subst hk
      rw [if_pos (show (10 : Int32) ≤ nI 10 from by decide), if_pos (show (10 : Int32) ≤ nI 10 from by decide)]
      exact ⟨a, rfl, rfl⟩
    · rw [if_neg (show ¬ (10 : Int32) ≤ nI k from nI_ge (b := 10) (by omega) (by omega)), if_neg (show ¬ (10 : Int32) ≤ nI k from nI_ge (b := 10) (by omega) (by omega)), show (10 : Int32) + nI k = nI (10 + k) from nI_add 10 k, if_pos (show ¬ (nI k < 0 ∨ 10 ≤ (nI k).toNatClampNeg) from nI_in (by omega) (by decide)), if_pos (in84 (by omega)), nI_clamp (by omega), nI_clamp (by omega), hs k (by omega), nI_1]
      rcases ho k (by omega) with e | ⟨j, hj, e⟩
      · rw [e, if_pos rfl, if_neg (by decide), Int32.add_zero]
        exact ih (k + 1) a (by omega) (by omega)
      · rw [e, if_neg (nI_nm1 (by omega)), if_pos (nI_pos' (by omega))]
        exact ih (k + 1) (a + 1) (by omega) (by omega)
theorem cStat {fd : Nat → Int32} {F : Nat} (hF : 8 < F) : fX4_status_44 fd 7 F 0 0 = some (tot fd, fd) := by
  obtain ⟨n, rfl⟩ : ∃ n, F = n + 8 := ⟨F - 8, by omega⟩
  unfold tot
  iterate 8 rw [fX4_status_44]
  simp [fX4_status_44]
theorem und49 : ∀ a, a < 7 → ∀ b, b < 7 → fX1_isOrIsUnder_4 (nI b) 8 (nI a) 0 = fX5_isUnder_2 (nI b) 8 (nI a) ∧ (fX5_isUnder_2 (nI b) 8 (nI a)).isSome = true := by decide +kernel
theorem undC_mono {b r : Int32} (m : Nat) : ∀ (n : Nat) (x y : Int32), fX1_isOrIsUnder_4 b n x y = some r → fX1_isOrIsUnder_4 b (n + m) x y = some r
  | 0, _, _, h => by cases h
  | n + 1, x, y, h => by
    rw [show n + 1 + m = (n + m) + 1 by omega, fX1_isOrIsUnder_4]
    rw [fX1_isOrIsUnder_4] at h
    by_cases e1 : 7 ≤ y
    · rw [if_pos e1] at h ⊢; exact h
    rw [if_neg e1] at h ⊢
    by_cases e2 : x = b
    · rw [if_pos e2] at h ⊢; exact h
    rw [if_neg e2] at h ⊢
    by_cases e3 : x = 0
    · rw [if_pos e3] at h ⊢; exact h
    rw [if_neg e3] at h ⊢
    exact undC_mono m n _ _ h
theorem undM_mono {b r : Int32} (m : Nat) : ∀ (n : Nat) (x : Int32), fX5_isUnder_2 b n x = some r → fX5_isUnder_2 b (n + m) x = some r
  | 0, _, h => by cases h
  | n + 1, x, h => by
    rw [show n + 1 + m = (n + m) + 1 by omega, fX5_isUnder_2]
    rw [fX5_isUnder_2] at h
    by_cases e1 : x < 0
    · rw [if_pos e1] at h ⊢; exact h
    rw [if_neg e1] at h ⊢
    by_cases e2 : x = b
    · rw [if_pos e2] at h ⊢; exact h
    rw [if_neg e2] at h ⊢
    exact undM_mono m n _ h
theorem undB {F a b : Nat} (hF : 20 < F) (ha : a < 7) (hb : b < 7) : ∃ r, fX1_isOrIsUnder F (nI a) (nI b) = some r ∧ fX5_isUnder F (nI a) (nI b) = some r := by
  obtain ⟨g1, g2⟩ := und49 a ha b hb
  obtain ⟨r, hr⟩ := Option.isSome_iff_exists.mp g2
  refine ⟨r, ?_, ?_⟩
  · unfold fX1_isOrIsUnder
    rw [show F = 8 + (F - 8) by omega]
    exact undC_mono _ _ _ _ (g1.trans hr)
  · unfold fX5_isUnder
    rw [show F = 8 + (F - 8) by omega]
    exact undM_mono _ _ _ hr
section OP
variable {ppl psp psy psh kpl ksp ksy ksh bs bt sz nm fd : Nat → Int32} {ik psc pnc pdy pzz ksc knc kdy kzz ln : Int32} {nw kp fm tp wd mz mn : Nat → Int32} {mi td : Int32}
theorem op_now {F : Nat} (hFu : 300 ≤ F) (h : AG ppl psp psy psh kpl ksp ksy ksh bs bt sz nm fd ik psc pnc pdy pzz ksc knc kdy kzz ln nw kp fm tp wd mz mn mi td) (x1 : Int32) :
    ∃ r fd' fm', fX4_now F psy psh fd psc pnc pdy x1 = some (r, fd') ∧ fX5_now F nw fm x1 = some (r, fm') ∧ AG ppl psp psy psh kpl ksp ksy ksh bs bt sz nm fd' ik psc pnc pdy pzz ksc knc kdy kzz ln nw kp fm' tp wd mz mn mi td := by
  have h' := h
  obtain ⟨⟨ns, nv, d, rfl, rfl, rfl, hE, hR⟩, hK, hF, hT, hS⟩ := h
  obtain ⟨fm', q1, q2⟩ := hF.beyond
  have hns := hE.1
  have hnv := hE.2.1
  have hf := SaysFin hE.2.2.2.2.2.1
  have rS := hR.2.2.2.2.2.2.1
  have rH := hR.2.2.2.2.2.2.2
  have e1 := hR.2.1
  have e3 := hR.2.2.2.1
  unfold fX4_now fX5_now
  rw [cPorts hnv (by omega), oSome, mPorts rH e3 hnv (by omega), oSome, cFinB hns (by omega), oSome, mFinB rS e1 hf hns (by omega), oSome, cVag hns (by omega), oSome, mVag rS e1 hns (by omega), oSome, cWai hnv (by omega), oSome, mWai rH e3 hnv (by omega), oSome, cThk hns (by omega), oSome, mThk rS e1 hf hns (by omega), oSome, cClr hns (by omega), oSome, mClr rS e1 hf hns (by omega), oSome, cOns hns hnv (by omega), oSome, mOns rS rH e1 e3 hf hns hnv (by omega), oSome, q1, oSome, hR.1]
  by_cases c0 : x1 = 0
  · rw [if_pos c0, if_pos c0]; exact ⟨_, _, _, rfl, rfl, h'⟩
  rw [if_neg c0, if_neg c0]
  by_cases c1 : x1 = 1
  · rw [if_pos c1, if_pos c1]; exact ⟨_, _, _, rfl, rfl, h'⟩
  rw [if_neg c1, if_neg c1]
  by_cases c2 : x1 = 2
  · rw [if_pos c2, if_pos c2]; exact ⟨_, _, _, rfl, rfl, h'⟩
  rw [if_neg c2, if_neg c2]
  by_cases c3 : x1 = 3
  · rw [if_pos c3, if_pos c3]; exact ⟨_, _, _, rfl, rfl, h'⟩
  rw [if_neg c3, if_neg c3]
  by_cases c4 : x1 = 4
  · rw [if_pos c4, if_pos c4]; exact ⟨_, _, _, rfl, rfl, h'⟩
  rw [if_neg c4, if_neg c4]
  by_cases c5 : x1 = 5
  · rw [if_pos c5, if_pos c5]; exact ⟨_, _, _, rfl, rfl, h'⟩
  rw [if_neg c5, if_neg c5]
  by_cases c6 : x1 = 6
  · rw [if_pos c6, if_pos c6]; exact ⟨_, _, _, rfl, rfl, h'⟩
  rw [if_neg c6, if_neg c6]
  by_cases c7 : x1 = 7
  · rw [if_pos c7, if_pos c7]; exact ⟨_, _, _, rfl, rfl, h'⟩
  rw [if_neg c7, if_neg c7]
  exact ⟨_, _, _, rfl, rfl, h'.1, hK, q2, hT, hS⟩
theorem op_count {F : Nat} (hFu : 300 ≤ F) (h : AG ppl psp psy psh kpl ksp ksy ksh bs bt sz nm fd ik psc pnc pdy pzz ksc knc kdy kzz ln nw kp fm tp wd mz mn mi td) (x1 : Int32) :
    ∃ r fd' fm', fX4_count F psp psy psh fd psc pnc pdy pzz ln x1 = some (r, fd') ∧ fX5_count F nw fm td x1 = some (r, fm') ∧ AG ppl psp psy psh kpl ksp ksy ksh bs bt sz nm fd' ik psc pnc pdy pzz ksc knc kdy kzz ln nw kp fm' tp wd mz mn mi td := by
  have h' := h
  obtain ⟨⟨ns, nv, d, rfl, rfl, rfl, hE, hR⟩, hK, hF, ⟨nt, t1, t2, t3, t4⟩, hS⟩ := h
  obtain ⟨fm', q1, q2⟩ := hF.beyond
  have hns := hE.1
  have hnv := hE.2.1
  have hf := SaysFin hE.2.2.2.2.2.1
  have rS := hR.2.2.2.2.2.2.1
  have rH := hR.2.2.2.2.2.2.2
  have e1 := hR.2.1
  have e3 := hR.2.2.2.1
  obtain ⟨sr, s1, s2⟩ := cSpotL (fd := fm) hR.2.2.2.2.2.1 (fun i hi => (hE.2.2.2.2.1 i hi).imp_right fun ⟨k, hk, e⟩ => ⟨k, by omega, e⟩) F 0 0 (by omega) (by omega)
  have s3 : fX0_spotsThatHold F psp = some sr := s1
  obtain ⟨a, _, ha, he⟩ := bitS_ex (isF psy) hns
  unfold fX4_count fX5_count
  rw [cWai hnv (by omega), oSome, mWai rH e3 hnv (by omega), oSome, cFinB hns (by omega), oSome, mFinB rS e1 hf hns (by omega), oSome, he, mBits ha (by omega), oSome, s3, oSome, show fX5_count_96 nw fm F 0 0 = some (sr, fm) from s2, q1, oSome, hR.1, e1, hR.2.2.1, e3, t2, t3]
  rw [t2, t3] at h'
  by_cases c0 : x1 = 0
  · rw [if_pos c0, if_pos c0]; exact ⟨_, _, _, rfl, rfl, h'⟩
  rw [if_neg c0, if_neg c0]
  by_cases c1 : x1 = 1
  · rw [if_pos c1, if_pos c1]; exact ⟨_, _, _, rfl, rfl, h'⟩
  rw [if_neg c1, if_neg c1]
  by_cases c2 : x1 = 2
  · rw [if_pos c2, if_pos c2]; exact ⟨_, _, _, rfl, rfl, h'⟩
  rw [if_neg c2, if_neg c2]
  by_cases c3 : x1 = 3
  · rw [if_pos c3, if_pos c3]; exact ⟨_, _, _, rfl, rfl, h'⟩
  rw [if_neg c3, if_neg c3]
  by_cases c4 : x1 = 4
  · rw [if_pos c4, if_pos c4]; exact ⟨_, _, _, rfl, rfl, h'⟩
  rw [if_neg c4, if_neg c4]
  by_cases c5 : x1 = 5
  · rw [if_pos c5, if_pos c5]; exact ⟨_, _, _, rfl, rfl, h'⟩
  rw [if_neg c5, if_neg c5]
  by_cases c6 : x1 = 6
  · rw [if_pos c6, if_pos c6]; exact ⟨_, _, _, rfl, rfl, h'⟩
  rw [if_neg c6, if_neg c6]
  by_cases c7 : x1 = 7
  · rw [if_pos c7, if_pos c7]; exact ⟨_, _, _, rfl, rfl, h'⟩
  rw [if_neg c7, if_neg c7]
  exact ⟨_, _, _, rfl, rfl, h'.1, hK, q2, h'.2.2.2.1, hS⟩
theorem op_go {F : Nat} (hFu : 300 ≤ F) (h : AG ppl psp psy psh kpl ksp ksy ksh bs bt sz nm fd ik psc pnc pdy pzz ksc knc kdy kzz ln nw kp fm tp wd mz mn mi td) (x1 : Int32) :
    ∃ r psy' psh' fd' pdy' nw' fm', fX4_go F ppl psy psh fd psc pnc pdy x1 = some (r, psy', psh', fd', pdy') ∧ fX5_go F nw fm x1 = some (r, nw', fm') ∧ AG ppl psp psy' psh' kpl ksp ksy ksh bs bt sz nm fd' ik psc pnc pdy' pzz ksc knc kdy kzz ln nw' kp fm' tp wd mz mn mi td := by
  have h' := h
  obtain ⟨⟨ns, nv, d, rfl, rfl, rfl, hE, hR⟩, hK, hF, hT, hS⟩ := h
  obtain ⟨fm', q1, q2⟩ := hF.beyond
  obtain ⟨fm2, q3, q4⟩ := hF.state
  have hns := hE.1
  have hnv := hE.2.1
  unfold fX4_go fX5_go
  rw [wi_eq, hR.1, q1, q3, oSome, oSome]
  by_cases c1 : fX4_within x1 1 60 = 0
  · rw [if_pos c1, if_pos c1]; exact ⟨_, _, _, _, _, _, _, rfl, rfl, h'.1, hK, q2, hT, hS⟩
  rw [if_neg c1, if_neg c1]
  by_cases c2 : nI d + x1 ≤ 99999
  · rw [if_pos c2, if_pos c2]
    have h2 : 1 ≤ x1 ∧ x1 ≤ 60 := Classical.byContradiction fun q => c1 (wi_iff.mpr q)
    obtain ⟨n, hn, rfl⟩ := nI_of2 (M := 60) (n := 60) (by decide) (Int32.not_lt.mpr (Int32.le_trans (by decide) h2.1)) h2.2
    obtain ⟨nw', g1, g2⟩ := mGo (N := n) (F := F) (by omega) (by omega) (by omega) hE hR
    rw [cPassE hns hnv (by omega) hE.2.2.2.1 (by omega) (by omega) 63 hE.2.2.1, oSome, shN63 hnv, cPorts hnv (by omega), oSome, g1, oSome, mPorts g2.2.2.2.2.2.2.2 g2.2.2.2.1 hnv (by omega), oSome]
    exact ⟨_, _, _, _, _, _, _, rfl, rfl, ⟨ns, nv, _, rfl, rfl, rfl, hE.days _ n, g2⟩, hK, hF, hT, hS⟩
  · rw [if_neg c2, if_neg c2]; exact ⟨_, _, _, _, _, _, _, rfl, rfl, h'.1, hK, q4, hT, hS⟩
theorem op_change (h : AG ppl psp psy psh kpl ksp ksy ksh bs bt sz nm fd ik psc pnc pdy pzz ksc knc kdy kzz ln nw kp fm tp wd mz mn mi td) (x1 x2 x3 : Int32) :
    ∃ r psy' fd' nw' fm', fX4_change psy fd psc x1 x2 x3 = (r, psy', fd') ∧ fX5_change nw fm x1 x2 x3 = some (r, nw', fm') ∧ AG ppl psp psy' psh kpl ksp ksy ksh bs bt sz nm fd' ik psc pnc pdy pzz ksc knc kdy kzz ln nw' kp fm' tp wd mz mn mi td := by
  have h' := h
  obtain ⟨⟨ns, nv, d, rfl, rfl, rfl, hE, hR⟩, hK, hF, hT, hS⟩ := h
  obtain ⟨fm', q1, q2⟩ := hF.beyond
  have hns := hE.1
  unfold fX4_change fX5_change
  rw [m_isSay hR.2.1, q1, oSome]
  by_cases c1 : fX0_hasSaying (nI ns) x1 = 0
  · rw [if_pos c1, if_pos c1]; exact ⟨_, _, _, _, _, rfl, rfl, h'.1, hK, q2, hT, hS⟩
  rw [if_neg c1, if_neg c1]
  obtain ⟨k, hk, rfl⟩ := hs_ex hns c1
  by_cases c2 : fX4_within x2 0 4 = 0
  · have e : fX5_isField x2 x3 = 0 := by
      unfold fX5_isField
      rw [if_neg (fun q => absurd c2 (by rw [q]; decide)), if_neg (fun q => absurd c2 (by rw [q]; decide)), if_neg (fun q => absurd c2 (by rw [q]; decide)), if_neg (fun q => absurd c2 (by rw [q]; decide)), if_neg (fun q => absurd c2 (by rw [q]; decide))]
    rw [if_pos c2, if_pos e]; exact ⟨_, _, _, _, _, rfl, rfl, h'.1, hK, q2, hT, hS⟩
  rw [if_neg c2]
  obtain ⟨f, hf, rfl⟩ := wi_ex (n := 4) rfl (by decide) c2
  have e : fX5_isField (nI f) x3 = fX4_within x3 0 (fX4_numberAt 5 stH (nI f)) := by
    rcases (show f = 0 ∨ f = 1 ∨ f = 2 ∨ f = 3 ∨ f = 4 by omega) with rfl | rfl | rfl | rfl | rfl <;> rfl
  rw [e]
  by_cases c3 : fX4_within x3 0 (fX4_numberAt 5 stH (nI f)) = 0
  · rw [if_pos c3, if_pos c3]; exact ⟨_, _, _, _, _, rfl, rfl, h'.1, hK, q2, hT, hS⟩
  rw [if_neg c3, if_neg c3, at5, mBecome (by omega), oSome, Nat.add_assoc, hR.2.2.2.2.2.2.1 _ (by omega), has_at (by omega) (by omega), sPut (by omega) (by omega)]
  have hv : ex (sMax f) x3 := by
    rcases (show f = 0 ∨ f = 1 ∨ f = 2 ∨ f = 3 ∨ f = 4 by omega) with rfl | rfl | rfl | rfl | rfl
    · exact wi_ex (b := 6) rfl (by decide) c3
    · exact wi_ex (b := 15) rfl (by decide) c3
    · exact wi_ex (b := 99) rfl (by decide) c3
    · exact wi_ex (b := 1) rfl (by decide) c3
    · exact wi_ex (b := 9999) rfl (by decide) c3
  exact ⟨_, _, _, _, _, rfl, rfl, ⟨ns, nv, d, rfl, rfl, rfl, hE.setS (by omega) hv, hR.setS (by omega)⟩, hK, hF, hT, hS⟩
theorem op_steer (h : AG ppl psp psy psh kpl ksp ksy ksh bs bt sz nm fd ik psc pnc pdy pzz ksc knc kdy kzz ln nw kp fm tp wd mz mn mi td) (x1 x2 x3 : Int32) :
    ∃ r psh' fd' nw' fm', fX4_steer psh fd pnc x1 x2 x3 = (r, psh', fd') ∧ fX5_steer nw fm x1 x2 x3 = some (r, nw', fm') ∧ AG ppl psp psy psh' kpl ksp ksy ksh bs bt sz nm fd' ik psc pnc pdy pzz ksc knc kdy kzz ln nw' kp fm' tp wd mz mn mi td := by
  have h' := h
  obtain ⟨⟨ns, nv, d, rfl, rfl, rfl, hE, hR⟩, hK, hF, hT, hS⟩ := h
  obtain ⟨fm', q1, q2⟩ := hF.beyond
  have hnv := hE.2.1
  unfold fX4_steer fX5_steer
  rw [m_isShip hR.2.2.2.1, hv_eq, q1, oSome]
  by_cases c1 : fX0_hasSaying (nI nv) x1 = 0
  · rw [if_pos c1, if_pos c1]; exact ⟨_, _, _, _, _, rfl, rfl, h'.1, hK, q2, hT, hS⟩
  rw [if_neg c1, if_neg c1]
  obtain ⟨k, hk, rfl⟩ := hs_ex (by omega) c1
  by_cases c2 : fX4_within x2 0 3 = 0
  · have e : fX5_isShipField x2 x3 = 0 := by
      unfold fX5_isShipField
      rw [if_neg (fun q => absurd c2 (by rw [q]; decide)), if_neg (fun q => absurd c2 (by rw [q]; decide)), if_neg (fun q => absurd c2 (by rw [q]; decide)), if_neg (fun q => absurd c2 (by rw [q]; decide))]
    rw [if_pos c2, if_pos e]; exact ⟨_, _, _, _, _, rfl, rfl, h'.1, hK, q2, hT, hS⟩
  rw [if_neg c2]
  obtain ⟨f, hf, rfl⟩ := wi_ex (n := 3) rfl (by decide) c2
  have e : fX5_isShipField (nI f) x3 = fX4_within x3 (fX4_numberAt 4 stL (nI f)) (fX4_numberAt 4 stM (nI f)) := by
    rcases (show f = 0 ∨ f = 1 ∨ f = 2 ∨ f = 3 by omega) with rfl | rfl | rfl | rfl <;> rfl
  rw [e]
  by_cases c3 : fX4_within x3 (fX4_numberAt 4 stL (nI f)) (fX4_numberAt 4 stM (nI f)) = 0
  · rw [if_pos c3, if_pos c3]; exact ⟨_, _, _, _, _, rfl, rfl, h'.1, hK, q2, hT, hS⟩
  rw [if_neg c3, if_neg c3, at4, mBecome (by omega), oSome, Nat.add_assoc, hR.2.2.2.2.2.2.2 _ (by omega), hHas (by omega) (by omega), hPut (by omega) (by omega)]
  have hv : hOK f x3 := by
    rcases (show f = 0 ∨ f = 1 ∨ f = 2 ∨ f = 3 by omega) with rfl | rfl | rfl | rfl
    · exact wi_ex (b := 15) rfl (by decide) c3
    · exact wi_ex (b := 99) rfl (by decide) c3
    · exact wi_ex1 c3
    · exact wi_ex (b := 9999) rfl (by decide) c3
  exact ⟨_, _, _, _, _, rfl, rfl, ⟨ns, nv, d, rfl, rfl, rfl, hE.setH (by omega) hv, hR.setH⟩, hK, hF, hT, hS⟩
theorem op_as {F : Nat} (hFu : 300 ≤ F) (h : AG ppl psp psy psh kpl ksp ksy ksh bs bt sz nm fd ik psc pnc pdy pzz ksc knc kdy kzz ln nw kp fm tp wd mz mn mi td) (x1 x2 : Int32) :
    ∃ r fd' fm', fX4_as F psp psy fd x1 x2 = some (r, fd') ∧ fX5_as F nw fm x1 x2 = some (r, fm') ∧ AG ppl psp psy psh kpl ksp ksy ksh bs bt sz nm fd' ik psc pnc pdy pzz ksc knc kdy kzz ln nw kp fm' tp wd mz mn mi td := by
  have h' := h
  obtain ⟨⟨ns, nv, d, rfl, rfl, rfl, hE, hR⟩, hK, hF, hT, hS⟩ := h
  obtain ⟨fm1, q1, p1⟩ := hF.beyond
  obtain ⟨fm2, q2, p2⟩ := hF.missing
  obtain ⟨fm3, q3, p3⟩ := hF.kind
  have hns := hE.1
  unfold fX4_as fX5_as
  rw [show fX5_isSpot x1 = fX4_within x1 0 9 from rfl, show fX5_isKind x2 = fX4_isKind x2 from rfl, q1, q2, q3]
  by_cases c1 : fX4_within x1 0 9 = 0
  · rw [if_pos c1, if_pos c1]; exact ⟨_, _, _, rfl, rfl, h'.1, hK, p1, hT, hS⟩
  rw [if_neg c1, if_neg c1]
  by_cases c2 : fX4_isKind x2 = 0
  · rw [if_pos c2, if_pos c2]; exact ⟨_, _, _, rfl, rfl, h'.1, hK, p1, hT, hS⟩
  rw [if_neg c2, if_neg c2]
  obtain ⟨i, hi, rfl⟩ := wi_ex (n := 9) rfl (by decide) c1
  obtain ⟨b, hb, rfl⟩ := wi_ex (n := 6) rfl (by decide) c2
  rw [show (10 : Int32) + nI i = nI (10 + i) from nI_add 10 i, if_pos (in84 (by omega)), nI_clamp (by omega), hR.2.2.2.2.2.1 i (by omega), show fX0_heldIn psp (nI i) = psp i from num_at (by omega) (by decide)]
  rcases hE.2.2.2.2.1 i (by omega) with e | ⟨k, hk, e⟩
  · rw [e, if_pos rfl, if_neg (by decide)]; exact ⟨_, _, _, rfl, rfl, h'.1, hK, p2, hT, hS⟩
  · obtain ⟨a, ha, ea⟩ := (hE.2.2.2.2.2.1 k hk).1
    obtain ⟨r, g1, g2⟩ := undB (F := F) (a := a) (b := b) (by omega) (by omega) (by omega)
    rw [e, if_neg (nI_nm1 (by omega)), if_pos (nI_pos' (by omega)), sHas0 (by omega), hR.2.2.2.2.2.2.1.is0 (by omega), oSome, ea, g1, g2, oSome, oSome]
    by_cases c : r = 0
    · rw [if_pos c, if_pos c]; exact ⟨_, _, _, rfl, rfl, h'.1, hK, p3, hT, hS⟩
    · rw [if_neg c, if_neg c]; exact ⟨_, _, _, rfl, rfl, h'⟩
theorem op_status {F : Nat} (hFu : 300 ≤ F) (h : AG ppl psp psy psh kpl ksp ksy ksh bs bt sz nm fd ik psc pnc pdy pzz ksc knc kdy kzz ln nw kp fm tp wd mz mn mi td) (x1 : Int32) :
    ∃ r fd' fm', fX4_status F fd x1 = some (r, fd') ∧ fX5_status fm x1 = some (r, fm') ∧ AG ppl psp psy psh kpl ksp ksy ksh bs bt sz nm fd' ik psc pnc pdy pzz ksc knc kdy kzz ln nw kp fm' tp wd mz mn mi td := by
  have h' := h
  obtain ⟨hX, hK, hF, hT, hS⟩ := h
  obtain ⟨fm1, q1, p1⟩ := hF.beyond
  unfold fX4_status fX5_status
  rw [wi_eq, q1, oSome]
  by_cases c1 : fX4_within x1 (-1) 6 = 0
  · rw [if_pos c1, if_pos c1]; exact ⟨_, _, _, rfl, rfl, hX, hK, p1, hT, hS⟩
  rw [if_neg c1, if_neg c1]
  have h2 : -1 ≤ x1 ∧ x1 ≤ 6 := Classical.byContradiction fun q => c1 (wi_iff.mpr q)
  by_cases c2 : x1 < 0
  · have e : x1 = -1 := by
      have a1 := Int32.le_iff_toInt_le.mp h2.1
      have a2 := Int32.lt_iff_toInt_lt.mp c2
      apply Int32.toInt_inj.mp
      rw [show (-1 : Int32).toInt = -1 by decide] at *
      rw [show (0 : Int32).toInt = 0 by decide] at a2
      omega
    subst e
    rw [if_pos c2, cStat (by omega), if_pos (by decide), show ((-1 : Int32) + 1).toNatClampNeg = 0 by decide, hF.1]
    exact ⟨_, _, _, rfl, rfl, h'⟩
  · obtain ⟨i, hi, rfl⟩ := nI_of2 (M := 6) (n := 6) (by decide) c2 h2.2
    rw [if_neg c2, nI_1, if_pos (show ¬ (nI (i + 1) < 0 ∨ 8 ≤ (nI (i + 1)).toNatClampNeg) from nI_in (by omega) (by decide)), nI_clamp (by omega), hF.2 i (by omega), num_at (by omega) (by decide)]
    exact ⟨_, _, _, rfl, rfl, h'⟩
theorem op_image {F : Nat} (hFu : 300 ≤ F) (h : AG ppl psp psy psh kpl ksp ksy ksh bs bt sz nm fd ik psc pnc pdy pzz ksc knc kdy kzz ln nw kp fm tp wd mz mn mi td) :
    ∃ r kpl' ksp' ksy' ksh' ik' ksc' knc' kdy' kzz' kp' mi', fX4_image ppl psp psy psh kpl ksp ksy ksh ik psc pnc pdy pzz ksc knc kdy kzz = (r, kpl', ksp', ksy', ksh', ik', ksc', knc', kdy', kzz') ∧ fX5_image F nw kp mi = some (r, kp', mi') ∧ AG ppl psp psy psh kpl' ksp' ksy' ksh' bs bt sz nm fd ik' psc pnc pdy pzz ksc' knc' kdy' kzz' ln nw kp' fm tp wd mz mn mi' td := by
  obtain ⟨hX, hK, hF, hT, hS⟩ := h
  have hX' := hX
  obtain ⟨ns, nv, d, es, en, ed, hE, hR⟩ := hX
  obtain ⟨kp', g1, g2⟩ := mCopy (F := F) (by omega) nw kp
  unfold fX4_image fX5_image
  rw [g1, oSome]
  exact ⟨_, _, _, _, _, _, _, _, _, _, _, _, rfl, rfl, hX', ⟨rfl, Or.inr ⟨rfl, ns, nv, d, es, en, ed, hE.tr, (hR.row g2).tr⟩⟩, hF, hT, hS⟩
theorem op_undo {F : Nat} (hFu : 300 ≤ F) (h : AG ppl psp psy psh kpl ksp ksy ksh bs bt sz nm fd ik psc pnc pdy pzz ksc knc kdy kzz ln nw kp fm tp wd mz mn mi td) :
    ∃ r ppl' psp' psy' psh' fd' psc' pnc' pdy' pzz' nw' fm', fX4_undo ppl psp psy psh kpl ksp ksy ksh fd ik psc pnc pdy pzz ksc knc kdy kzz = (r, ppl', psp', psy', psh', fd', psc', pnc', pdy', pzz') ∧ fX5_undo F nw kp fm mi = some (r, nw', fm') ∧ AG ppl' psp' psy' psh' kpl ksp ksy ksh bs bt sz nm fd' ik psc' pnc' pdy' pzz' ksc knc kdy kzz ln nw' kp fm' tp wd mz mn mi td := by
  obtain ⟨hX, hK, hF, hT, hS⟩ := h
  have hK' := hK
  obtain ⟨rfl, hk⟩ := hK
  obtain ⟨fm1, q1, p1⟩ := hF.none
  unfold fX4_undo fX5_undo
  rw [q1, oSome]
  rcases hk with e | ⟨e, ns, nv, d, rfl, rfl, rfl, hE, hR⟩
  · rw [if_pos e, if_pos e]
    exact ⟨_, _, _, _, _, _, _, _, _, _, _, _, rfl, rfl, hX, hK', p1, hT, hS⟩
  · obtain ⟨nw', g1, g2⟩ := mCopy (F := F) (by omega) kp nw
    have hR' := hR.row g2
    rw [if_neg (by rw [e]; decide), if_neg (by rw [e]; decide), g1, oSome, hR'.1]
    exact ⟨_, _, _, _, _, _, _, _, _, _, _, _, rfl, rfl, ⟨ns, nv, d, rfl, rfl, rfl, hE.tr, hR'.tr⟩, hK', hF, hT, hS⟩
end OP
