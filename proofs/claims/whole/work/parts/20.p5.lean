/-! PURE, fifth part: the relation between class and reference; findings -/
def tot (fd : Nat → Int32) : Int32 := fd 0 + fd 1 + fd 2 + fd 3 + fd 4 + fd 5 + fd 6
def FD (fd fm : Nat → Int32) : Prop := fm 0 = tot fd ∧ ∀ i, i < 7 → fm (i + 1) = fd i
def TP (bs tp : Nat → Int32) (ln td : Int32) : Prop := ∃ n, n ≤ 120 ∧ ln = nI n ∧ td = nI n ∧ ∀ i, i < n → tp i = bs i ∧ ex 255 (bs i)
def SHT (bt sz nm wd mz mn : Nat → Int32) : Prop := (∀ s, s < 4 → wd s = bt s ∧ mz s = sz s ∧ (bt s = 0 ∨ bt s = 8 ∨ bt s = 16 ∨ bt s = 32) ∧ ex 40 (sz s) ∧ (bt s = 0 → sz s = 0)) ∧ ∀ i, i < 160 → mn i = nm i
def ES (nw pl sp sy sh : Nat → Int32) (sc nc dy zz : Int32) : Prop := ∃ ns nv d, sc = nI ns ∧ nc = nI nv ∧ dy = nI d ∧ EI pl sp sy sh ns nv d ∧ RW nw pl sp sy sh ns nv d zz
def KP (kp kpl ksp ksy ksh : Nat → Int32) (ik mi ksc knc kdy kzz : Int32) : Prop := mi = ik ∧ (ik = 0 ∨ (ik = 1 ∧ ES kp kpl ksp ksy ksh ksc knc kdy kzz))
/-- class and reference agree -/
def AG (ppl psp psy psh kpl ksp ksy ksh bs bt sz nm fd : Nat → Int32) (ik psc pnc pdy pzz ksc knc kdy kzz ln : Int32) (nw kp fm tp wd mz mn : Nat → Int32) (mi td : Int32) : Prop :=
  ES nw ppl psp psy psh psc pnc pdy pzz ∧ KP kp kpl ksp ksy ksh ik mi ksc knc kdy kzz ∧ FD fd fm ∧ TP bs tp ln td ∧ SHT bt sz nm wd mz mn
theorem tot_up {fd : Nat → Int32} {j : Nat} (hj : j < 7) : tot (upd fd j (fd j + 1)) = tot fd + 1 := by
  unfold tot
  rcases (show j = 0 ∨ j = 1 ∨ j = 2 ∨ j = 3 ∨ j = 4 ∨ j = 5 ∨ j = 6 by omega) with rfl | rfl | rfl | rfl | rfl | rfl | rfl
  all_goals simp [upd]
  all_goals ac_rfl
/-- a finding on both sides -/
theorem FD.find {fd fm : Nat → Int32} (h : FD fd fm) (w : Int32) (j : Nat) (hj : j < 7) (hw : (-1000001) - w = nI j) : ∃ fm', fX5_finding fm w = some (w, fm') ∧ FD (fX4_finding_o1 fd w) fm' := by
  have e1 : fX4_finding_o1 fd w = upd fd j (fd j + 1) := by
    unfold fX4_finding_o1
    rw [hw, show fX4_within (nI j) 0 (7 - 1) = 1 from by
      unfold fX4_within
      rw [if_neg (nI_nlt0 (by omega)), if_neg (show ¬ (7 - 1 : Int32) < nI j from nI_nlt (a := 6) (by omega) (by omega))], if_neg (by decide), nI_clamp (by omega)]
  have e2 : (nI j + 1) = nI (j + 1) := nI_1 j
  refine ⟨upd (upd fm (j + 1) (fm (j + 1) + 1)) 0 (fm 0 + 1), ?_, ?_⟩
  · unfold fX5_finding
    rw [hw, e2, if_pos (show ¬ (nI (j + 1) < 0 ∨ 8 ≤ (nI (j + 1)).toNatClampNeg) from nI_in (by omega) (by decide)), if_pos (show ¬ (nI (j + 1) < 0 ∨ 8 ≤ (nI (j + 1)).toNatClampNeg) from nI_in (by omega) (by decide)), nI_clamp (by omega), updN (show 0 ≠ j + 1 by omega)]
  · rw [e1]
    refine ⟨?_, fun i hi => ?_⟩
    · rw [updS, h.1, tot_up hj]
    · rw [updN (show i + 1 ≠ 0 by omega)]
      by_cases e : i = j
      · subst e; rw [updS, updS, h.2 i hi]
      · rw [updN (by omega), updN e]; exact h.2 i hi
theorem FD.beyond {fd fm : Nat → Int32} (h : FD fd fm) : ∃ fm', fX5_finding fm (-1000001) = some (-1000001, fm') ∧ FD (fX4_finding_o1 fd (-1000001)) fm' := h.find _ 0 (by decide) (by decide)
theorem FD.full {fd fm : Nat → Int32} (h : FD fd fm) : ∃ fm', fX5_finding fm (-1000002) = some (-1000002, fm') ∧ FD (fX4_finding_o1 fd (-1000002)) fm' := h.find _ 1 (by decide) (by decide)
theorem FD.kind {fd fm : Nat → Int32} (h : FD fd fm) : ∃ fm', fX5_finding fm (-1000003) = some (-1000003, fm') ∧ FD (fX4_finding_o1 fd (-1000003)) fm' := h.find _ 2 (by decide) (by decide)
theorem FD.none {fd fm : Nat → Int32} (h : FD fd fm) : ∃ fm', fX5_finding fm (-1000004) = some (-1000004, fm') ∧ FD (fX4_finding_o1 fd (-1000004)) fm' := h.find _ 3 (by decide) (by decide)
theorem FD.state {fd fm : Nat → Int32} (h : FD fd fm) : ∃ fm', fX5_finding fm (-1000005) = some (-1000005, fm') ∧ FD (fX4_finding_o1 fd (-1000005)) fm' := h.find _ 4 (by decide) (by decide)
theorem FD.missing {fd fm : Nat → Int32} (h : FD fd fm) : ∃ fm', fX5_finding fm (-1000006) = some (-1000006, fm') ∧ FD (fX4_finding_o1 fd (-1000006)) fm' := h.find _ 5 (by decide) (by decide)
theorem FD.size {fd fm : Nat → Int32} (h : FD fd fm) : ∃ fm', fX5_finding fm (-1000007) = some (-1000007, fm') ∧ FD (fX4_finding_o1 fd (-1000007)) fm' := h.find _ 6 (by decide) (by decide)
/-- within, as numbers -/
theorem wi_iff {x lo hi : Int32} : (fX4_within x lo hi = 0 ↔ ¬ (lo ≤ x ∧ x ≤ hi)) := by
  unfold fX4_within
  by_cases h1 : x < lo
  · rw [if_pos h1]
    exact ⟨fun _ h => Int32.not_le.mpr h1 h.1, fun _ => rfl⟩
  · rw [if_neg h1]
    by_cases h2 : hi < x
    · rw [if_pos h2]
      exact ⟨fun _ h => Int32.not_le.mpr h2 h.2, fun _ => rfl⟩
    · rw [if_neg h2]
      exact ⟨fun h => absurd h (by decide), fun h => absurd ⟨Int32.not_lt.mp h1, Int32.not_lt.mp h2⟩ h⟩
theorem wi_eq (x lo hi : Int32) : fX5_within x lo hi = fX4_within x lo hi := rfl
/-- a number that is within, by its place -/
theorem wi_ex {x b : Int32} {n : Nat} (hb : b = nI n) (hn : n < 2 ^ 31) (h : ¬ fX4_within x 0 b = 0) : ∃ k, k ≤ n ∧ x = nI k := by
  have h2 : 0 ≤ x ∧ x ≤ b := Classical.byContradiction fun q => h (wi_iff.mpr q)
  exact nI_of2 (M := b) (by rw [hb, nI_toInt hn]) (Int32.not_lt.mpr h2.1) h2.2
theorem RW.set {nw pl sp sy sh : Nat → Int32} {ns nv d i : Nat} {zz v : Int32} (R : RW nw pl sp sy sh ns nv d zz) (hi : i < 6) : RW (upd nw (4 + i) v) (upd pl i v) sp sy sh ns nv d zz := by
  obtain ⟨r0, r1, r2, r3, rp, rs, rS, rH⟩ := R
  refine ⟨by rw [updN (by omega)]; exact r0, by rw [updN (by omega)]; exact r1, by rw [updN (by omega)]; exact r2, by rw [updN (by omega)]; exact r3, fun j hj => ?_, fun j hj => by rw [updN (by omega)]; exact rs j hj, rS.off fun j h1 h2 => updN (by omega), rH.off fun j h1 => updN (by omega)⟩
  by_cases e : j = i
  · subst e; rw [updS, updS]
  · rw [updN (by omega), updN e]; exact rp j hj
theorem EI.set {pl sp sy sh : Nat → Int32} {ns nv d i k : Nat} (h : EI pl sp sy sh ns nv d) (hk : k ≤ 8) : EI (upd pl i (nI k)) sp sy sh ns nv d := by
  obtain ⟨h1, h2, h3, h4, h5⟩ := h
  refine ⟨h1, h2, h3, fun j hj => ?_, h5⟩
  by_cases e : j = i
  · subst e; rw [updS]; exact ⟨k, hk, rfl⟩
  · rw [updN e]; exact h4 j hj
section OP
variable {ppl psp psy psh kpl ksp ksy ksh bs bt sz nm fd : Nat → Int32} {ik psc pnc pdy pzz ksc knc kdy kzz ln : Int32} {nw kp fm tp wd mz mn : Nat → Int32} {mi td : Int32}
theorem op_list (h : AG ppl psp psy psh kpl ksp ksy ksh bs bt sz nm fd ik psc pnc pdy pzz ksc knc kdy kzz ln nw kp fm tp wd mz mn mi td) (x1 x2 : Int32) :
    ∃ r ppl' fd' nw' fm', fX4_list ppl fd x1 x2 = (r, ppl', fd') ∧ fX5_list nw fm x1 x2 = some (r, nw', fm') ∧ AG ppl' psp psy psh kpl ksp ksy ksh bs bt sz nm fd' ik psc pnc pdy pzz ksc knc kdy kzz ln nw' kp fm' tp wd mz mn mi td := by
  obtain ⟨⟨ns, nv, d, es, en, ed, hE, hR⟩, hK, hF, hT, hS⟩ := h
  obtain ⟨fm', q1, q2⟩ := hF.beyond
  unfold fX4_list fX5_list
  by_cases c1 : fX4_isPlace x1 = 0
  · rw [if_pos c1, show fX5_isPlace x1 = fX4_isPlace x1 from rfl, if_pos c1, q1, oSome]
    exact ⟨_, _, _, _, _, rfl, rfl, ⟨ns, nv, d, es, en, ed, hE, hR⟩, hK, q2, hT, hS⟩
  · rw [if_neg c1, show fX5_isPlace x1 = fX4_isPlace x1 from rfl, if_neg c1, wi_eq]
    by_cases c2 : fX4_within x2 0 8 = 0
    · rw [if_pos c2, if_pos c2, q1, oSome]
      exact ⟨_, _, _, _, _, rfl, rfl, ⟨ns, nv, d, es, en, ed, hE, hR⟩, hK, q2, hT, hS⟩
    · obtain ⟨i, hi, rfl⟩ := wi_ex (n := 5) rfl (by decide) c1
      obtain ⟨k, hk, rfl⟩ := wi_ex (n := 8) rfl (by decide) c2
      rw [if_neg c2, if_neg c2, show (4 : Int32) + nI i = nI (4 + i) from nI_add 4 i, mBecome (by omega), oSome]
      refine ⟨ppl i, upd ppl i (nI k), fd, upd nw (4 + i) (nI k), fm, ?_, ?_, ⟨ns, nv, d, es, en, ed, hE.set hk, hR.set (by omega)⟩, hK, hF, hT, hS⟩
      · unfold fX0_placeAt fX0_setPlace
        rw [num_at (by omega) (by decide), put_at (by omega) (by decide)]
      · rw [hR.2.2.2.2.1 i (by omega)]
theorem op_listed (h : AG ppl psp psy psh kpl ksp ksy ksh bs bt sz nm fd ik psc pnc pdy pzz ksc knc kdy kzz ln nw kp fm tp wd mz mn mi td) (x1 : Int32) :
    ∃ r fd' fm', fX4_listed ppl fd x1 = (r, fd') ∧ fX5_listed nw fm x1 = some (r, fm') ∧ AG ppl psp psy psh kpl ksp ksy ksh bs bt sz nm fd' ik psc pnc pdy pzz ksc knc kdy kzz ln nw kp fm' tp wd mz mn mi td := by
  obtain ⟨⟨ns, nv, d, es, en, ed, hE, hR⟩, hK, hF, hT, hS⟩ := h
  obtain ⟨fm', q1, q2⟩ := hF.beyond
  unfold fX4_listed fX5_listed
  by_cases c1 : fX4_isPlace x1 = 0
  · rw [if_pos c1, show fX5_isPlace x1 = fX4_isPlace x1 from rfl, if_pos c1, q1, oSome]
    exact ⟨_, _, _, rfl, rfl, ⟨ns, nv, d, es, en, ed, hE, hR⟩, hK, q2, hT, hS⟩
  · rw [if_neg c1, show fX5_isPlace x1 = fX4_isPlace x1 from rfl, if_neg c1]
    obtain ⟨i, hi, rfl⟩ := wi_ex (n := 5) rfl (by decide) c1
    rw [show (4 : Int32) + nI i = nI (4 + i) from nI_add 4 i, if_pos (in84 (by omega)), nI_clamp (by omega)]
    refine ⟨ppl i, fd, fm, ?_, ?_, ⟨ns, nv, d, es, en, ed, hE, hR⟩, hK, hF, hT, hS⟩
    · unfold fX0_placeAt
      rw [num_at (by omega) (by decide)]
    · rw [hR.2.2.2.2.1 i (by omega)]
end OP
