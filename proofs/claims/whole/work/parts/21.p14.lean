/-! PURE, fourteenth part: copy, load, judge, feed, committee -/
theorem l32 {x : Int32} (h : ¬ x < 0) : ∃ k, k < 2 ^ 31 ∧ x = nI k ∧ x.toInt64 = lN k := by
  obtain ⟨k, h1, rfl⟩ := nI_of h
  exact ⟨k, h1, rfl, nI_l h1⟩
theorem cmpS {a b q : Nat} (ha : a < 2 ^ 31) (hb : b < 2 ^ 31) (hq : q ≤ 40) : (0 < lg_cmp ((nI a).toInt64 + (nI b).toInt64) (nI q).toInt64) ↔ q < a + b := by
  rw [lg_cmp_gt, nI_l ha, nI_l hb, nI_l (by omega), lN_add, pk_lLT (by omega) (by omega)]
theorem copAL {K : (Nat → Int32) → Option (Int32 × (Nat → Int32) × (Nat → Int32) × (Nat → Int32))} {nm : Nat → Int32} {s a N : Nat} (hs : s < 4) (ha : a + N ≤ 40) : ∀ (c n k : Nat) (mv : Nat → Int32), k + c = N → c < n → ∃ mv', fX5_copy_128 K nm (nI s) (nI a) (nI N) n (nI k) mv = K mv' ∧ ∀ i, i < N → mv' i = if k ≤ i then nm (40 * s + a + i) else mv i := by
  intro c
  induction c with
  | zero =>
    intro n k mv h1 h2
    obtain ⟨n, rfl⟩ : ∃ q, n = q + 1 := ⟨n - 1, by omega⟩
    rw [fX5_copy_128, if_pos (nI_le (by omega) (by omega))]
    exact ⟨mv, rfl, fun i hi => (if_neg (by omega)).symm⟩
  | succ c ih =>
    intro n k mv h1 h2
    obtain ⟨n, rfl⟩ : ∃ q, n = q + 1 := ⟨n - 1, by omega⟩
    rw [fX5_copy_128, if_neg (nI_ge (show k < N by omega) (by omega)), ixM, nI_add, if_pos (in160 (by omega)), if_pos (in40 (by omega)), nI_clamp (by omega), nI_clamp (by omega), nI_1]
    obtain ⟨mv', g1, g2⟩ := ih n (k + 1) (upd mv k (nm (40 * s + a + k))) (by omega) (by omega)
    refine ⟨mv', g1, fun i hi => ?_⟩
    rw [g2 i hi]
    by_cases e : i = k
    · subst e; rw [if_neg (by omega), updS, if_pos (Nat.le_refl _)]
    · rw [updN e]
      by_cases e2 : k ≤ i
      · rw [if_pos (show k + 1 ≤ i by omega), if_pos e2]
      · rw [if_neg (show ¬ k + 1 ≤ i by omega), if_neg e2]
theorem copBL {fm mv : Nat → Int32} {s a N : Nat} (hs : s < 4) (ha : a + N ≤ 40) : ∀ (c n k : Nat) (nm : Nat → Int32), k + c = N → c < n → ∃ nm', fX5_copy_165 fm mv (nI s) (nI a) (nI N) n (nI k) nm = some (nI N, fm, nm', mv) ∧ ∀ j, nm' j = if 40 * s + a + k ≤ j ∧ j < 40 * s + a + N then mv (j - (40 * s + a)) else nm j := by
  intro c
  induction c with
  | zero =>
    intro n k nm h1 h2
    obtain ⟨n, rfl⟩ : ∃ q, n = q + 1 := ⟨n - 1, by omega⟩
    rw [fX5_copy_165, if_pos (nI_le (by omega) (by omega))]
    exact ⟨nm, rfl, fun j => (if_neg (by omega)).symm⟩
  | succ c ih =>
    intro n k nm h1 h2
    obtain ⟨n, rfl⟩ : ∃ q, n = q + 1 := ⟨n - 1, by omega⟩
    rw [fX5_copy_165, if_neg (nI_ge (show k < N by omega) (by omega)), ixM, nI_add, if_pos (in40 (by omega)), if_pos (in160 (by omega)), nI_clamp (by omega), nI_clamp (by omega), nI_1]
    obtain ⟨nm', g1, g2⟩ := ih n (k + 1) (upd nm (40 * s + a + k) (mv k)) (by omega) (by omega)
    refine ⟨nm', g1, fun j => ?_⟩
    rw [g2 j]
    by_cases e : j = 40 * s + a + k
    · subst e; rw [if_neg (by omega), updS, if_pos (by omega), show 40 * s + a + k - (40 * s + a) = k by omega]
    · rw [updN e]
      by_cases e2 : 40 * s + a + k ≤ j ∧ j < 40 * s + a + N
      · rw [if_pos (show 40 * s + a + (k + 1) ≤ j ∧ j < 40 * s + a + N by omega), if_pos e2]
      · rw [if_neg (show ¬ (40 * s + a + (k + 1) ≤ j ∧ j < 40 * s + a + N) by omega), if_neg e2]
section OP
variable {ppl psp psy psh kpl ksp ksy ksh bs bt sz nm fd : Nat → Int32} {ik psc pnc pdy pzz ksc knc kdy kzz ln : Int32} {nw kp fm tp wd mz mn : Nat → Int32} {mi td : Int32}
theorem op_copy {F : Nat} (hFu : 300 ≤ F) (h : AG ppl psp psy psh kpl ksp ksy ksh bs bt sz nm fd ik psc pnc pdy pzz ksc knc kdy kzz ln nw kp fm tp wd mz mn mi td) (mv : Nat → Int32) (x1 x2 x3 x4 x5 : Int32) :
    ∃ r nm' fd' fm' mn' mv', fX4_copy bt sz nm fd x1 x2 x3 x4 x5 = some (r, nm', fd') ∧ fX5_copy F fm wd mz mn mv x1 x2 x3 x4 x5 = some (r, fm', mn', mv') ∧ AG ppl psp psy psh kpl ksp ksy ksh bs bt sz nm' fd' ik psc pnc pdy pzz ksc knc kdy kzz ln nw kp fm' tp wd mz mn' mi td := by
  obtain ⟨hX, hK, hF, hT, hS⟩ := h
  obtain ⟨fm1, q1, p1⟩ := hF.beyond
  obtain ⟨fm2, q2, p2⟩ := hF.missing
  obtain ⟨fm3, q3, p3⟩ := hF.kind
  unfold fX4_copy fX5_copy
  rw [show fX5_isSheet x1 = fX4_isSheet x1 from rfl, show fX5_isSheet x3 = fX4_isSheet x3 from rfl, q1, q2, q3, oSome, oSome, oSome]
  by_cases c1 : fX4_isSheet x1 = 0
  · rw [if_pos c1, if_pos c1]; exact ⟨_, _, _, _, _, _, rfl, rfl, hX, hK, p1, hT, hS⟩
  rw [if_neg c1, if_neg c1]
  by_cases c3 : fX4_isSheet x3 = 0
  · rw [if_pos c3, if_pos c3]; exact ⟨_, _, _, _, _, _, rfl, rfl, hX, hK, p1, hT, hS⟩
  rw [if_neg c3, if_neg c3]
  obtain ⟨s, hs, rfl⟩ := wi_ex (n := 3) rfl (by decide) c1
  obtain ⟨t, ht, rfl⟩ := wi_ex (n := 3) rfl (by decide) c3
  have hs4 : s < 4 := by omega
  have ht4 : t < 4 := by omega
  obtain ⟨s1, s2, s3, ⟨qs, hqs, s4⟩, s5⟩ := hS.1 s hs4
  obtain ⟨t1, t2, t3, ⟨qt, hqt, t4⟩, t5⟩ := hS.1 t ht4
  rw [if_pos (in4 hs4), if_pos (in4 ht4), if_pos (in4 hs4), if_pos (in4 ht4), if_pos (in4 hs4), if_pos (in4 ht4), nI_clamp (show s < 2 ^ 31 by omega), nI_clamp (show t < 2 ^ 31 by omega), s1, t1, s2, t2, s4, t4, shMis hs4, shMis ht4, shBits hs4, shBits ht4]
  by_cases b1 : bt s = 0
  · rw [if_pos b1, if_neg (by decide), if_pos b1]; exact ⟨_, _, _, _, _, _, rfl, rfl, hX, hK, p2, hT, hS⟩
  rw [if_neg b1, if_pos rfl, if_neg b1]
  by_cases b2 : bt t = 0
  · rw [if_pos b2, if_neg (by decide), if_pos b2]; exact ⟨_, _, _, _, _, _, rfl, rfl, hX, hK, p2, hT, hS⟩
  rw [if_neg b2, if_pos rfl, if_neg b2]
  by_cases b3 : ¬ bt s = bt t
  · rw [if_neg b3, if_neg b3]; exact ⟨_, _, _, _, _, _, rfl, rfl, hX, hK, p3, hT, hS⟩
  rw [if_pos (Classical.not_not.mp b3), if_pos (Classical.not_not.mp b3)]
  have hm : ∀ (y x q : Int32) (w qq : Nat), w < 4 → sz w = nI qq → fX2_hasSoMany sz (nI w) y x = if y < 0 then 0 else if x < 0 then 0 else if 0 < lg_cmp (y.toInt64 + x.toInt64) (nI qq).toInt64 then 0 else 1 := by
    intro y x q w qq hw e
    unfold fX2_hasSoMany
    rw [shSize hw, e]
  have es := hm x2 x5 0 s qs hs4 s4
  have et := hm x4 x5 0 t qt ht4 t4
  by_cases d2 : x2 < 0
  · rw [if_pos d2] at es
    rw [es, if_pos rfl, if_pos d2]; exact ⟨_, _, _, _, _, _, rfl, rfl, hX, hK, p1, hT, hS⟩
  rw [if_neg d2] at es
  rw [if_neg d2]
  by_cases d5 : x5 < 0
  · rw [if_pos d5] at es
    rw [es, if_pos rfl, if_pos d5]
    by_cases d4 : x4 < 0
    · rw [if_pos d4]; exact ⟨_, _, _, _, _, _, rfl, rfl, hX, hK, p1, hT, hS⟩
    · rw [if_neg d4]; exact ⟨_, _, _, _, _, _, rfl, rfl, hX, hK, p1, hT, hS⟩
  rw [if_neg d5] at es et
  by_cases d4 : x4 < 0
  · rw [if_pos d4] at et
    rw [et, if_pos rfl, if_pos d4]
    by_cases e : fX2_hasSoMany sz (nI s) x2 x5 = 0
    · rw [if_pos e]; exact ⟨_, _, _, _, _, _, rfl, rfl, hX, hK, p1, hT, hS⟩
    · rw [if_neg e]; exact ⟨_, _, _, _, _, _, rfl, rfl, hX, hK, p1, hT, hS⟩
  rw [if_neg d4] at et
  rw [if_neg d4, if_neg d5]
  obtain ⟨a, ha, rfl, _⟩ := l32 d2
  obtain ⟨b, hb, rfl, _⟩ := l32 d4
  obtain ⟨N, hN, rfl, _⟩ := l32 d5
  by_cases g1 : 0 < lg_cmp ((nI a).toInt64 + (nI N).toInt64) (nI qs).toInt64
  · rw [if_pos g1] at es
    rw [es, if_pos rfl, if_pos g1]; exact ⟨_, _, _, _, _, _, rfl, rfl, hX, hK, p1, hT, hS⟩
  rw [if_neg g1] at es
  rw [if_neg g1]
  by_cases g2 : 0 < lg_cmp ((nI b).toInt64 + (nI N).toInt64) (nI qt).toInt64
  · rw [if_pos g2] at et
    rw [es, et, if_neg (by decide), if_pos rfl, if_neg (Int32.not_le.mpr g2)]; exact ⟨_, _, _, _, _, _, rfl, rfl, hX, hK, p1, hT, hS⟩
  rw [if_neg g2] at et
  have h1 : ¬ qs < a + N := fun q => g1 ((cmpS ha hN hqs).mpr q)
  have h2 : ¬ qt < b + N := fun q => g2 ((cmpS hb hN hqt).mpr q)
  have ec : fX2_carry sz nm (nI s) (nI a) (nI t) (nI b) (nI N) = some (va_cpy nm nm (40 * s + a) (40 * t + b) N) := by
    unfold fX2_carry
    rw [if_neg c1, if_neg c3, es, et, if_neg (by decide), if_neg (by decide), ixS, ixS, nI_clamp (by omega), nI_clamp (by omega), nI_clamp (by omega), if_pos ⟨nI_nlt0 (by omega), nI_nlt0 (by omega), nI_nlt0 (by omega), by omega, by omega⟩]
  rw [es, et, if_neg (by decide), if_neg (by decide), ec, oSome, if_pos (Int32.not_lt.mp g2)]
  obtain ⟨mv', k1, k2⟩ := copAL (K := fun mv__32 => fX5_copy_165 fm mv__32 (nI t) (nI b) (nI N) F 0 mn) (nm := mn) (s := s) (a := a) (N := N) hs4 (by omega) N F 0 mv (by omega) (by omega)
  have k3 : fX5_copy_128 (fun mv__32 => fX5_copy_165 fm mv__32 (nI t) (nI b) (nI N) F 0 mn) mn (nI s) (nI a) (nI N) F 0 mv = fX5_copy_165 fm mv' (nI t) (nI b) (nI N) F 0 mn := k1
  obtain ⟨mn', k4, k5⟩ := copBL (fm := fm) (mv := mv') (s := t) (a := b) (N := N) ht4 (by omega) N F 0 mn (by omega) (by omega)
  rw [k3, show fX5_copy_165 fm mv' (nI t) (nI b) (nI N) F 0 mn = some (nI N, fm, mn', mv') from k4]
  refine ⟨_, _, _, _, _, _, rfl, rfl, hX, hK, hF, hT, hS.1, fun j hj => ?_⟩
  rw [k5 j]
  by_cases e : 40 * t + b + 0 ≤ j ∧ j < 40 * t + b + N
  · rw [if_pos e, k2 _ (by omega), if_pos (Nat.zero_le _), hS.2 _ (by omega), pk_cpy_in (by omega) (by omega)]
  · rw [if_neg e, hS.2 j hj, pk_cpy_out (by omega)]
theorem loadL {s q : Nat} {nv d ns : Nat} {zz : Int32} {ppl psp psh nm mz mn fd fm : Nat → Int32} (hs : s < 4) (hq : q ≤ 40) (eq : mz s = nI q) (hS : ∀ i, i < 160 → mn i = nm i) : ∀ (c n k : Nat) (psy nw : Nat → Int32), k + c = min ns q → c < n → EI ppl psp psy psh ns nv d → RW nw ppl psp psy psh ns nv d zz → ∃ r psy' nw', fX4_load_38 nm fd (nI s) (nI (min ns q)) n (nI k) psy = some (r, psy', fd) ∧ fX5_load_22 fm mz mn (nI s) n (nI k) nw = some (r, nw', fm) ∧ EI ppl psp psy' psh ns nv d ∧ RW nw' ppl psp psy' psh ns nv d zz := by
  intro c
  induction c with
  | zero =>
    intro n k psy nw h1 h2 hE hR
    have hns := hE.1
    obtain ⟨n, rfl⟩ : ∃ q, n = q + 1 := ⟨n - 1, by omega⟩
    obtain rfl : k = min ns q := by omega
    rw [fX4_load_38, fX5_load_22, if_pos (nI_le (Nat.le_refl _) (by omega)), if_pos (in4 hs), nI_clamp (by omega), eq]
    by_cases e : q ≤ min ns q
    · rw [if_pos (nI_le e (by omega))]; exact ⟨_, _, _, rfl, rfl, hE, hR⟩
    · have ei : fX5_isSaying nw (nI (min ns q)) = 0 := by
        rw [m_isSay hR.2.1]
        unfold fX0_hasSaying
        refine wi_iff.mpr fun g => ?_
        have g2 := Int32.lt_of_le_of_lt g.2 (show nI ns - 1 < nI ns from by
          cases ns with
          | zero => decide
          | succ ns => rw [nI_pred]; exact nI_lt (by omega) (by omega))
        exact absurd ((nI_ltI (by omega) (by omega)).mp g2) (by omega)
      rw [if_neg (nI_ge (show min ns q < q by omega) (by omega)), if_pos ei]; exact ⟨_, _, _, rfl, rfl, hE, hR⟩
  | succ c ih =>
    intro n k psy nw h1 h2 hE hR
    have hns := hE.1
    obtain ⟨n, rfl⟩ : ∃ q, n = q + 1 := ⟨n - 1, by omega⟩
    have ei : ¬ fX5_isSaying nw (nI k) = 0 := by
      rw [m_isSay hR.2.1]
      unfold fX0_hasSaying
      refine fun g => wi_iff.mp g ⟨nI_pos' (by omega), ?_⟩
      obtain ⟨ns, rfl⟩ : ∃ p, ns = p + 1 := ⟨ns - 1, by omega⟩
      rw [nI_pred]; exact nI_le (by omega) (by omega)
    rw [fX4_load_38, fX5_load_22, if_neg (nI_ge (show k < min ns q by omega) (by omega)), if_pos (in4 hs), nI_clamp (show s < 2 ^ 31 by omega), eq, if_neg (nI_ge (show k < q by omega) (by omega)), if_neg ei, ixM, if_pos (in160 (by omega)), if_pos (in160 (by omega)), nI_clamp (show 40 * s + k < 2 ^ 31 by omega), shNum (by omega), hS _ (by omega), show fX5_isMany (nm (40 * s + k)) = fX4_within (nm (40 * s + k)) 0 99 from rfl]
    by_cases c2 : fX4_within (nm (40 * s + k)) 0 99 = 0
    · rw [if_pos c2, if_pos c2]; exact ⟨_, _, _, rfl, rfl, hE, hR⟩
    · have ea : fX5_sayingAt (nI k) 2 = nI (20 + (5 * k + 2)) := (at5 k 2).trans (congrArg nI (Nat.add_assoc 20 (5 * k) 2))
      rw [if_neg c2, if_neg c2, ea, if_pos (in84 (by omega)), nI_clamp (by omega), sPut2 (by omega), nI_1]
      exact ih n (k + 1) _ _ (by omega) (by omega) (hE.setS (by omega) (wi_ex (b := 99) rfl (by decide) c2)) (hR.setS (by omega))
theorem op_load {F : Nat} (hFu : 300 ≤ F) (h : AG ppl psp psy psh kpl ksp ksy ksh bs bt sz nm fd ik psc pnc pdy pzz ksc knc kdy kzz ln nw kp fm tp wd mz mn mi td) (x1 : Int32) :
    ∃ r psy' fd' nw' fm', fX4_load F psy bt sz nm fd psc x1 = some (r, psy', fd') ∧ fX5_load F nw fm wd mz mn x1 = some (r, nw', fm') ∧ AG ppl psp psy' psh kpl ksp ksy ksh bs bt sz nm fd' ik psc pnc pdy pzz ksc knc kdy kzz ln nw' kp fm' tp wd mz mn mi td := by
  have h' := h
  obtain ⟨⟨ns, nv, d, rfl, rfl, rfl, hE, hR⟩, hK, hF, hT, hS⟩ := h
  unfold fX4_load fX5_load
  rw [mlk hS, oSome, oSome, if_neg (show ¬ (1 : Int32) = 0 by decide)]
  by_cases c : fX4_faultOfSheet bt x1 = 0
  · rw [if_pos c, if_pos c, if_pos rfl]
    obtain ⟨s, hs, rfl, _, _⟩ := fltOK c
    obtain ⟨_, s2, _, ⟨q, hq, s4⟩, _⟩ := hS.1 s hs
    have hns := hE.1
    have em : (if nI ns < fX2_sizeOf sz (nI s) then nI ns else fX2_sizeOf sz (nI s)) = nI (min ns q) := by
      rw [shSize hs, s4]
      by_cases e : nI ns < nI q
      · rw [if_pos e, Nat.min_eq_left (Nat.le_of_lt ((nI_ltI (by omega) (by omega)).mp e))]
      · rw [if_neg e, Nat.min_eq_right (Nat.le_of_not_lt fun e2 => e (nI_lt e2 (by omega)))]
    rw [em]
    obtain ⟨r, psy', nw', g1, g2, g3, g4⟩ := loadL (fd := fd) (fm := fm) hs hq (s2.trans s4) hS.2 (min ns q) F 0 psy nw (by omega) (by omega) hE hR
    exact ⟨r, psy', fd, nw', fm, g1, g2, ⟨ns, nv, d, rfl, rfl, rfl, g3, g4⟩, hK, hF, hT, hS⟩
  · obtain ⟨fm1, q1, p1⟩ := hF.fault c
    rw [if_neg c, if_neg c, if_neg c, q1, oSome]
    exact ⟨_, _, _, _, _, rfl, rfl, h'.1, hK, p1, hT, hS⟩
theorem judL {s q nv : Nat} {psh nw sz nm mz mn fd fm : Nat → Int32} (hs : s < 4) (hq : q ≤ 40) (eq : mz s = nI q) (eq2 : sz s = nI q) (hS : ∀ i, i < 160 → mn i = nm i) (hnv : nv ≤ 6) (R : RowH nw psh) (e3 : nw 3 = nI nv) : ∀ (c n k : Nat), k + c = q → c < n → ∃ r, fX4_judge_18 psh sz nm fd (nI nv) (nI s) n (nI k) = some (r, fd) ∧ fX5_judge_22 nw fm mz mn (nI s) n (nI k) = some (r, fm) := by
  intro c
  induction c with
  | zero =>
    intro n k h1 h2
    obtain ⟨n, rfl⟩ : ∃ q, n = q + 1 := ⟨n - 1, by omega⟩
    obtain rfl : k = q := by omega
    rw [fX4_judge_18, fX5_judge_22, shSize hs, eq2, if_pos (nI_le (Nat.le_refl _) (by omega)), if_pos (in4 hs), if_pos (in4 hs), nI_clamp (by omega), eq, if_pos (nI_le (Nat.le_refl _) (by omega)), if_pos rfl]
    exact ⟨_, rfl, rfl⟩
  | succ c ih =>
    intro n k h1 h2
    obtain ⟨n, rfl⟩ : ∃ q, n = q + 1 := ⟨n - 1, by omega⟩
    have hne : ¬ nI k = nI q := fun g => absurd ((nI_eq (by omega) (by omega)).mp g) (by omega)
    rw [fX4_judge_18, fX5_judge_22, shSize hs, eq2, if_neg (nI_ge (show k < q by omega) (by omega)), if_pos (in4 hs), if_pos (in4 hs), nI_clamp (show s < 2 ^ 31 by omega), eq, if_neg (nI_ge (show k < q by omega) (by omega)), if_neg hne, m_isShip e3, hv_eq, ixM, if_pos (in160 (by omega)), nI_clamp (show 40 * s + k < 2 ^ 31 by omega), hS _ (by omega), shNum (by omega)]
    by_cases c1 : fX0_hasSaying (nI nv) (nI k) = 0
    · rw [if_pos c1, if_pos c1]; exact ⟨_, rfl, rfl⟩
    · obtain ⟨j, hj, e⟩ := hs_ex (by omega) c1
      obtain rfl : k = j := (nI_eq (by omega) (by omega)).mp e
      rw [if_neg c1, if_neg c1, hHas0 (by omega), R.is0 (by omega), oSome, nI_1]
      by_cases c2 : psh (4 * k) = nm (40 * s + k)
      · rw [if_pos c2, if_pos c2.symm]; exact ih n (k + 1) (by omega) (by omega)
      · rw [if_neg c2, if_neg (fun g => c2 g.symm)]; exact ⟨_, rfl, rfl⟩
theorem op_judge {F : Nat} (hFu : 300 ≤ F) (h : AG ppl psp psy psh kpl ksp ksy ksh bs bt sz nm fd ik psc pnc pdy pzz ksc knc kdy kzz ln nw kp fm tp wd mz mn mi td) (x1 : Int32) :
    ∃ r fd' fm', fX4_judge F psh bt sz nm fd pnc x1 = some (r, fd') ∧ fX5_judge F nw fm wd mz mn x1 = some (r, fm') ∧ AG ppl psp psy psh kpl ksp ksy ksh bs bt sz nm fd' ik psc pnc pdy pzz ksc knc kdy kzz ln nw kp fm' tp wd mz mn mi td := by
  have h' := h
  obtain ⟨⟨ns, nv, d, rfl, rfl, rfl, hE, hR⟩, hK, hF, hT, hS⟩ := h
  unfold fX4_judge fX5_judge
  rw [mlk hS, oSome, oSome, if_neg (show ¬ (1 : Int32) = 0 by decide)]
  by_cases c : fX4_faultOfSheet bt x1 = 0
  · rw [if_pos c, if_pos c, if_pos rfl]
    obtain ⟨s, hs, rfl, _, _⟩ := fltOK c
    obtain ⟨_, s2, _, ⟨q, hq, s4⟩, _⟩ := hS.1 s hs
    obtain ⟨r, g1, g2⟩ := judL (fd := fd) (fm := fm) hs hq (s2.trans s4) s4 hS.2 hE.2.1 hR.2.2.2.2.2.2.2 hR.2.2.2.1 q F 0 (by omega) (by omega)
    exact ⟨r, fd, fm, g1, g2, h'⟩
  · obtain ⟨fm1, q1, p1⟩ := hF.fault c
    rw [if_neg c, if_neg c, if_neg c, q1, oSome]
    exact ⟨_, _, _, rfl, rfl, h'.1, hK, p1, hT, hS⟩
theorem feedL {fd fm : Nat → Int32} {x : Int32} : ∀ (c n l : Nat) (bs tp : Nat → Int32), c < n → l + c ≤ 120 → (∀ i, i < l → tp i = bs i ∧ ex 255 (bs i)) → ∃ bs' tp', fX4_feed_41 fd x n (nI c + (-1)) bs (nI l) = some (nI (l + c), bs', fd, nI (l + c)) ∧ fX5_feed_38 fm x n (nI c + (-1)) tp (nI l) = some (nI (l + c), fm, tp', nI (l + c)) ∧ ∀ i, i < l + c → tp' i = bs' i ∧ ex 255 (bs' i) := by
  intro c
  induction c with
  | zero =>
    intro n l bs tp h1 h2 h3
    obtain ⟨n, rfl⟩ : ∃ q, n = q + 1 := ⟨n - 1, by omega⟩
    rw [fX4_feed_41, fX5_feed_38, if_pos (show nI 0 + (-1) < 0 by decide), if_pos (show nI 0 + (-1) < 0 by decide)]
    exact ⟨bs, tp, rfl, rfl, h3⟩
  | succ c ih =>
    intro n l bs tp h1 h2 h3
    obtain ⟨n, rfl⟩ : ∃ q, n = q + 1 := ⟨n - 1, by omega⟩
    obtain ⟨b, hb, eb⟩ := pk_andE (x >>> ((8 * nI c) &&& 31)) (m := 255) 8 (by decide)
    have e1 : fX3_add_o0 bs (nI l) ((x >>> ((8 * nI c) &&& 31)) &&& 255) = upd bs l (nI b) := by
      rw [eb]; exact put_at (by omega) (by decide)
    have e2 : fX3_add_o1 bs (nI l) ((x >>> ((8 * nI c) &&& 31)) &&& 255) = nI (l + 1) := by
      show (if nI l + 1 < 120 then nI l + 1 else 120) = nI (l + 1)
      rw [nI_1]
      by_cases e : l + 1 = 120
      · rw [e]; decide
      · exact if_pos (nI_lt (b := 120) (by omega) (by omega))
    rw [fX4_feed_41, fX5_feed_38, pk_m1, if_neg (nI_nlt0 (by omega)), if_neg (nI_nlt0 (by omega)), e1, e2, if_pos (show ¬ (nI l < 0 ∨ 120 ≤ (nI l).toNatClampNeg) from nI_in (by omega) (by decide)), nI_clamp (show l < 2 ^ 31 by omega), nI_1, eb]
    obtain ⟨bs', tp', g1, g2, g3⟩ := ih n (l + 1) (upd bs l (nI b)) (upd tp l (nI b)) (by omega) (by omega) (fun i hi => by
      by_cases e : i = l
      · subst e; rw [updS, updS]; exact ⟨rfl, b, by omega, rfl⟩
      · rw [updN e, updN e]; exact h3 i (by omega))
    rw [show l + 1 + c = l + (c + 1) by omega] at g1 g2 g3
    exact ⟨bs', tp', g1, g2, g3⟩
theorem op_feed {F : Nat} (hFu : 300 ≤ F) (h : AG ppl psp psy psh kpl ksp ksy ksh bs bt sz nm fd ik psc pnc pdy pzz ksc knc kdy kzz ln nw kp fm tp wd mz mn mi td) (x1 x2 : Int32) :
    ∃ r bs' fd' ln' fm' tp' td', fX4_feed F bs fd ln x1 x2 = some (r, bs', fd', ln') ∧ fX5_feed F fm tp td x1 x2 = some (r, fm', tp', td') ∧ AG ppl psp psy psh kpl ksp ksy ksh bs' bt sz nm fd' ik psc pnc pdy pzz ksc knc kdy kzz ln' nw kp fm' tp' wd mz mn mi td' := by
  obtain ⟨hX, hK, hF, ⟨l, h1, rfl, rfl, h4⟩, hS⟩ := h
  obtain ⟨fm1, q1, p1⟩ := hF.beyond
  obtain ⟨fm2, q2, p2⟩ := hF.full
  unfold fX4_feed fX5_feed
  rw [wi_eq, q1, q2, oSome, oSome]
  by_cases c1 : fX4_within x2 1 4 = 0
  · rw [if_pos c1, if_pos c1]; exact ⟨_, _, _, _, _, _, _, rfl, rfl, hX, hK, p1, ⟨l, h1, rfl, rfl, h4⟩, hS⟩
  rw [if_neg c1, if_neg c1]
  have h2 : 1 ≤ x2 ∧ x2 ≤ 4 := Classical.byContradiction fun q => c1 (wi_iff.mpr q)
  obtain ⟨m, hm, rfl⟩ := nI_of2 (M := 4) (n := 4) (by decide) (Int32.not_lt.mpr (Int32.le_trans (by decide) h2.1)) h2.2
  have hm1 : 1 ≤ m := (nI_leI (by decide) (by omega)).mp (show nI 1 ≤ nI m from h2.1)
  rw [nI_add]
  by_cases c2 : nI (l + m) ≤ 120
  · have hl : l + m ≤ 120 := (nI_leI (by omega) (by decide)).mp (show nI (l + m) ≤ nI 120 from c2)
    have em : nI m - 1 = nI m + (-1) := by
      obtain ⟨p, rfl⟩ : ∃ p, m = p + 1 := ⟨m - 1, by omega⟩
      rw [nI_pred, pk_m1]
    obtain ⟨bs', tp', g1, g2, g3⟩ := feedL (fd := fd) (fm := fm) (x := x1) m F l bs tp (by omega) hl h4
    rw [if_pos c2, if_pos c2, em, g1, g2]
    exact ⟨_, _, _, _, _, _, _, rfl, rfl, hX, hK, hF, ⟨l + m, hl, rfl, rfl, g3⟩, hS⟩
  · rw [if_neg c2, if_neg c2]; exact ⟨_, _, _, _, _, _, _, rfl, rfl, hX, hK, p2, ⟨l, h1, rfl, rfl, h4⟩, hS⟩
theorem drw_ex (zz : Int32) : ∃ j, j < 2 ^ 24 ∧ fX0_draw_o0 zz = nI j := by
  have hlt : ((zz * 1103515245) + 12345).toBitVec.toNat < 2 ^ 32 := BitVec.isLt _
  refine ⟨((zz * 1103515245) + 12345).toBitVec.toNat / 2 ^ 8, by omega, ?_⟩
  show (((zz * 1103515245) + 12345).toUInt32 >>> ((8 : Int32).toUInt32 &&& Int32.toUInt32 31)).toInt32 = _
  apply Int32.toBitVec_inj.mp
  apply BitVec.eq_of_toNat_eq
  rw [pk_ushr _ _ 8 (by decide), pk_tn (by omega)]
theorem drwn1 (nw : Nat → Int32) : fX5_drawn_o1 nw = upd nw 2 (fX0_draw_o1 (nw 2)) := rfl
theorem drwn0 (nw : Nat → Int32) : fX5_drawn_o0 nw = fX0_draw_o0 (nw 2) := by
  show (((upd nw 2 (((nw 2) * 1103515245) + 12345)) 2).toUInt32 >>> ((8 : Int32).toUInt32 &&& Int32.toUInt32 31)).toInt32 = _
  rw [updS]; rfl
theorem commL {psp fd fm : Nat → Int32} {ns nv N F : Nat} (hFu : 300 ≤ F) (hN : N ≤ 20) : ∀ (c n k d : Nat) (ppl psy psh nw : Nat → Int32) (zz : Int32), k + c = N → c < n → EI ppl psp psy psh ns nv d → RW nw ppl psp psy psh ns nv d zz → ∃ r ppl' psy' psh' d' zz' nw', fX4_committee_40 F fd (nI ns) (nI nv) (nI N) n (nI k) ppl psy psh (nI d) zz = some (r, ppl', psy', psh', fd, nI d', zz') ∧ fX5_committee_39 F fm (nI N) n (nI k) nw = some (r, nw', fm) ∧ EI ppl' psp psy' psh' ns nv d' ∧ RW nw' ppl' psp psy' psh' ns nv d' zz' := by
  intro c
  induction c with
  | zero =>
    intro n k d ppl psy psh nw zz h1 h2 hE hR
    obtain ⟨n, rfl⟩ : ∃ q, n = q + 1 := ⟨n - 1, by omega⟩
    obtain rfl : k = N := by omega
    rw [fX4_committee_40, fX5_committee_39, if_pos (nI_le (Nat.le_refl _) (by omega)), if_pos (nI_le (Nat.le_refl _) (by omega)), cPorts hE.2.1 (by omega), oSome, mPorts hR.2.2.2.2.2.2.2 hR.2.2.2.1 hE.2.1 (by omega), oSome]
    exact ⟨_, _, _, _, _, _, _, rfl, rfl, hE, hR⟩
  | succ c ih =>
    intro n k d ppl psy psh nw zz h1 h2 hE hR
    have hns := hE.1
    have hnv := hE.2.1
    have hd := hE.2.2.1
    obtain ⟨n, rfl⟩ : ∃ q, n = q + 1 := ⟨n - 1, by omega⟩
    obtain ⟨j1, hj1, e1⟩ := drw_ex zz
    obtain ⟨j2, hj2, e2⟩ := drw_ex (fX0_draw_o1 zz)
    have m1 : nI j1 - nI j1 / 9 * 9 = nI (j1 % 9) := pk_rem (d := 9) (by omega) (by decide) (by decide)
    have m2 : nI j2 - nI j2 / 8 * 8 = nI (j2 % 8) := pk_rem (d := 8) (by omega) (by decide) (by decide)
    have m3 : nI d - nI d / 6 * 6 = nI (d % 6) := pk_rem (d := 6) (by omega) (by decide) (by decide)
    have R1 : RW (upd nw 2 (fX0_draw_o1 zz)) ppl psp psy psh ns nv d (fX0_draw_o1 zz) := hR.setZ
    have R2 := R1.set (i := d % 6) (v := nI (j1 % 9)) (by omega)
    have R3 := R2.setZ (v := fX0_draw_o1 (fX0_draw_o1 zz))
    have E2 := hE.set (i := d % 6) (k := j1 % 9) (by omega)
    rw [fX4_committee_40, fX5_committee_39, if_neg (nI_ge (show k < N by omega) (by omega)), if_neg (nI_ge (show k < N by omega) (by omega))]
    rw [drwn1 nw, drwn0 nw, hR.2.2.1, e1, m1]
    have ep : fX5_placeNow (upd nw 2 (fX0_draw_o1 zz)) = nI (4 + d % 6) := by
      unfold fX5_placeNow
      rw [R1.1, m3]; exact nI_add 4 _
    rw [ep, if_pos (in84 (by omega)), nI_clamp (show 4 + d % 6 < 2 ^ 31 by omega)]
    rw [drwn1 (upd (upd nw 2 (fX0_draw_o1 zz)) (4 + d % 6) (nI (j1 % 9))), drwn0 (upd (upd nw 2 (fX0_draw_o1 zz)) (4 + d % 6) (nI (j1 % 9))), R2.2.2.1, e2, m2, m_isSay R3.2.1]
    have ec : fX0_setPlace ppl (fX0_placeOfDay (nI d)) (nI (j1 % 9)) = upd ppl (d % 6) (nI (j1 % 9)) := by
      unfold fX0_placeOfDay
      rw [m3, setPl (by omega)]
    rw [ec]
    have e8 : j2 % 8 < 8 := by omega
    by_cases c1 : fX0_hasSaying (nI ns) (nI (j2 % 8)) = 0
    · have ev : fX0_makeVaguer psy (nI ns) (nI (j2 % 8)) = psy := by unfold fX0_makeVaguer; rw [if_pos c1]
      obtain ⟨n1, g1, g2⟩ := mDayR (F := F) (by omega) E2 R3
      rw [if_pos c1, ev, cPass1 hns hnv (by omega) E2.2.2.2.1 _ hd, oSome, g1, oSome, nI_1]
      dsimp only
      rw [shR_mk (mk := mkB 63) (mk' := fun _ => true) nv 0 psh fun u _ h => mkB63 (by omega)]
      exact ih n (k + 1) _ _ _ _ n1 _ (by omega) (by omega) (E2.day1 _) g2
    · obtain ⟨q, hq, eq⟩ := hs_ex hns c1
      obtain ⟨a, ha, ea⟩ := (hE.2.2.2.2.2.1 q hq).2.2.1
      have eq2 : q = j2 % 8 := ((nI_eq (by omega) (by omega)).mp eq).symm
      subst eq2
      have ev : fX0_makeVaguer psy (nI ns) (nI (j2 % 8)) = upd psy (5 * (j2 % 8) + 2) (minS (psy (5 * (j2 % 8) + 2) + 5) 99) := by
        unfold fX0_makeVaguer
        rw [if_neg c1, sHas2 e8, sPut2 e8]; rfl
      have E4 := E2.setS (j := j2 % 8) (f := 2) (v := minS (psy (5 * (j2 % 8) + 2) + 5) 99) (by omega) (ex_min rfl (by decide) ⟨a + 5, by omega, by rw [ea]; exact nI_add a 5⟩)
      have R4 := R3.setS (j := 5 * (j2 % 8) + 2) (v := minS (psy (5 * (j2 % 8) + 2) + 5) 99) (by omega)
      obtain ⟨n1, g1, g2⟩ := mDayR (F := F) (by omega) E4 R4
      have es : fX5_sayingAt (nI (j2 % 8)) 2 = nI (20 + (5 * (j2 % 8) + 2)) := (at5 (j2 % 8) 2).trans (congrArg nI (Nat.add_assoc 20 (5 * (j2 % 8)) 2))
      have em := mMore (nw := upd (upd (upd nw 2 (fX0_draw_o1 zz)) (4 + d % 6) (nI (j1 % 9))) 2 (fX0_draw_o1 (fX0_draw_o1 zz))) (m := 20 + (5 * (j2 % 8) + 2)) (b := 5) (h := 99) (by omega)
      rw [R3.2.2.2.2.2.2.1 (5 * (j2 % 8) + 2) (by omega)] at em
      rw [if_neg c1, ev, cPass1 hns hnv (by omega) E2.2.2.2.1 _ hd, oSome, es, em, oSome]
      rw [show (if psy (5 * (j2 % 8) + 2) + 5 < 99 then psy (5 * (j2 % 8) + 2) + 5 else 99) = minS (psy (5 * (j2 % 8) + 2) + 5) 99 from rfl, g1, oSome, nI_1]
      dsimp only
      rw [shR_mk (mk := mkB 63) (mk' := fun _ => true) nv 0 psh fun u _ h => mkB63 (by omega)]
      exact ih n (k + 1) _ _ _ _ n1 _ (by omega) (by omega) (E4.day1 _) g2
theorem op_committee {F : Nat} (hFu : 300 ≤ F) (h : AG ppl psp psy psh kpl ksp ksy ksh bs bt sz nm fd ik psc pnc pdy pzz ksc knc kdy kzz ln nw kp fm tp wd mz mn mi td) (x1 : Int32) :
    ∃ r ppl' psy' psh' fd' pdy' pzz' nw' fm', fX4_committee F ppl psy psh fd psc pnc pdy pzz x1 = some (r, ppl', psy', psh', fd', pdy', pzz') ∧ fX5_committee F nw fm x1 = some (r, nw', fm') ∧ AG ppl' psp psy' psh' kpl ksp ksy ksh bs bt sz nm fd' ik psc pnc pdy' pzz' ksc knc kdy kzz ln nw' kp fm' tp wd mz mn mi td := by
  have h' := h
  obtain ⟨⟨ns, nv, d, rfl, rfl, rfl, hE, hR⟩, hK, hF, hT, hS⟩ := h
  obtain ⟨fm', q1, q2⟩ := hF.beyond
  obtain ⟨fm2, q3, q4⟩ := hF.state
  unfold fX4_committee fX5_committee
  rw [wi_eq, hR.1, q1, q3, oSome, oSome]
  by_cases c1 : fX4_within x1 1 20 = 0
  · rw [if_pos c1, if_pos c1]; exact ⟨_, _, _, _, _, _, _, _, _, rfl, rfl, h'.1, hK, q2, hT, hS⟩
  rw [if_neg c1, if_neg c1]
  by_cases c2 : nI d + x1 ≤ 99999
  · rw [if_pos c2, if_pos c2]
    have h2 : 1 ≤ x1 ∧ x1 ≤ 20 := Classical.byContradiction fun q => c1 (wi_iff.mpr q)
    obtain ⟨N, hN, rfl⟩ := nI_of2 (M := 20) (n := 20) (by decide) (Int32.not_lt.mpr (Int32.le_trans (by decide) h2.1)) h2.2
    obtain ⟨r, ppl', psy', psh', d', zz', nw', g1, g2, g3, g4⟩ := commL (fd := fd) (fm := fm) hFu hN N F 0 d ppl psy psh nw pzz (by omega) (by omega) hE hR
    exact ⟨r, ppl', psy', psh', fd, _, zz', nw', fm, g1, g2, ⟨ns, nv, d', rfl, rfl, rfl, g3, g4⟩, hK, hF, hT, hS⟩
  · rw [if_neg c2, if_neg c2]; exact ⟨_, _, _, _, _, _, _, _, _, rfl, rfl, h'.1, hK, q4, hT, hS⟩
end OP
