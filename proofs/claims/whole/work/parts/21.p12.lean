/-! PURE, twelfth part: finishFor, kindFor, eyesFor, speedFor -/
theorem bo0 {a b c e f g h i : Nat → Int32} {j k l m n o p q : Int32} : fX0_become_o0 a b c e f g h i j k l m n o p q = va_cpy f a 0 0 6 := rfl
theorem bo1 {a b c e f g h i : Nat → Int32} {j k l m n o p q : Int32} : fX0_become_o1 a b c e f g h i j k l m n o p q = va_cpy g b 0 0 10 := rfl
theorem bo2 {a b c e f g h i : Nat → Int32} {j k l m n o p q : Int32} : fX0_become_o2 a b c e f g h i j k l m n o p q = va_cpy h c 0 0 40 := rfl
theorem bo3 {a b c e f g h i : Nat → Int32} {j k l m n o p q : Int32} : fX0_become_o3 a b c e f g h i j k l m n o p q = va_cpy i e 0 0 24 := rfl
theorem bo4 {a b c e f g h i : Nat → Int32} {j k l m n o p q : Int32} : fX0_become_o4 a b c e f g h i j k l m n o p q = n := rfl
theorem bo5 {a b c e f g h i : Nat → Int32} {j k l m n o p q : Int32} : fX0_become_o5 a b c e f g h i j k l m n o p q = o := rfl
theorem bo6 {a b c e f g h i : Nat → Int32} {j k l m n o p q : Int32} : fX0_become_o6 a b c e f g h i j k l m n o p q = p := rfl
theorem bo7 {a b c e f g h i : Nat → Int32} {j k l m n o p q : Int32} : fX0_become_o7 a b c e f g h i j k l m n o p q = q := rfl
theorem wai_ex {sh : Nat → Int32} {nv : Nat} (h : ∀ v, v < nv → ShipOK sh v) : ∀ k, k ≤ nv → ∃ a, a ≤ 9999 * k ∧ waiS sh k = nI a
  | 0, _ => ⟨0, by omega, rfl⟩
  | k + 1, hk => by
    obtain ⟨a, h1, h2⟩ := wai_ex h k (by omega)
    obtain ⟨b, h3, h4⟩ := (h k (by omega)).2.2.2
    exact ⟨a + b, by omega, by rw [waiS, h2, h4, nI_add]⟩
theorem mWW {nwc ad pl sp sy sh : Nat → Int32} {ns nv d F N m : Nat} {zz v : Int32} (hF : 84 < F) (hN : N < F) (hN2 : N < 2 ^ 30) (hm : m < 84) (hE : EI pl sp sy sh ns nv d) (hR : RW (upd nwc m v) pl sp sy sh ns nv d zz) : ∃ nw' ad', fX5_waitedWith F nwc ad (nI m) v (nI N) = some (waiS (shN (fun _ => true) pl ns nv N d sy sh) nv, nw', ad') ∧ ∀ i, i < 84 → nw' i = upd nwc m v i := by
  obtain ⟨a1, b1, b2⟩ := mCopy hF (upd nwc m v) ad
  obtain ⟨n1, g1, g2⟩ := mGo (N := N) (F := F) (by omega) (by omega) (by omega) hE hR
  obtain ⟨n2, b3, b4⟩ := mBack hF n1 a1 (waiS (shN (fun _ => true) pl ns nv N d sy sh) nv)
  refine ⟨n2, a1, ?_, fun i hi => (b4 i hi).trans (b2 i hi)⟩
  unfold fX5_waitedWith fX5_waitedBehind
  rw [if_pos (in84 hm), nI_clamp (by omega), b1, oSome, g1, oSome, mWai g2.2.2.2.2.2.2.2 g2.2.2.2.1 hE.2.1 (by omega), oSome, b3, oSome, oSome]
theorem upd_off {f g : Nat → Int32} {m : Nat} {v : Int32} (h : ∀ j, j < 84 → j ≠ m → f j = g j) : ∀ j, j < 84 → upd f m v j = upd g m v j := by
  intro j hj
  by_cases e : j = m
  · subst e; rw [updS, updS]
  · rw [updN e, updN e]; exact h j hj e
theorem off_upd {f g : Nat → Int32} {m : Nat} {v : Int32} (h : ∀ j, j < 84 → f j = upd g m v j) {g2 : Nat → Int32} (h2 : ∀ j, j < 84 → j ≠ m → g j = g2 j) : ∀ j, j < 84 → j ≠ m → f j = g2 j := fun j hj e => (h j hj).trans ((updN e).trans (h2 j hj e))
theorem upd_self {f : Nat → Int32} {m : Nat} : ∀ j, upd f m (f m) j = f j := by
  intro j
  by_cases e : j = m
  · subst e; rw [updS]
  · rw [updN e]
theorem setPl {f : Nat → Int32} {i : Nat} {v : Int32} (hi : i < 6) : fX0_setPlace f (nI i) v = upd f i v := put_at hi (by decide)
theorem finL {ppl psp psy psh nw fd : Nat → Int32} {ns nv d F N i : Nat} {zz was : Int32} (hFu : 300 ≤ F) (hi : i < 6) (hN : N ≤ 40) (hE : EI ppl psp psy psh ns nv d) (hR : RW nw ppl psp psy psh ns nv d zz) : ∀ (c n m k : Nat) (best least : Int32) (tpl tsp tsy tsh : Nat → Int32) (tsc tnc tdy tzz : Int32) (nwc ad : Nat → Int32), k + c = 9 → c < n → c < m → (∀ j, j < 84 → j ≠ 4 + i → nwc j = nw j) →
    ∃ r tpl' tsp' tsy' tsh' tsc' tnc' tdy' tzz' nw' ad', fX4_finishFor_34 F ppl psp psy psh fd (nI ns) (nI nv) (nI d) zz (nI i) (nI N) n best least (nI k) tpl tsp tsy tsh tsc tnc tdy tzz = some (r, tpl', tsp', tsy', tsh', fd, tsc', tnc', tdy', tzz') ∧ fX5_leastFor_23 F (nI (4 + i)) 8 (nI N) was m best least (nI k) nwc ad = some (r, nw', ad') ∧ ∀ j, j < 84 → nw' j = upd nw (4 + i) was j := by
  intro c
  induction c with
  | zero =>
    intro n m k best least tpl tsp tsy tsh tsc tnc tdy tzz nwc ad h1 h2 h3 ho
    obtain ⟨n, rfl⟩ : ∃ q, n = q + 1 := ⟨n - 1, by omega⟩
    obtain ⟨m, rfl⟩ : ∃ q, m = q + 1 := ⟨m - 1, by omega⟩
    obtain rfl : k = 9 := by omega
    rw [fX4_finishFor_34, fX5_leastFor_23, if_pos (show (8 : Int32) < nI 9 by decide), if_pos (show (8 : Int32) < nI 9 by decide), if_pos (in84 (by omega)), nI_clamp (by omega)]
    exact ⟨_, _, _, _, _, _, _, _, _, _, _, rfl, rfl, upd_off ho⟩
  | succ c ih =>
    intro n m k best least tpl tsp tsy tsh tsc tnc tdy tzz nwc ad h1 h2 h3 ho
    obtain ⟨n, rfl⟩ : ∃ q, n = q + 1 := ⟨n - 1, by omega⟩
    obtain ⟨m, rfl⟩ : ∃ q, m = q + 1 := ⟨m - 1, by omega⟩
    have hE2 := (hE.tr (tl := tpl) (tp := tsp) (ty := tsy) (th := tsh)).set (i := i) (k := k) (by omega)
    have hR2 := ((hR.tr (tl := tpl) (tp := tsp) (ty := tsy) (th := tsh)).set (i := i) (v := nI k) hi).row (upd_off (v := nI k) ho)
    obtain ⟨n1, a1, w1, w2⟩ := mWW (ad := ad) (F := F) (N := N) (by omega) (by omega) (by omega) (by omega) hE2 hR2
    rw [fX4_finishFor_34, fX5_leastFor_23, if_neg (show ¬ (8 : Int32) < nI k from nI_nlt (b := k) (a := 8) (by omega) (by omega)), if_neg (show ¬ (8 : Int32) < nI k from nI_nlt (b := k) (a := 8) (by omega) (by omega)), w1, oSome]
    simp only [bo0, bo1, bo2, bo3, bo4, bo5, bo6, bo7]
    rw [setPl hi, cPassE hE.1 hE.2.1 (by omega) hE2.2.2.2.1 (by omega) (by omega) 63 hE.2.2.1, oSome]
    dsimp only
    rw [shN63 hE.2.1, cWai hE.2.1 (by omega), oSome, nI_1]
    by_cases hc : least ≤ waiS (shN (fun _ => true) (upd (va_cpy ppl tpl 0 0 6) i (nI k)) ns nv N d (va_cpy psy tsy 0 0 40) (va_cpy psh tsh 0 0 24)) nv
    · rw [if_pos hc, if_pos hc]
      exact ih n m (k + 1) _ _ _ _ _ _ _ _ _ _ n1 a1 (by omega) (by omega) (by omega) (off_upd w2 ho)
    · rw [if_neg hc, if_neg hc]
      exact ih n m (k + 1) _ _ _ _ _ _ _ _ _ _ n1 a1 (by omega) (by omega) (by omega) (off_upd w2 ho)
theorem kinL {ppl psp psy psh nw fd : Nat → Int32} {ns nv d F N i : Nat} {zz was : Int32} (hFu : 300 ≤ F) (hi : i < 8) (hN : N ≤ 40) (hE : EI ppl psp psy psh ns nv d) (hR : RW nw ppl psp psy psh ns nv d zz) : ∀ (c n m k : Nat) (best least : Int32) (tpl tsp tsy tsh : Nat → Int32) (tsc tnc tdy tzz : Int32) (nwc ad : Nat → Int32), k + c = 7 → c < n → c < m → (∀ j, j < 84 → j ≠ 20 + 5 * i → nwc j = nw j) →
    ∃ r tpl' tsp' tsy' tsh' tsc' tnc' tdy' tzz' nw' ad', fX4_kindFor_37 F ppl psp psy psh fd (nI ns) (nI nv) (nI d) zz (nI i) (nI N) n best least (nI k) tpl tsp tsy tsh tsc tnc tdy tzz = some (r, tpl', tsp', tsy', tsh', fd, tsc', tnc', tdy', tzz') ∧ fX5_leastFor_23 F (nI (20 + 5 * i)) 6 (nI N) was m best least (nI k) nwc ad = some (r, nw', ad') ∧ ∀ j, j < 84 → nw' j = upd nw (20 + 5 * i) was j := by
  intro c
  induction c with
  | zero =>
    intro n m k best least tpl tsp tsy tsh tsc tnc tdy tzz nwc ad h1 h2 h3 ho
    obtain ⟨n, rfl⟩ : ∃ q, n = q + 1 := ⟨n - 1, by omega⟩
    obtain ⟨m, rfl⟩ : ∃ q, m = q + 1 := ⟨m - 1, by omega⟩
    obtain rfl : k = 7 := by omega
    rw [fX4_kindFor_37, fX5_leastFor_23, if_pos (show (7 : Int32) ≤ nI 7 by decide), if_pos (show (6 : Int32) < nI 7 by decide), if_pos (in84 (by omega)), nI_clamp (by omega)]
    exact ⟨_, _, _, _, _, _, _, _, _, _, _, rfl, rfl, upd_off ho⟩
  | succ c ih =>
    intro n m k best least tpl tsp tsy tsh tsc tnc tdy tzz nwc ad h1 h2 h3 ho
    obtain ⟨n, rfl⟩ : ∃ q, n = q + 1 := ⟨n - 1, by omega⟩
    obtain ⟨m, rfl⟩ : ∃ q, m = q + 1 := ⟨m - 1, by omega⟩
    have hE2 : EI (va_cpy ppl tpl 0 0 6) (va_cpy psp tsp 0 0 10) (upd (va_cpy psy tsy 0 0 40) (5 * i) (nI k)) (va_cpy psh tsh 0 0 24) ns nv d := (hE.tr (tl := tpl) (tp := tsp) (ty := tsy) (th := tsh)).setS (j := i) (f := 0) (v := nI k) (by omega) ⟨k, by show k ≤ 6; omega, rfl⟩
    have hR2 := ((hR.tr (tl := tpl) (tp := tsp) (ty := tsy) (th := tsh)).setS (j := 5 * i) (v := nI k) (by omega)).row (upd_off (v := nI k) ho)
    obtain ⟨n1, a1, w1, w2⟩ := mWW (ad := ad) (F := F) (N := N) (by omega) (by omega) (by omega) (by omega) hE2 hR2
    rw [fX4_kindFor_37, fX5_leastFor_23, if_neg (show ¬ (7 : Int32) ≤ nI k from nI_ge (b := 7) (by omega) (by omega)), if_neg (show ¬ (6 : Int32) < nI k from nI_nlt (b := k) (a := 6) (by omega) (by omega)), w1, oSome]
    simp only [bo0, bo1, bo2, bo3, bo4, bo5, bo6, bo7]
    rw [sPut0 hi, cPassE hE.1 hE.2.1 (by omega) hE2.2.2.2.1 (by omega) (by omega) 63 hE.2.2.1, oSome]
    dsimp only
    rw [shN63 hE.2.1, cWai hE.2.1 (by omega), oSome, nI_1]
    by_cases hc : least ≤ waiS (shN (fun _ => true) (va_cpy ppl tpl 0 0 6) ns nv N d (upd (va_cpy psy tsy 0 0 40) (5 * i) (nI k)) (va_cpy psh tsh 0 0 24)) nv
    · rw [if_pos hc, if_pos hc]
      exact ih n m (k + 1) _ _ _ _ _ _ _ _ _ _ n1 a1 (by omega) (by omega) (by omega) (off_upd w2 ho)
    · rw [if_neg hc, if_neg hc]
      exact ih n m (k + 1) _ _ _ _ _ _ _ _ _ _ n1 a1 (by omega) (by omega) (by omega) (off_upd w2 ho)
theorem lanL {ppl psp psy psh nw fd fm : Nat → Int32} {ns nv d F N u f lo hi : Nat} {zz was : Int32} (hFu : 300 ≤ F) (hu : u < nv) (hN : N ≤ 40) (hhi : hi ≤ 99) (hf : f < 4) (hv : ∀ k, lo ≤ k → k ≤ hi → hOK f (nI k)) (hE : EI ppl psp psy psh ns nv d) (hR : RW nw ppl psp psy psh ns nv d zz) (hFD : FD fd fm) : ∀ (c n m k : Nat) (tpl tsp tsy tsh : Nat → Int32) (tsc tnc tdy tzz : Int32) (nwc ad : Nat → Int32), lo ≤ k → k + c = hi + 1 → c < n → c < m → (∀ j, j < 84 → j ≠ 60 + (4 * u + f) → nwc j = nw j) →
    ∃ r r2 tpl' tsp' tsy' tsh' fd' tsc' tnc' tdy' tzz' nw' ad' fm', fX4_leastToLand_46 F ppl psp psy psh (nI ns) (nI nv) (nI d) zz (nI u) (nI N) (nI f) (nI hi) n (nI k) tpl tsp tsy tsh fd tsc tnc tdy tzz = some (r, tpl', tsp', tsy', tsh', fd', tsc', tnc', tdy', tzz') ∧ fX5_landsWith_22 F (nI u) (nI hi) (nI N) (nI (60 + (4 * u + f))) was m (-1) (nI k) nwc ad = some (r2, nw', ad') ∧ fX5_orNone fm r2 = some (r, fm') ∧ FD fd' fm' ∧ ∀ j, j < 84 → nw' j = upd nw (60 + (4 * u + f)) was j := by
  intro c
  have hnv := hE.2.1
  induction c with
  | zero =>
    intro n m k tpl tsp tsy tsh tsc tnc tdy tzz nwc ad h0 h1 h2 h3 ho
    obtain ⟨n, rfl⟩ : ∃ q, n = q + 1 := ⟨n - 1, by omega⟩
    obtain ⟨m, rfl⟩ : ∃ q, m = q + 1 := ⟨m - 1, by omega⟩
    obtain ⟨fm', q1, q2⟩ := mNone hFD
    rw [fX4_leastToLand_46, fX5_landsWith_22, if_pos (show nI hi < nI k from nI_lt (by omega) (by omega)), if_pos (show nI hi < nI k from nI_lt (by omega) (by omega)), if_pos (in84 (by omega)), nI_clamp (by omega)]
    exact ⟨_, _, _, _, _, _, _, _, _, _, _, _, _, _, rfl, rfl, q1, q2, upd_off ho⟩
  | succ c ih =>
    intro n m k tpl tsp tsy tsh tsc tnc tdy tzz nwc ad h0 h1 h2 h3 ho
    obtain ⟨n, rfl⟩ : ∃ q, n = q + 1 := ⟨n - 1, by omega⟩
    obtain ⟨m, rfl⟩ : ∃ q, m = q + 1 := ⟨m - 1, by omega⟩
    have hE2 := (hE.tr (tl := tpl) (tp := tsp) (ty := tsy) (th := tsh)).setH (j := u) (f := f) (v := nI k) hf (hv k h0 (by omega))
    have hR2 := ((hR.tr (tl := tpl) (tp := tsp) (ty := tsy) (th := tsh)).setH (j := 4 * u + f) (v := nI k)).row (upd_off (v := nI k) ho)
    obtain ⟨n1, a1, w1, w2⟩ := mBeh (ad := ad) (F := F) (N := N) (m := 4 * u) hE2 hR2 (by omega) (by omega) (by omega) (by omega)
    rw [fX4_leastToLand_46, fX5_landsWith_22, if_neg (show ¬ nI hi < nI k from nI_nlt (by omega) (by omega)), if_neg (show ¬ nI hi < nI k from nI_nlt (by omega) (by omega)), if_neg (show ¬ (0 : Int32) ≤ -1 by decide), if_pos (in84 (by omega)), nI_clamp (by omega), show fX5_shipAt (nI u) 0 = nI (60 + 4 * u) from at4 u 0, w1, oSome]
    simp only [bo0, bo1, bo2, bo3, bo4, bo5, bo6, bo7]
    rw [hPut (by omega) hf, cPassE hE.1 hE.2.1 (by omega) hE2.2.2.2.1 (by omega) (by omega) _ hE.2.2.1, oSome]
    dsimp only
    have el := shN_at (mk' := fun _ => true) (pl := va_cpy ppl tpl 0 0 6) (ns := ns) (nv := nv) (mkB1 (u := u) (by omega)) rfl N d (va_cpy psy tsy 0 0 40) (upd (va_cpy psh tsh 0 0 24) (4 * u + f) (nI k)) (upd (va_cpy psh tsh 0 0 24) (4 * u + f) (nI k)) (fun _ _ => rfl)
    rw [cInP (by omega), inP_loc el, nI_1]
    by_cases hc : shN (fun _ => true) (va_cpy ppl tpl 0 0 6) ns nv N d (va_cpy psy tsy 0 0 40) (upd (va_cpy psh tsh 0 0 24) (4 * u + f) (nI k)) (4 * u) = 15
    · have hp : inP (shN (fun _ => true) (va_cpy ppl tpl 0 0 6) ns nv N d (va_cpy psy tsy 0 0 40) (upd (va_cpy psh tsh 0 0 24) (4 * u + f) (nI k))) u = true := decide_eq_true hc
      obtain ⟨m, rfl⟩ : ∃ q, m = q + 1 := ⟨m - 1, by omega⟩
      rw [if_pos hc, if_pos hp, if_neg (by decide), fX5_landsWith_22]
      by_cases hh : nI hi < nI (k + 1)
      · rw [if_pos hh, if_pos (in84 (by omega)), nI_clamp (by omega)]
        exact ⟨_, _, _, _, _, _, _, _, _, _, _, _, _, _, rfl, rfl, mSome (by omega), hFD, upd_off (off_upd w2 ho)⟩
      · rw [if_neg hh, if_pos (nI_pos' (by omega)), if_pos (in84 (by omega)), nI_clamp (by omega)]
        exact ⟨_, _, _, _, _, _, _, _, _, _, _, _, _, _, rfl, rfl, mSome (by omega), hFD, upd_off (off_upd w2 ho)⟩
    · have hp : ¬ inP (shN (fun _ => true) (va_cpy ppl tpl 0 0 6) ns nv N d (va_cpy psy tsy 0 0 40) (upd (va_cpy psh tsh 0 0 24) (4 * u + f) (nI k))) u = true := fun q => hc (of_decide_eq_true q)
      rw [if_neg hc, if_neg hp, if_pos rfl]
      exact ih n m (k + 1) _ _ _ _ _ _ _ _ n1 a1 (by omega) (by omega) (by omega) (by omega) (off_upd w2 ho)
section OP
variable {ppl psp psy psh kpl ksp ksy ksh bs bt sz nm fd : Nat → Int32} {ik psc pnc pdy pzz ksc knc kdy kzz ln : Int32} {nw kp fm tp wd mz mn : Nat → Int32} {mi td : Int32}
theorem op_finishFor {F : Nat} (hFu : 300 ≤ F) (h : AG ppl psp psy psh kpl ksp ksy ksh bs bt sz nm fd ik psc pnc pdy pzz ksc knc kdy kzz ln nw kp fm tp wd mz mn mi td) (tpl tsp tsy tsh ad : Nat → Int32) (tsc tnc tdy tzz : Int32) (x1 x2 : Int32) :
    ∃ r tpl' tsp' tsy' tsh' fd' tsc' tnc' tdy' tzz' nw' ad' fm', fX4_finishFor F ppl psp psy psh tpl tsp tsy tsh fd psc pnc pdy pzz tsc tnc tdy tzz x1 x2 = some (r, tpl', tsp', tsy', tsh', fd', tsc', tnc', tdy', tzz') ∧ fX5_finishFor F nw ad fm x1 x2 = some (r, nw', ad', fm') ∧ AG ppl psp psy psh kpl ksp ksy ksh bs bt sz nm fd' ik psc pnc pdy pzz ksc knc kdy kzz ln nw' kp fm' tp wd mz mn mi td := by
  have h' := h
  obtain ⟨⟨ns, nv, d, rfl, rfl, rfl, hE, hR⟩, hK, hF, hT, hS⟩ := h
  obtain ⟨fm', q1, q2⟩ := hF.beyond
  unfold fX4_finishFor fX5_finishFor
  rw [show fX5_isPlace x1 = fX4_isPlace x1 from rfl, show fX5_isThought x2 = fX4_within x2 0 40 from rfl, q1, oSome]
  by_cases c1 : fX4_isPlace x1 = 0
  · rw [if_pos c1, if_pos c1]; exact ⟨_, _, _, _, _, _, _, _, _, _, _, _, _, rfl, rfl, h'.1, hK, q2, hT, hS⟩
  rw [if_neg c1, if_neg c1]
  by_cases c3 : fX4_within x2 0 40 = 0
  · rw [if_pos c3, if_pos c3]; exact ⟨_, _, _, _, _, _, _, _, _, _, _, _, _, rfl, rfl, h'.1, hK, q2, hT, hS⟩
  rw [if_neg c3, if_neg c3]
  obtain ⟨i, hi, rfl⟩ := wi_ex (n := 5) rfl (by decide) c1
  obtain ⟨N, hN, rfl⟩ := wi_ex (n := 40) rfl (by decide) c3
  rw [show (4 : Int32) + nI i = nI (4 + i) from nI_add 4 i]
  obtain ⟨F1, hF1⟩ : ∃ q, F = q + 1 := ⟨F - 1, by omega⟩
  have hi6 : i < 6 := by omega
  have hE2 := (hE.tr (tl := tpl) (tp := tsp) (ty := tsy) (th := tsh)).set (i := i) (k := 0) (by omega)
  have hR2 := (hR.tr (tl := tpl) (tp := tsp) (ty := tsy) (th := tsh)).set (i := i) (v := nI 0) hi6
  obtain ⟨n1, a1, w1, w2⟩ := mWW (ad := ad) (F := F) (N := N) (by omega) (by omega) (by omega) (by omega) hE2 hR2
  have w3 : fX5_waitedWith F nw ad (nI (4 + i)) 0 (nI N) = _ := w1
  obtain ⟨w, hw, ew⟩ := wai_ex (hE2.days (fun _ => true) N).2.2.2.2.2.2 nv (Nat.le_refl _)
  have hnv := hE.2.1
  obtain ⟨r, tpl', tsp', tsy', tsh', tsc', tnc', tdy', tzz', nw', ad', g1, g2, g3⟩ := finL (fd := fd) (was := nw (4 + i)) hFu hi6 hN hE hR 8 F1 F 1 0 (nI w) (upd (va_cpy ppl tpl 0 0 6) i (nI 0)) (va_cpy psp tsp 0 0 10) (syN (upd (va_cpy ppl tpl 0 0 6) i (nI 0)) ns N d (va_cpy psy tsy 0 0 40)) (shN (fun _ => true) (upd (va_cpy ppl tpl 0 0 6) i (nI 0)) ns nv N d (va_cpy psy tsy 0 0 40) (va_cpy psh tsh 0 0 24)) (nI ns) (nI nv) (nI (min (d + N) 99999)) pzz n1 a1 (by omega) (by omega) (by omega) (off_upd w2 fun _ _ _ => rfl)
  have k1 : fX5_leastFor F nw ad (nI (4 + i)) 8 (nI N) = some (r, nw', ad') := by
    unfold fX5_leastFor
    rw [if_pos (in84 (by omega)), nI_clamp (by omega), w3, oSome, ew]
    exact g2
  have k2 : fX4_finishFor_34 F ppl psp psy psh fd (nI ns) (nI nv) (nI d) pzz (nI i) (nI N) F 8 59995 0 tpl tsp tsy tsh tsc tnc tdy tzz = some (r, tpl', tsp', tsy', tsh', fd, tsc', tnc', tdy', tzz') := by
    rw [show fX4_finishFor_34 F ppl psp psy psh fd (nI ns) (nI nv) (nI d) pzz (nI i) (nI N) F 8 59995 0 tpl tsp tsy tsh tsc tnc tdy tzz = fX4_finishFor_34 F ppl psp psy psh fd (nI ns) (nI nv) (nI d) pzz (nI i) (nI N) (F1 + 1) 8 59995 (nI 0) tpl tsp tsy tsh tsc tnc tdy tzz from by rw [← hF1]; rfl, fX4_finishFor_34, if_neg (show ¬ (8 : Int32) < nI 0 by decide)]
    simp only [bo0, bo1, bo2, bo3, bo4, bo5, bo6, bo7]
    rw [setPl hi6, cPassE hE.1 hE.2.1 (by omega) hE2.2.2.2.1 (by omega) (by omega) 63 hE.2.2.1, oSome]
    dsimp only
    rw [shN63 hE.2.1, cWai hE.2.1 (by omega), oSome, ew, if_neg (show ¬ (59995 : Int32) ≤ nI w from nI_ge (b := 59995) (by omega) (by omega))]
    exact g1
  rw [k1, oSome, k2]
  exact ⟨_, _, _, _, _, _, _, _, _, _, _, _, _, rfl, rfl, ⟨ns, nv, d, rfl, rfl, rfl, hE, hR.row fun j hj => (g3 j hj).trans (upd_self j)⟩, hK, hF, hT, hS⟩
theorem op_kindFor {F : Nat} (hFu : 300 ≤ F) (h : AG ppl psp psy psh kpl ksp ksy ksh bs bt sz nm fd ik psc pnc pdy pzz ksc knc kdy kzz ln nw kp fm tp wd mz mn mi td) (tpl tsp tsy tsh ad : Nat → Int32) (tsc tnc tdy tzz : Int32) (x1 x2 : Int32) :
    ∃ r tpl' tsp' tsy' tsh' fd' tsc' tnc' tdy' tzz' nw' ad' fm', fX4_kindFor F ppl psp psy psh tpl tsp tsy tsh fd psc pnc pdy pzz tsc tnc tdy tzz x1 x2 = some (r, tpl', tsp', tsy', tsh', fd', tsc', tnc', tdy', tzz') ∧ fX5_kindFor F nw ad fm x1 x2 = some (r, nw', ad', fm') ∧ AG ppl psp psy psh kpl ksp ksy ksh bs bt sz nm fd' ik psc pnc pdy pzz ksc knc kdy kzz ln nw' kp fm' tp wd mz mn mi td := by
  have h' := h
  obtain ⟨⟨ns, nv, d, rfl, rfl, rfl, hE, hR⟩, hK, hF, hT, hS⟩ := h
  obtain ⟨fm', q1, q2⟩ := hF.beyond
  have hns := hE.1
  unfold fX4_kindFor fX5_kindFor
  rw [m_isSay hR.2.1, show fX5_isThought x2 = fX4_within x2 0 40 from rfl, q1, oSome]
  by_cases c1 : fX0_hasSaying (nI ns) x1 = 0
  · rw [if_pos c1, if_pos c1]; exact ⟨_, _, _, _, _, _, _, _, _, _, _, _, _, rfl, rfl, h'.1, hK, q2, hT, hS⟩
  rw [if_neg c1, if_neg c1]
  by_cases c3 : fX4_within x2 0 40 = 0
  · rw [if_pos c3, if_pos c3]; exact ⟨_, _, _, _, _, _, _, _, _, _, _, _, _, rfl, rfl, h'.1, hK, q2, hT, hS⟩
  rw [if_neg c3, if_neg c3]
  obtain ⟨i, hi, rfl⟩ := hs_ex hns c1
  obtain ⟨N, hN, rfl⟩ := wi_ex (n := 40) rfl (by decide) c3
  rw [show fX5_sayingAt (nI i) 0 = nI (20 + 5 * i) from at5 i 0]
  obtain ⟨F1, hF1⟩ : ∃ q, F = q + 1 := ⟨F - 1, by omega⟩
  have hi8 : i < 8 := by omega
  have hE2 : EI (va_cpy ppl tpl 0 0 6) (va_cpy psp tsp 0 0 10) (upd (va_cpy psy tsy 0 0 40) (5 * i) (nI 0)) (va_cpy psh tsh 0 0 24) ns nv d := (hE.tr (tl := tpl) (tp := tsp) (ty := tsy) (th := tsh)).setS (j := i) (f := 0) (v := nI 0) (by omega) ⟨0, by omega, rfl⟩
  have hR2 := (hR.tr (tl := tpl) (tp := tsp) (ty := tsy) (th := tsh)).setS (j := 5 * i) (v := nI 0) (by omega)
  obtain ⟨n1, a1, w1, w2⟩ := mWW (ad := ad) (F := F) (N := N) (by omega) (by omega) (by omega) (by omega) hE2 hR2
  have w3 : fX5_waitedWith F nw ad (nI (20 + 5 * i)) 0 (nI N) = _ := w1
  obtain ⟨w, hw, ew⟩ := wai_ex (hE2.days (fun _ => true) N).2.2.2.2.2.2 nv (Nat.le_refl _)
  have hnv := hE.2.1
  obtain ⟨r, tpl', tsp', tsy', tsh', tsc', tnc', tdy', tzz', nw', ad', g1, g2, g3⟩ := kinL (fd := fd) (was := nw (20 + 5 * i)) hFu hi8 hN hE hR 6 F1 F 1 0 (nI w) (va_cpy ppl tpl 0 0 6) (va_cpy psp tsp 0 0 10) (syN (va_cpy ppl tpl 0 0 6) ns N d (upd (va_cpy psy tsy 0 0 40) (5 * i) (nI 0))) (shN (fun _ => true) (va_cpy ppl tpl 0 0 6) ns nv N d (upd (va_cpy psy tsy 0 0 40) (5 * i) (nI 0)) (va_cpy psh tsh 0 0 24)) (nI ns) (nI nv) (nI (min (d + N) 99999)) pzz n1 a1 (by omega) (by omega) (by omega) (off_upd w2 fun _ _ _ => rfl)
  have k1 : fX5_leastFor F nw ad (nI (20 + 5 * i)) 6 (nI N) = some (r, nw', ad') := by
    unfold fX5_leastFor
    rw [if_pos (in84 (by omega)), nI_clamp (by omega), w3, oSome, ew]
    exact g2
  have k2 : fX4_kindFor_37 F ppl psp psy psh fd (nI ns) (nI nv) (nI d) pzz (nI i) (nI N) F 0 59995 0 tpl tsp tsy tsh tsc tnc tdy tzz = some (r, tpl', tsp', tsy', tsh', fd, tsc', tnc', tdy', tzz') := by
    rw [show fX4_kindFor_37 F ppl psp psy psh fd (nI ns) (nI nv) (nI d) pzz (nI i) (nI N) F 0 59995 0 tpl tsp tsy tsh tsc tnc tdy tzz = fX4_kindFor_37 F ppl psp psy psh fd (nI ns) (nI nv) (nI d) pzz (nI i) (nI N) (F1 + 1) 0 59995 (nI 0) tpl tsp tsy tsh tsc tnc tdy tzz from by rw [← hF1]; rfl, fX4_kindFor_37, if_neg (show ¬ (7 : Int32) ≤ nI 0 by decide)]
    simp only [bo0, bo1, bo2, bo3, bo4, bo5, bo6, bo7]
    rw [sPut0 hi8, cPassE hE.1 hE.2.1 (by omega) hE2.2.2.2.1 (by omega) (by omega) 63 hE.2.2.1, oSome]
    dsimp only
    rw [shN63 hE.2.1, cWai hE.2.1 (by omega), oSome, ew, if_neg (show ¬ (59995 : Int32) ≤ nI w from nI_ge (b := 59995) (by omega) (by omega))]
    exact g1
  rw [k1, oSome, k2]
  exact ⟨_, _, _, _, _, _, _, _, _, _, _, _, _, rfl, rfl, ⟨ns, nv, d, rfl, rfl, rfl, hE, hR.row fun j hj => (g3 j hj).trans (upd_self j)⟩, hK, hF, hT, hS⟩
theorem op_eyesFor {F : Nat} (hFu : 300 ≤ F) (h : AG ppl psp psy psh kpl ksp ksy ksh bs bt sz nm fd ik psc pnc pdy pzz ksc knc kdy kzz ln nw kp fm tp wd mz mn mi td) (tpl tsp tsy tsh ad : Nat → Int32) (tsc tnc tdy tzz : Int32) (x1 x2 : Int32) :
    ∃ r tpl' tsp' tsy' tsh' fd' tsc' tnc' tdy' tzz' nw' ad' fm', fX4_eyesFor F ppl psp psy psh tpl tsp tsy tsh fd psc pnc pdy pzz tsc tnc tdy tzz x1 x2 = some (r, tpl', tsp', tsy', tsh', fd', tsc', tnc', tdy', tzz') ∧ fX5_eyesFor F nw ad fm x1 x2 = some (r, nw', ad', fm') ∧ AG ppl psp psy psh kpl ksp ksy ksh bs bt sz nm fd' ik psc pnc pdy pzz ksc knc kdy kzz ln nw' kp fm' tp wd mz mn mi td := by
  have h' := h
  obtain ⟨⟨ns, nv, d, rfl, rfl, rfl, hE, hR⟩, hK, hF, hT, hS⟩ := h
  obtain ⟨fm', q1, q2⟩ := hF.beyond
  have hnv := hE.2.1
  unfold fX4_eyesFor fX5_eyesFor fX4_leastToLand
  rw [m_isShip hR.2.2.2.1, hv_eq, show fX5_isThought x2 = fX4_within x2 0 40 from rfl, q1, oSome]
  by_cases c1 : fX0_hasSaying (nI nv) x1 = 0
  · rw [if_pos c1, if_pos c1, oSome]; exact ⟨_, _, _, _, _, _, _, _, _, _, _, _, _, rfl, rfl, h'.1, hK, q2, hT, hS⟩
  rw [if_neg c1, if_neg c1]
  by_cases c3 : fX4_within x2 0 40 = 0
  · rw [if_pos c3, if_pos c3, oSome]; exact ⟨_, _, _, _, _, _, _, _, _, _, _, _, _, rfl, rfl, h'.1, hK, q2, hT, hS⟩
  rw [if_neg c3, if_neg c3]
  obtain ⟨u, hu, rfl⟩ := hs_ex (by omega) c1
  obtain ⟨N, hN, rfl⟩ := wi_ex (n := 40) rfl (by decide) c3
  have at1 : fX5_shipAt (nI u) 1 = nI (60 + (4 * u + 1)) := (at4 u 1).trans (congrArg nI (Nat.add_assoc 60 (4 * u) 1))
  obtain ⟨r, r2, tpl', tsp', tsy', tsh', fd', tsc', tnc', tdy', tzz', nw', ad', fm2, g1, g2, g3, g4, g5⟩ := lanL (f := 1) (lo := 0) (hi := 99) (was := nw (60 + (4 * u + 1))) hFu hu hN (by omega) (by omega) (fun k _ hk => ⟨k, hk, rfl⟩) hE hR hF 100 F F 0 tpl tsp tsy tsh tsc tnc tdy tzz nw ad (by omega) (by omega) (by omega) (by omega) (fun _ _ _ => rfl)
  have k1 : fX5_landsWith F nw ad (nI u) 1 0 99 (nI N) = some (r2, nw', ad') := by
    unfold fX5_landsWith
    rw [at1, if_pos (in84 (by omega)), nI_clamp (by omega)]
    exact g2
  have k2 : fX4_leastToLand_46 F ppl psp psy psh (nI ns) (nI nv) (nI d) pzz (nI u) (nI N) 1 (fX4_numberAt 4 stM 1) F (fX4_numberAt 4 stL 1) tpl tsp tsy tsh fd tsc tnc tdy tzz = some (r, tpl', tsp', tsy', tsh', fd', tsc', tnc', tdy', tzz') := g1
  rw [k1, oSome, g3, oSome, k2, oSome]
  exact ⟨_, _, _, _, _, _, _, _, _, _, _, _, _, rfl, rfl, ⟨ns, nv, d, rfl, rfl, rfl, hE, hR.row fun j hj => (g5 j hj).trans (upd_self j)⟩, hK, g4, hT, hS⟩
theorem op_speedFor {F : Nat} (hFu : 300 ≤ F) (h : AG ppl psp psy psh kpl ksp ksy ksh bs bt sz nm fd ik psc pnc pdy pzz ksc knc kdy kzz ln nw kp fm tp wd mz mn mi td) (tpl tsp tsy tsh ad : Nat → Int32) (tsc tnc tdy tzz : Int32) (x1 x2 : Int32) :
    ∃ r tpl' tsp' tsy' tsh' fd' tsc' tnc' tdy' tzz' nw' ad' fm', fX4_speedFor F ppl psp psy psh tpl tsp tsy tsh fd psc pnc pdy pzz tsc tnc tdy tzz x1 x2 = some (r, tpl', tsp', tsy', tsh', fd', tsc', tnc', tdy', tzz') ∧ fX5_speedFor F nw ad fm x1 x2 = some (r, nw', ad', fm') ∧ AG ppl psp psy psh kpl ksp ksy ksh bs bt sz nm fd' ik psc pnc pdy pzz ksc knc kdy kzz ln nw' kp fm' tp wd mz mn mi td := by
  have h' := h
  obtain ⟨⟨ns, nv, d, rfl, rfl, rfl, hE, hR⟩, hK, hF, hT, hS⟩ := h
  obtain ⟨fm', q1, q2⟩ := hF.beyond
  have hnv := hE.2.1
  unfold fX4_speedFor fX5_speedFor fX4_leastToLand
  rw [m_isShip hR.2.2.2.1, hv_eq, show fX5_isThought x2 = fX4_within x2 0 40 from rfl, q1, oSome]
  by_cases c1 : fX0_hasSaying (nI nv) x1 = 0
  · rw [if_pos c1, if_pos c1, oSome]; exact ⟨_, _, _, _, _, _, _, _, _, _, _, _, _, rfl, rfl, h'.1, hK, q2, hT, hS⟩
  rw [if_neg c1, if_neg c1]
  by_cases c3 : fX4_within x2 0 40 = 0
  · rw [if_pos c3, if_pos c3, oSome]; exact ⟨_, _, _, _, _, _, _, _, _, _, _, _, _, rfl, rfl, h'.1, hK, q2, hT, hS⟩
  rw [if_neg c3, if_neg c3]
  obtain ⟨u, hu, rfl⟩ := hs_ex (by omega) c1
  obtain ⟨N, hN, rfl⟩ := wi_ex (n := 40) rfl (by decide) c3
  have at1 : fX5_shipAt (nI u) 2 = nI (60 + (4 * u + 2)) := (at4 u 2).trans (congrArg nI (Nat.add_assoc 60 (4 * u) 2))
  obtain ⟨r, r2, tpl', tsp', tsy', tsh', fd', tsc', tnc', tdy', tzz', nw', ad', fm2, g1, g2, g3, g4, g5⟩ := lanL (f := 2) (lo := 1) (hi := 5) (was := nw (60 + (4 * u + 2))) hFu hu hN (by omega) (by omega) (fun k h1 hk => ⟨k, h1, hk, rfl⟩) hE hR hF 5 F F 1 tpl tsp tsy tsh tsc tnc tdy tzz nw ad (by omega) (by omega) (by omega) (by omega) (fun _ _ _ => rfl)
  have k1 : fX5_landsWith F nw ad (nI u) 2 1 5 (nI N) = some (r2, nw', ad') := by
    unfold fX5_landsWith
    rw [at1, if_pos (in84 (by omega)), nI_clamp (by omega)]
    exact g2
  have k2 : fX4_leastToLand_46 F ppl psp psy psh (nI ns) (nI nv) (nI d) pzz (nI u) (nI N) 2 (fX4_numberAt 4 stM 2) F (fX4_numberAt 4 stL 2) tpl tsp tsy tsh fd tsc tnc tdy tzz = some (r, tpl', tsp', tsy', tsh', fd', tsc', tnc', tdy', tzz') := g1
  rw [k1, oSome, g3, oSome, k2, oSome]
  exact ⟨_, _, _, _, _, _, _, _, _, _, _, _, _, rfl, rfl, ⟨ns, nv, d, rfl, rfl, rfl, hE, hR.row fun j hj => (g5 j hj).trans (upd_self j)⟩, hK, g4, hT, hS⟩
end OP
