/-! PURE, fifteenth part: odds, fits, kinds -/
def goodN (sy sh : Nat → Int32) (ns u : Nat) : Nat → Nat
  | 0 => 0
  | c + 1 => if gOn sy sh ns u (nI c) = true then goodN sy sh ns u c + 1 else goodN sy sh ns u c
theorem goodN_le (sy sh : Nat → Int32) (ns u : Nat) : ∀ c, goodN sy sh ns u c ≤ c
  | 0 => Nat.le_refl _
  | c + 1 => by
    have := goodN_le sy sh ns u c
    rw [goodN]
    split <;> omega
theorem goodN_16 (sy sh : Nat → Int32) (ns u : Nat) : goodN sy sh ns u 16 < 16 := by
  have := goodN_le sy sh ns u 15
  rw [goodN, if_neg (by unfold gOn; rw [decide_eq_true (show nI 15 = 15 from rfl)]; exact Bool.false_ne_true)]
  omega
theorem cCellL {sy sh : Nat → Int32} {ns u F : Nat} (hns : ns ≤ 8) (hu : u < 6) (hF : 8 < F) : ∀ (c n k : Nat), k + c = 16 → c < n → fX0_cellsWhereGoesOn_4 F sy sh (nI ns) (nI u) n (nI (goodN sy sh ns u k)) (nI k) = some (nI (goodN sy sh ns u 16)) := by
  intro c
  induction c with
  | zero =>
    intro n k h1 h2
    obtain ⟨n, rfl⟩ : ∃ q, n = q + 1 := ⟨n - 1, by omega⟩
    obtain rfl : k = 16 := by omega
    rw [fX0_cellsWhereGoesOn_4, if_pos (show (16 : Int32) ≤ nI 16 by decide)]
  | succ c ih =>
    intro n k h1 h2
    obtain ⟨n, rfl⟩ : ∃ q, n = q + 1 := ⟨n - 1, by omega⟩
    rw [fX0_cellsWhereGoesOn_4, if_neg (show ¬ (16 : Int32) ≤ nI k from nI_ge (b := 16) (by omega) (by omega)), cOn hns hu hF, oSome, nI_1, nI_1]
    by_cases h : gOn sy sh ns u (nI k) = true
    · rw [if_pos h, if_neg (by decide)]
      have e : goodN sy sh ns u (k + 1) = goodN sy sh ns u k + 1 := if_pos h
      rw [← e]; exact ih n (k + 1) (by omega) (by omega)
    · rw [if_neg h, if_pos rfl]
      have e : goodN sy sh ns u (k + 1) = goodN sy sh ns u k := if_neg h
      rw [← e]; exact ih n (k + 1) (by omega) (by omega)
theorem mCellL {K : Int32 → Option (Int64 × (Nat → Int32))} {nw sy sh : Nat → Int32} {ns u F : Nat} (R : RowS nw sy) (H : RowH nw sh) (e1 : nw 1 = nI ns) (hf : FinOK sy ns) (hns : ns ≤ 8) (hu : u < 6) (hF : 8 < F) : ∀ (c n k : Nat), k + c = 16 → c < n → fX5_odds_41 F K nw (nI u) n (nI (goodN sy sh ns u k)) (nI k) = K (nI (goodN sy sh ns u 16)) := by
  intro c
  induction c with
  | zero =>
    intro n k h1 h2
    obtain ⟨n, rfl⟩ : ∃ q, n = q + 1 := ⟨n - 1, by omega⟩
    obtain rfl : k = 16 := by omega
    rw [fX5_odds_41, if_pos (show (16 : Int32) ≤ nI 16 by decide)]
  | succ c ih =>
    intro n k h1 h2
    obtain ⟨n, rfl⟩ : ∃ q, n = q + 1 := ⟨n - 1, by omega⟩
    rw [fX5_odds_41, if_neg (show ¬ (16 : Int32) ≤ nI k from nI_ge (b := 16) (by omega) (by omega)), mOn R H e1 hf hns hu hF, oSome, nI_1, nI_1, Int32.add_zero]
    by_cases h : gOn sy sh ns u (nI k) = true
    · rw [if_pos h, if_neg (by decide)]
      have e : goodN sy sh ns u (k + 1) = goodN sy sh ns u k + 1 := if_pos h
      rw [← e]; exact ih n (k + 1) (by omega) (by omega)
    · rw [if_neg h, if_pos rfl]
      have e : goodN sy sh ns u (k + 1) = goodN sy sh ns u k := if_neg h
      rw [← e]; exact ih n (k + 1) (by omega) (by omega)
def fd0 : Nat → Int32 := fun _ => 0
theorem o88 {fd : Nat → Int32} {w : Int32} {r : Int64 × (Nat → Int32)} (m : Nat) : ∀ (n : Nat) (a b : Int64) (c : Int32), fX4_odds_88 fd0 w n a b c = some r → fX4_odds_88 fd w (n + m) a b c = some (r.1, fd)
  | 0, _, _, _, h => by cases h
  | n + 1, a, b, c, h => by
    rw [show n + 1 + m = (n + m) + 1 by omega, fX4_odds_88]
    rw [fX4_odds_88] at h
    by_cases e1 : 60 ≤ c
    · rw [if_pos e1] at h ⊢
      by_cases e2 : w = 0
      · rw [if_pos e2] at h ⊢; rw [← Option.some.inj h]
      · rw [if_neg e2] at h ⊢; rw [← Option.some.inj h]
    rw [if_neg e1] at h ⊢
    by_cases e3 : lg_cmp b 1 ≤ 0
    · rw [if_pos e3] at h ⊢
      by_cases e2 : w = 0
      · rw [if_pos e2] at h ⊢; rw [← Option.some.inj h]
      · rw [if_neg e2] at h ⊢; rw [← Option.some.inj h]
    rw [if_neg e3] at h ⊢
    by_cases e4 : lg_cmp (a - a / 2 * 2) 0 = 0
    · rw [if_pos e4] at h ⊢; exact o88 m n _ _ _ h
    rw [if_neg e4] at h ⊢
    by_cases e2 : w = 0
    · rw [if_pos e2] at h ⊢; rw [← Option.some.inj h]
    · rw [if_neg e2] at h ⊢; rw [← Option.some.inj h]
theorem o57 {fd : Nat → Int32} {K K' : Int64 → Int64 → Option (Int64 × (Nat → Int32))} {v2 v8 : Int32} {r : Int64 × (Nat → Int32)} (m : Nat) (hk : ∀ a b, K a b = some r → K' a b = some (r.1, fd)) : ∀ (n : Nat) (a b : Int64) (c : Int32), fX4_odds_57 K v2 v8 n a b c = some r → fX4_odds_57 K' v2 v8 (n + m) a b c = some (r.1, fd)
  | 0, _, _, _, h => by cases h
  | n + 1, a, b, c, h => by
    rw [show n + 1 + m = (n + m) + 1 by omega, fX4_odds_57]
    rw [fX4_odds_57] at h
    by_cases e1 : v2 ≤ c
    · rw [if_pos e1] at h ⊢; exact hk _ _ h
    · rw [if_neg e1] at h ⊢; exact o57 m hk n _ _ _ h
theorem o111 {fd : Nat → Int32} {v2 v3 v4 v5 : Int32} {r : Int64 × (Nat → Int32)} (m : Nat) : ∀ (n : Nat) (a : Int64) (c : Int32), fX5_odds_111 fd0 v2 v3 v4 v5 n a c = some r → fX5_odds_111 fd v2 v3 v4 v5 (n + m) a c = some (r.1, fd)
  | 0, _, _, h => by cases h
  | n + 1, a, c, h => by
    rw [show n + 1 + m = (n + m) + 1 by omega, fX5_odds_111]
    rw [fX5_odds_111] at h
    by_cases e1 : v2 ≤ c
    · rw [if_pos e1] at h ⊢; rw [← Option.some.inj h]
    rw [if_neg e1] at h ⊢
    by_cases e5 : ¬ v5 = 0
    · rw [if_pos e5, if_pos e5] at h ⊢
      by_cases e2 : v3 = 0
      · rw [if_pos e2] at h ⊢; exact o111 m n _ _ h
      · rw [if_neg e2] at h ⊢; exact o111 m n _ _ h
    · rw [if_neg e5, if_neg e5] at h
      by_cases e2 : v3 = 0
      · rw [if_pos e2] at h; cases h
      · rw [if_neg e2] at h; cases h
theorem o82 {fd : Nat → Int32} {K K' : Int32 → Option (Int64 × (Nat → Int32))} {r : Int64 × (Nat → Int32)} (m : Nat) (hk : ∀ a, K a = some r → K' a = some (r.1, fd)) : ∀ (n : Nat) (a b : Int32), fX5_odds_82 K n a b = some r → fX5_odds_82 K' (n + m) a b = some (r.1, fd)
  | 0, _, _, h => by cases h
  | n + 1, a, b, h => by
    rw [show n + 1 + m = (n + m) + 1 by omega, fX5_odds_82]
    rw [fX5_odds_82] at h
    by_cases e1 : b = 0
    · rw [if_pos e1] at h ⊢; exact hk _ h
    · rw [if_neg e1, if_pos e1] at h ⊢; exact o82 m hk n _ _ h
def oddC (g n w : Nat) : Option (Int64 × (Nat → Int32)) := fX4_odds_57 (fun a b => fX4_odds_88 fd0 (nI w) 61 a b 0) (nI n) (nI g) 16 1 1 0
def oddM (g n w : Nat) : Option (Int64 × (Nat → Int32)) := fX5_odds_82 (fun by_ => fX5_odds_111 fd0 (nI n) (nI w) (nI g) by_ 16 1 0) 20 16 (nI g)
def oddE (g n w : Nat) : Bool := match oddC g n w, oddM g n w with
  | some a, some b => decide (a.1 = b.1)
  | _, _ => false
theorem odd512 : ∀ g, g < 16 → ∀ n, n < 16 → ∀ w, w < 2 → oddE g n w = true := by decide +kernel
theorem oddX {g n w F : Nat} (hFu : 300 ≤ F) (hg : g < 16) (hn : n < 16) (hw : w < 2) (fd fm : Nat → Int32) : ∃ r, fX4_odds_57 (fun w_7 w_8 => fX4_odds_88 fd (nI w) F w_7 w_8 0) (nI n) (nI g) F 1 1 0 = some (r, fd) ∧ fX5_odds_82 (fun w_15 => fX5_odds_111 fm (nI n) (nI w) (nI g) w_15 F 1 0) F 16 (nI g) = some (r, fm) := by
  have h := odd512 g hg n hn w hw
  unfold oddE at h
  cases hc : oddC g n w with
  | none => rw [hc] at h; exact absurd h Bool.false_ne_true
  | some a =>
    cases hm : oddM g n w with
    | none => rw [hc, hm] at h; exact absurd h Bool.false_ne_true
    | some b =>
      rw [hc, hm] at h
      have e : a.1 = b.1 := of_decide_eq_true h
      refine ⟨a.1, ?_, ?_⟩
      · have := o57 (fd := fd) (K' := fun w_7 w_8 => fX4_odds_88 fd (nI w) F w_7 w_8 0) (F - 16) (fun p q hpq => by
          have := o88 (fd := fd) (F - 61) 61 p q 0 hpq
          rw [show 61 + (F - 61) = F by omega] at this
          exact this) 16 1 1 0 hc
        rw [show 16 + (F - 16) = F by omega] at this
        exact this
      · rw [e]
        have := o82 (fd := fm) (K' := fun w_15 => fX5_odds_111 fm (nI n) (nI w) (nI g) w_15 F 1 0) (F - 20) (fun p hp => by
          have := o111 (fd := fm) (F - 16) 16 1 0 hp
          rw [show 16 + (F - 16) = F by omega] at this
          exact this) 20 16 (nI g) hm
        rw [show 20 + (F - 20) = F by omega] at this
        exact this
theorem isoL {pl sp ad nm mz mn : Nat → Int32} {ns nv F s q : Nat} {zz tz x : Int32} (hFu : 300 ≤ F) (hs : s < 4) (hq : q ≤ 40) (eq : mz s = nI q) (hS : ∀ i, i < 160 → mn i = nm i) : ∀ (c n m k d : Nat) (sy sh sh2 nw : Nat → Int32), k + c = min q 8 → c < n → c < m → EI pl sp sy sh2 ns nv d → RW nw pl sp sy sh2 ns nv d zz →
    ∃ r sy' sh' d' nw', fX4_isAsTold_51 F pl sp nm (nI ns) (nI nv) tz (nI s) x (nI (min q 8)) n (nI k) sy sh (nI d) = some (r, pl, sp, sy', sh', nI ns, nI nv, d', tz) ∧ fX5_isSo_16 F ad mz mn (nI s) x m 1 (nI k) nw = some (r, nw', ad) ∧ ∀ i, i < 84 → nw' i = ad i := by
  intro c
  induction c with
  | zero =>
    intro n m k d sy sh sh2 nw h1 h2 h3 hE hR
    obtain ⟨n, rfl⟩ : ∃ q, n = q + 1 := ⟨n - 1, by omega⟩
    obtain ⟨m, rfl⟩ : ∃ q, m = q + 1 := ⟨m - 1, by omega⟩
    obtain rfl : k = min q 8 := by omega
    obtain ⟨r1, b1, b2⟩ := mCopy (F := F) (by omega) ad nw
    rw [fX4_isAsTold_51, fX5_isSo_16, if_pos (nI_le (Nat.le_refl _) (by omega)), if_pos (in4 hs), nI_clamp (show s < 2 ^ 31 by omega), eq, b1, oSome, if_pos (Or.inr rfl)]
    by_cases e : q ≤ min q 8
    · rw [if_pos (nI_le e (by omega))]; exact ⟨_, _, _, _, _, rfl, rfl, b2⟩
    · rw [if_neg (nI_ge (show min q 8 < q by omega) (by omega)), if_pos (show (8 : Int32) ≤ nI (min q 8) from nI_le (a := 8) (by omega) (by omega))]; exact ⟨_, _, _, _, _, rfl, rfl, b2⟩
  | succ c ih =>
    intro n m k d sy sh sh2 nw h1 h2 h3 hE hR
    obtain ⟨n, rfl⟩ : ∃ q, n = q + 1 := ⟨n - 1, by omega⟩
    obtain ⟨m, rfl⟩ : ∃ q, m = q + 2 := ⟨m - 2, by omega⟩
    obtain ⟨n1, g1, g2⟩ := mDayR (F := F) (by omega) hE hR
    have go := ih n (m + 1) (k + 1) _ _ (shR (mkB 0) sy ns nv 0 sh) _ n1 (by omega) (by omega) (by omega) (hE.day1 (fun _ => true)) g2
    rw [fX4_isAsTold_51, fX5_isSo_16, if_neg (nI_ge (show k < min q 8 by omega) (by omega)), if_pos (in4 hs), nI_clamp (show s < 2 ^ 31 by omega), eq, if_neg (nI_ge (show k < q by omega) (by omega)), if_neg (show ¬ (8 : Int32) ≤ nI k from nI_ge (b := 8) (by omega) (by omega)), if_neg (show ¬ (1 : Int32) = 0 by decide), ixM, if_pos (in160 (by omega)), nI_clamp (show 40 * s + k < 2 ^ 31 by omega), hS _ (by omega), shNum (by omega), g1, cPass1 hE.1 hE.2.1 (by omega) hE.2.2.2.1 _ hE.2.2.1, cThick hE.1 (by omega), mThick hR.2.2.2.2.2.2.1 hR.2.1 hE.1 (SaysFin hE.2.2.2.2.2.1) (by omega)]
    simp only [oSome]
    rw [nI_1]
    by_cases c1 : nm (40 * s + k) = -1
    · rw [if_pos c1, if_pos c1]; exact go
    rw [if_neg c1, if_neg c1]
    by_cases c2 : nm (40 * s + k) = thickS sy ns x
    · rw [if_pos c2, if_pos c2]; exact go
    rw [if_neg c2, if_neg c2]
    obtain ⟨r1, b1, b2⟩ := mCopy (F := F) (by omega) ad n1
    rw [fX5_isSo_16, if_pos (in4 hs), nI_clamp (show s < 2 ^ 31 by omega), eq, b1, oSome, if_pos (Or.inl rfl)]
    by_cases e : nI q ≤ nI (k + 1)
    · rw [if_pos e]; exact ⟨_, _, _, _, _, rfl, rfl, b2⟩
    rw [if_neg e]
    by_cases e : (8 : Int32) ≤ nI (k + 1)
    · rw [if_pos e]; exact ⟨_, _, _, _, _, rfl, rfl, b2⟩
    rw [if_neg e, if_pos rfl]; exact ⟨_, _, _, _, _, rfl, rfl, b2⟩
/-- one try of what was told -/
theorem tryS {ppl psp psy psh nw nwc ad sz nm mz mn tpl tsp tsy tsh : Nat → Int32} {ns nv d F s q u f k : Nat} {zz tsc tnc tdy tzz : Int32} (hFu : 300 ≤ F) (hs : s < 4) (hq : q ≤ 40) (eq : mz s = nI q) (eq2 : sz s = nI q) (hS : ∀ i, i < 160 → mn i = nm i) (hu : u < ns) (hf : f < 5) (hf1 : f ≠ 1) (hv : ex (sMax f) (nI k)) (hE : EI ppl psp psy psh ns nv d) (hR : RW nw ppl psp psy psh ns nv d zz) (ho : ∀ j, j < 84 → j ≠ 20 + (5 * u + f) → nwc j = nw j) :
    ∃ x r tpl' tsp' tsy' tsh' tsc' tnc' tdy' tzz' nw' ad', fX4_isAsTold F ppl psp psy psh tpl tsp tsy tsh sz nm (nI ns) (nI nv) (nI d) zz tsc tnc tdy tzz (nI s) (nI u) (nI f) (nI k) = some (r, tpl', tsp', tsy', tsh', tsc', tnc', tdy', tzz') ∧ fX5_sayingIs (upd nwc (20 + (5 * u + f)) (nI k)) (nI u) 1 = some x ∧ fX5_isSo F (upd nwc (20 + (5 * u + f)) (nI k)) ad mz mn (nI s) x = some (r, nw', ad') ∧ ∀ j, j < 84 → j ≠ 20 + (5 * u + f) → nw' j = nw j := by
  have hns := hE.1
  have hE2 := (hE.tr (tl := tpl) (tp := tsp) (ty := tsy) (th := tsh)).setS (j := u) (f := f) (v := nI k) hf hv
  have hR2 := ((hR.tr (tl := tpl) (tp := tsp) (ty := tsy) (th := tsh)).setS (j := 5 * u + f) (v := nI k) (by omega)).row (upd_off (v := nI k) ho)
  obtain ⟨a1, b1, b2⟩ := mCopy (F := F) (by omega) (upd nwc (20 + (5 * u + f)) (nI k)) ad
  obtain ⟨r, sy', sh', d', nw', g1, g2, g3⟩ := isoL (ad := a1) (tz := zz) (x := psy (5 * u + 1)) hFu hs hq eq hS (min q 8) F F 0 d _ (va_cpy psh tsh 0 0 24) _ _ (by omega) (by omega) (by omega) hE2 hR2
  have ex1 : upd (va_cpy psy tsy 0 0 40) (5 * u + f) (nI k) (5 * u + 1) = psy (5 * u + 1) := by
    rw [updN (by omega), cpy_at (by omega)]
  refine ⟨psy (5 * u + 1), r, va_cpy ppl tpl 0 0 6, va_cpy psp tsp 0 0 10, sy', sh', nI ns, nI nv, d', zz, nw', a1, ?_, ?_, ?_, fun j hj hn => ?_⟩
  · unfold fX4_isAsTold
    simp only [bo0, bo1, bo2, bo3, bo4, bo5, bo6, bo7]
    have em : (if 8 < fX2_sizeOf sz (nI s) then 8 else fX2_sizeOf sz (nI s)) = nI (min q 8) := by
      rw [shSize hs, eq2]
      by_cases e : (8 : Int32) < nI q
      · rw [if_pos e, Nat.min_eq_right (Nat.le_of_lt ((nI_ltI (a := 8) (by omega) (by omega)).mp e))]; rfl
      · rw [if_neg e, Nat.min_eq_left (Nat.le_of_not_lt fun e2 => e (nI_lt (a := 8) e2 (by omega)))]
    rw [em, sPut (by omega) hf, sHas1 (by omega), ex1]
    exact g1
  · rw [hR2.2.2.2.2.2.2.1.is1 (by omega), ex1]
  · unfold fX5_isSo
    rw [b1, oSome]; exact g2
  · rw [g3 j hj, b2 j hj, updN hn]; exact ho j hj hn
theorem fitL {ppl psp psy psh nw fd fm sz nm mz mn : Nat → Int32} {ns nv d F s q u : Nat} {zz was : Int32} (hFu : 300 ≤ F) (hs : s < 4) (hq : q ≤ 40) (eq : mz s = nI q) (eq2 : sz s = nI q) (hS : ∀ i, i < 160 → mn i = nm i) (hu : u < ns) (hE : EI ppl psp psy psh ns nv d) (hR : RW nw ppl psp psy psh ns nv d zz) : ∀ (c n k : Nat) (a : Int32) (tpl tsp tsy tsh : Nat → Int32) (tsc tnc tdy tzz : Int32) (nwc ad : Nat → Int32), k + c = 100 → c < n → (∀ j, j < 84 → j ≠ 20 + (5 * u + 2) → nwc j = nw j) →
    ∃ r tpl' tsp' tsy' tsh' tsc' tnc' tdy' tzz' nw' ad', fX4_fits_23 F ppl psp psy psh sz nm fd (nI ns) (nI nv) (nI d) zz (nI s) (nI u) n a (nI k) tpl tsp tsy tsh tsc tnc tdy tzz = some (r, tpl', tsp', tsy', tsh', fd, tsc', tnc', tdy', tzz') ∧ fX5_fits_43 F fm mz mn (nI s) (nI u) (nI (20 + (5 * u + 2))) was n a (nI k) nwc ad = some (r, nw', ad', fm) ∧ ∀ j, j < 84 → nw' j = upd nw (20 + (5 * u + 2)) was j := by
  intro c
  have hns := hE.1
  induction c with
  | zero =>
    intro n k a tpl tsp tsy tsh tsc tnc tdy tzz nwc ad h1 h2 ho
    obtain ⟨n, rfl⟩ : ∃ q, n = q + 1 := ⟨n - 1, by omega⟩
    obtain rfl : k = 100 := by omega
    rw [fX4_fits_23, fX5_fits_43, if_pos (show (99 : Int32) < nI 100 by decide), if_pos (show (100 : Int32) ≤ nI 100 by decide), if_pos (in84 (by omega)), nI_clamp (by omega)]
    exact ⟨_, _, _, _, _, _, _, _, _, _, _, rfl, rfl, upd_off ho⟩
  | succ c ih =>
    intro n k a tpl tsp tsy tsh tsc tnc tdy tzz nwc ad h1 h2 ho
    obtain ⟨n, rfl⟩ : ∃ q, n = q + 1 := ⟨n - 1, by omega⟩
    obtain ⟨x, r, tpl', tsp', tsy', tsh', tsc', tnc', tdy', tzz', nw', ad', g1, g2, g3, g4⟩ := tryS (f := 2) (k := k) (tpl := tpl) (tsp := tsp) (tsy := tsy) (tsh := tsh) (ad := ad) (tsc := tsc) (tnc := tnc) (tdy := tdy) (tzz := tzz) hFu hs hq eq eq2 hS hu (by omega) (by omega) ⟨k, by show k ≤ 99; omega, rfl⟩ hE hR ho
    rw [fX4_fits_23, fX5_fits_43, if_neg (show ¬ (99 : Int32) < nI k from nI_nlt (a := 99) (by omega) (by omega)), if_neg (show ¬ (100 : Int32) ≤ nI k from nI_ge (b := 100) (by omega) (by omega)), if_pos (in84 (by omega)), nI_clamp (show 20 + (5 * u + 2) < 2 ^ 31 by omega), g2, oSome, g3, oSome, show fX4_isAsTold F ppl psp psy psh tpl tsp tsy tsh sz nm (nI ns) (nI nv) (nI d) zz tsc tnc tdy tzz (nI s) (nI u) 2 (nI k) = _ from g1, oSome, nI_1, Int32.add_zero]
    by_cases hr : r = 0
    · rw [if_pos hr, if_pos hr]; exact ih n (k + 1) _ _ _ _ _ _ _ _ _ nw' ad' (by omega) (by omega) g4
    · rw [if_neg hr, if_neg hr]; exact ih n (k + 1) _ _ _ _ _ _ _ _ _ nw' ad' (by omega) (by omega) g4
theorem kdsL {ppl psp psy psh nw fd fm sz nm mz mn : Nat → Int32} {ns nv d F s q u : Nat} {zz was : Int32} (hFu : 300 ≤ F) (hs : s < 4) (hq : q ≤ 40) (eq : mz s = nI q) (eq2 : sz s = nI q) (hS : ∀ i, i < 160 → mn i = nm i) (hu : u < ns) (hE : EI ppl psp psy psh ns nv d) (hR : RW nw ppl psp psy psh ns nv d zz) : ∀ (c n k : Nat) (a : Int32) (tpl tsp tsy tsh : Nat → Int32) (tsc tnc tdy tzz : Int32) (nwc ad : Nat → Int32), k + c = 7 → c < n → (∀ j, j < 84 → j ≠ 20 + (5 * u + 0) → nwc j = nw j) →
    ∃ r tpl' tsp' tsy' tsh' tsc' tnc' tdy' tzz' nw' ad', fX4_kinds_23 F ppl psp psy psh sz nm fd (nI ns) (nI nv) (nI d) zz (nI s) (nI u) n a (nI k) tpl tsp tsy tsh tsc tnc tdy tzz = some (r, tpl', tsp', tsy', tsh', fd, tsc', tnc', tdy', tzz') ∧ fX5_kinds_43 F fm mz mn (nI s) (nI u) (nI (20 + (5 * u + 0))) was n a (nI k) nwc ad = some (r, nw', ad', fm) ∧ ∀ j, j < 84 → nw' j = upd nw (20 + (5 * u + 0)) was j := by
  intro c
  have hns := hE.1
  induction c with
  | zero =>
    intro n k a tpl tsp tsy tsh tsc tnc tdy tzz nwc ad h1 h2 ho
    obtain ⟨n, rfl⟩ : ∃ q, n = q + 1 := ⟨n - 1, by omega⟩
    obtain rfl : k = 7 := by omega
    rw [fX4_kinds_23, fX5_kinds_43, if_pos (show (7 : Int32) ≤ nI 7 by decide), if_pos (show (6 : Int32) < nI 7 by decide), if_pos (in84 (by omega)), nI_clamp (by omega)]
    exact ⟨_, _, _, _, _, _, _, _, _, _, _, rfl, rfl, upd_off ho⟩
  | succ c ih =>
    intro n k a tpl tsp tsy tsh tsc tnc tdy tzz nwc ad h1 h2 ho
    obtain ⟨n, rfl⟩ : ∃ q, n = q + 1 := ⟨n - 1, by omega⟩
    obtain ⟨x, r, tpl', tsp', tsy', tsh', tsc', tnc', tdy', tzz', nw', ad', g1, g2, g3, g4⟩ := tryS (f := 0) (k := k) (tpl := tpl) (tsp := tsp) (tsy := tsy) (tsh := tsh) (ad := ad) (tsc := tsc) (tnc := tnc) (tdy := tdy) (tzz := tzz) hFu hs hq eq eq2 hS hu (by omega) (by omega) ⟨k, by show k ≤ 6; omega, rfl⟩ hE hR ho
    rw [fX4_kinds_23, fX5_kinds_43, if_neg (show ¬ (7 : Int32) ≤ nI k from nI_ge (b := 7) (by omega) (by omega)), if_neg (show ¬ (6 : Int32) < nI k from nI_nlt (a := 6) (by omega) (by omega)), if_pos (in84 (by omega)), nI_clamp (show 20 + (5 * u + 0) < 2 ^ 31 by omega), g2, oSome, g3, oSome, show fX4_isAsTold F ppl psp psy psh tpl tsp tsy tsh sz nm (nI ns) (nI nv) (nI d) zz tsc tnc tdy tzz (nI s) (nI u) 0 (nI k) = _ from g1, oSome, nI_1, or0]
    by_cases hr : r = 0
    · rw [if_pos hr, if_pos hr]; exact ih n (k + 1) _ _ _ _ _ _ _ _ _ nw' ad' (by omega) (by omega) g4
    · rw [if_neg hr, if_neg hr]; exact ih n (k + 1) _ _ _ _ _ _ _ _ _ nw' ad' (by omega) (by omega) g4
section OP
variable {ppl psp psy psh kpl ksp ksy ksh bs bt sz nm fd : Nat → Int32} {ik psc pnc pdy pzz ksc knc kdy kzz ln : Int32} {nw kp fm tp wd mz mn : Nat → Int32} {mi td : Int32}
theorem op_odds {F : Nat} (hFu : 300 ≤ F) (h : AG ppl psp psy psh kpl ksp ksy ksh bs bt sz nm fd ik psc pnc pdy pzz ksc knc kdy kzz ln nw kp fm tp wd mz mn mi td) (x1 x2 x3 : Int32) :
    ∃ r fd' fm', fX4_odds F psy psh fd psc pnc x1 x2 x3 = some (r, fd') ∧ fX5_odds F nw fm x1 x2 x3 = some (r, fm') ∧ AG ppl psp psy psh kpl ksp ksy ksh bs bt sz nm fd' ik psc pnc pdy pzz ksc knc kdy kzz ln nw kp fm' tp wd mz mn mi td := by
  have h' := h
  obtain ⟨⟨ns, nv, d, rfl, rfl, rfl, hE, hR⟩, hK, hF, hT, hS⟩ := h
  obtain ⟨fm', q1, q2⟩ := hF.beyond
  have hnv := hE.2.1
  unfold fX4_odds fX5_odds
  rw [m_isShip hR.2.2.2.1, hv_eq, q1, oSome, wi_eq, wi_eq]
  by_cases c1 : fX0_hasSaying (nI nv) x1 = 0
  · rw [if_pos c1, if_pos c1]; exact ⟨_, _, _, rfl, rfl, h'.1, hK, q2, hT, hS⟩
  rw [if_neg c1, if_neg c1]
  by_cases c2 : fX4_within x2 0 15 = 0
  · rw [if_pos c2, if_pos c2]; exact ⟨_, _, _, rfl, rfl, h'.1, hK, q2, hT, hS⟩
  rw [if_neg c2, if_neg c2]
  by_cases c3 : fX4_within x3 0 1 = 0
  · rw [if_pos c3, if_pos c3]; exact ⟨_, _, _, rfl, rfl, h'.1, hK, q2, hT, hS⟩
  rw [if_neg c3, if_neg c3]
  obtain ⟨u, hu, rfl⟩ := hs_ex (by omega) c1
  obtain ⟨n, hn, rfl⟩ := wi_ex (n := 15) rfl (by decide) c2
  obtain ⟨w, hw, rfl⟩ := wi_ex (n := 1) rfl (by decide) c3
  have k1 : fX0_cellsWhereGoesOn F psy psh (nI ns) (nI u) = some (nI (goodN psy psh ns u 16)) := cCellL hE.1 (by omega) (by omega) 16 F 0 (by omega) (by omega)
  have k2 := mCellL (K := fun w_12 => fX5_odds_82 (fun w_15 => fX5_odds_111 fm (nI n) (nI w) w_12 w_15 F 1 0) F 16 w_12) (F := F) (u := u) hR.2.2.2.2.2.2.1 hR.2.2.2.2.2.2.2 hR.2.1 (SaysFin hE.2.2.2.2.2.1) hE.1 (by omega) (by omega) 16 F 0 (by omega) (by omega)
  have k3 : fX5_odds_41 F (fun w_12 => fX5_odds_82 (fun w_15 => fX5_odds_111 fm (nI n) (nI w) w_12 w_15 F 1 0) F 16 w_12) nw (nI u) F 0 0 = fX5_odds_82 (fun w_15 => fX5_odds_111 fm (nI n) (nI w) (nI (goodN psy psh ns u 16)) w_15 F 1 0) F 16 (nI (goodN psy psh ns u 16)) := k2
  obtain ⟨r, g1, g2⟩ := oddX (n := n) (w := w) hFu (goodN_16 psy psh ns u) (by omega) (by omega) fd fm
  rw [k1, oSome, k3, g1, g2]
  exact ⟨_, _, _, rfl, rfl, h'⟩
theorem mFit {x1 x2 : Int32} {ns : Nat} (hS : SHT bt sz nm wd mz mn) (e1 : nw 1 = nI ns) : fX5_lacks wd x1 (fX5_isSaying nw x2) = some (fX4_faultOfTold bt (nI ns) x1 x2) := by
  rw [mlk hS, m_isSay e1]; rfl
theorem FD.told {x1 x2 psc : Int32} (h : FD fd fm) (c : ¬ fX4_faultOfTold bt psc x1 x2 = 0) : ∃ fm', fX5_finding fm (fX4_faultOfTold bt psc x1 x2) = some (fX4_faultOfTold bt psc x1 x2, fm') ∧ FD (fX4_finding_o1 fd (fX4_faultOfTold bt psc x1 x2)) fm' := by
  unfold fX4_faultOfTold at c ⊢
  by_cases e : fX4_faultOfSheet bt x1 = 0
  · rw [if_pos e] at c ⊢
    by_cases e2 : fX0_hasSaying psc x2 = 0
    · rw [if_pos e2]; exact h.beyond
    · rw [if_neg e2] at c; exact absurd rfl c
  · rw [if_neg e]; exact h.fault e
theorem toldOK {x1 x2 psc : Int32} (c : fX4_faultOfTold bt psc x1 x2 = 0) : fX4_faultOfSheet bt x1 = 0 ∧ ¬ fX0_hasSaying psc x2 = 0 := by
  unfold fX4_faultOfTold at c
  by_cases e : fX4_faultOfSheet bt x1 = 0
  · rw [if_pos e] at c
    refine ⟨e, fun e2 => ?_⟩
    rw [if_pos e2] at c; exact absurd c (by decide)
  · rw [if_neg e] at c; exact absurd c e
theorem op_fits {F : Nat} (hFu : 300 ≤ F) (h : AG ppl psp psy psh kpl ksp ksy ksh bs bt sz nm fd ik psc pnc pdy pzz ksc knc kdy kzz ln nw kp fm tp wd mz mn mi td) (tpl tsp tsy tsh ad : Nat → Int32) (tsc tnc tdy tzz : Int32) (x1 x2 : Int32) :
    ∃ r tpl' tsp' tsy' tsh' fd' tsc' tnc' tdy' tzz' nw' ad' fm', fX4_fits F ppl psp psy psh tpl tsp tsy tsh bt sz nm fd psc pnc pdy pzz tsc tnc tdy tzz x1 x2 = some (r, tpl', tsp', tsy', tsh', fd', tsc', tnc', tdy', tzz') ∧ fX5_fits F nw ad fm wd mz mn x1 x2 = some (r, nw', ad', fm') ∧ AG ppl psp psy psh kpl ksp ksy ksh bs bt sz nm fd' ik psc pnc pdy pzz ksc knc kdy kzz ln nw' kp fm' tp wd mz mn mi td := by
  have h' := h
  obtain ⟨⟨ns, nv, d, rfl, rfl, rfl, hE, hR⟩, hK, hF, hT, hS⟩ := h
  have hns := hE.1
  unfold fX4_fits fX5_fits
  rw [mFit hS hR.2.1, oSome]
  by_cases c : fX4_faultOfTold bt (nI ns) x1 x2 = 0
  · obtain ⟨c1, c2⟩ := toldOK c
    obtain ⟨s, hs, rfl, _, _⟩ := fltOK c1
    obtain ⟨u, hu, rfl⟩ := hs_ex hns c2
    obtain ⟨_, s2, _, ⟨q, hq, s4⟩, _⟩ := hS.1 s hs
    have ea : fX5_sayingAt (nI u) 2 = nI (20 + (5 * u + 2)) := (at5 u 2).trans (congrArg nI (Nat.add_assoc 20 (5 * u) 2))
    obtain ⟨r, tpl', tsp', tsy', tsh', tsc', tnc', tdy', tzz', nw', ad', g1, g2, g3⟩ := fitL (fd := fd) (fm := fm) (was := nw (20 + (5 * u + 2))) hFu hs hq (s2.trans s4) s4 hS.2 hu hE hR 100 F 0 0 tpl tsp tsy tsh tsc tnc tdy tzz nw ad (by omega) (by omega) (fun _ _ _ => rfl)
    rw [if_pos c, if_pos c, ea, if_pos (in84 (by omega)), nI_clamp (by omega)]
    exact ⟨r, tpl', tsp', tsy', tsh', fd, tsc', tnc', tdy', tzz', nw', ad', fm, g1, g2, ⟨ns, nv, d, rfl, rfl, rfl, hE, hR.row fun j hj => (g3 j hj).trans (upd_self j)⟩, hK, hF, hT, hS⟩
  · obtain ⟨fm1, q1, p1⟩ := hF.told c
    rw [if_neg c, if_neg c, q1, oSome]
    exact ⟨_, _, _, _, _, _, _, _, _, _, _, _, _, rfl, rfl, h'.1, hK, p1, hT, hS⟩
theorem op_kinds {F : Nat} (hFu : 300 ≤ F) (h : AG ppl psp psy psh kpl ksp ksy ksh bs bt sz nm fd ik psc pnc pdy pzz ksc knc kdy kzz ln nw kp fm tp wd mz mn mi td) (tpl tsp tsy tsh ad : Nat → Int32) (tsc tnc tdy tzz : Int32) (x1 x2 : Int32) :
    ∃ r tpl' tsp' tsy' tsh' fd' tsc' tnc' tdy' tzz' nw' ad' fm', fX4_kinds F ppl psp psy psh tpl tsp tsy tsh bt sz nm fd psc pnc pdy pzz tsc tnc tdy tzz x1 x2 = some (r, tpl', tsp', tsy', tsh', fd', tsc', tnc', tdy', tzz') ∧ fX5_kinds F nw ad fm wd mz mn x1 x2 = some (r, nw', ad', fm') ∧ AG ppl psp psy psh kpl ksp ksy ksh bs bt sz nm fd' ik psc pnc pdy pzz ksc knc kdy kzz ln nw' kp fm' tp wd mz mn mi td := by
  have h' := h
  obtain ⟨⟨ns, nv, d, rfl, rfl, rfl, hE, hR⟩, hK, hF, hT, hS⟩ := h
  have hns := hE.1
  unfold fX4_kinds fX5_kinds
  rw [mFit hS hR.2.1, oSome]
  by_cases c : fX4_faultOfTold bt (nI ns) x1 x2 = 0
  · obtain ⟨c1, c2⟩ := toldOK c
    obtain ⟨s, hs, rfl, _, _⟩ := fltOK c1
    obtain ⟨u, hu, rfl⟩ := hs_ex hns c2
    obtain ⟨_, s2, _, ⟨q, hq, s4⟩, _⟩ := hS.1 s hs
    have ea : fX5_sayingAt (nI u) 0 = nI (20 + (5 * u + 0)) := (at5 u 0).trans (congrArg nI (Nat.add_assoc 20 (5 * u) 0))
    obtain ⟨r, tpl', tsp', tsy', tsh', tsc', tnc', tdy', tzz', nw', ad', g1, g2, g3⟩ := kdsL (fd := fd) (fm := fm) (was := nw (20 + (5 * u + 0))) hFu hs hq (s2.trans s4) s4 hS.2 hu hE hR 7 F 0 0 tpl tsp tsy tsh tsc tnc tdy tzz nw ad (by omega) (by omega) (fun _ _ _ => rfl)
    rw [if_pos c, if_pos c, ea, if_pos (in84 (by omega)), nI_clamp (by omega)]
    exact ⟨r, tpl', tsp', tsy', tsh', fd, tsc', tnc', tdy', tzz', nw', ad', fm, g1, g2, ⟨ns, nv, d, rfl, rfl, rfl, hE, hR.row fun j hj => (g3 j hj).trans (upd_self j)⟩, hK, hF, hT, hS⟩
  · obtain ⟨fm1, q1, p1⟩ := hF.told c
    rw [if_neg c, if_neg c, q1, oSome]
    exact ⟨_, _, _, _, _, _, _, _, _, _, _, _, _, rfl, rfl, h'.1, hK, p1, hT, hS⟩
end OP
