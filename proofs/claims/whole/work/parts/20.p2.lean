/-! PURE, second part: a day -/
theorem updS {f : Nat → Int32} {i : Nat} {x : Int32} : upd f i x i = x := pk_us
theorem updN {f : Nat → Int32} {i j : Nat} {x : Int32} (h : j ≠ i) : upd f i x j = f j := pk_un h
def minS (a b : Int32) : Int32 := if a < b then a else b
/-- a ship's day -/
def shipStep (sy : Nat → Int32) (ns : Nat) (sh : Nat → Int32) (v : Nat) : Nat → Int32 :=
  if sh (4 * v) = 15 then sh else if sh (4 * v + 1) < thickS sy ns (sh (4 * v)) then upd sh (4 * v + 3) (minS (sh (4 * v + 3) + 1) 9999) else upd sh (4 * v) (minS (sh (4 * v) + sh (4 * v + 2)) 15)
def shR (mk : Nat → Bool) (sy : Nat → Int32) (ns : Nat) : Nat → Nat → (Nat → Int32) → (Nat → Int32)
  | 0, _, sh => sh
  | c + 1, v, sh => shR mk sy ns c (v + 1) (if mk v = true then shipStep sy ns sh v else sh)
def mkB (mv : Int32) (v : Nat) : Bool := decide (((mv >>> (nI v &&& 31)) &&& 1) = 1)
theorem hHas0 {sh : Nat → Int32} {k : Nat} (hk : k < 6) : fX0_shipHas sh (nI k) 0 = sh (4 * k) := hHas (f := 0) hk (by decide)
theorem hHas1 {sh : Nat → Int32} {k : Nat} (hk : k < 6) : fX0_shipHas sh (nI k) 1 = sh (4 * k + 1) := hHas (f := 1) hk (by decide)
theorem hHas2 {sh : Nat → Int32} {k : Nat} (hk : k < 6) : fX0_shipHas sh (nI k) 2 = sh (4 * k + 2) := hHas (f := 2) hk (by decide)
theorem hHas3 {sh : Nat → Int32} {k : Nat} (hk : k < 6) : fX0_shipHas sh (nI k) 3 = sh (4 * k + 3) := hHas (f := 3) hk (by decide)
theorem hPut0 {sh : Nat → Int32} {k : Nat} {v : Int32} (hk : k < 6) : fX0_setOfShip sh (nI k) 0 v = upd sh (4 * k) v := hPut (f := 0) hk (by decide)
theorem hPut3 {sh : Nat → Int32} {k : Nat} {v : Int32} (hk : k < 6) : fX0_setOfShip sh (nI k) 3 v = upd sh (4 * k + 3) v := hPut (f := 3) hk (by decide)
theorem sPut2 {sy : Nat → Int32} {k : Nat} {v : Int32} (hk : k < 8) : fX0_setOfSaying sy (nI k) 2 v = upd sy (5 * k + 2) v := sPut (f := 2) hk (by decide)
theorem sPut3 {sy : Nat → Int32} {k : Nat} {v : Int32} (hk : k < 8) : fX0_setOfSaying sy (nI k) 3 v = upd sy (5 * k + 3) v := sPut (f := 3) hk (by decide)
theorem sPut4 {sy : Nat → Int32} {k : Nat} {v : Int32} (hk : k < 8) : fX0_setOfSaying sy (nI k) 4 v = upd sy (5 * k + 4) v := sPut (f := 4) hk (by decide)
theorem cPort {sh : Nat → Int32} {k : Nat} (hk : k < 6) : fX0_isInPort sh (nI k) = (if sh (4 * k) = 15 then 1 else 0) := by
  unfold fX0_isInPort
  rw [hHas0 hk]
theorem cSail {sy sh : Nat → Int32} {ns F v : Nat} (hns : ns ≤ 8) (hF : 8 < F) (hv : v < 6) (hp : ¬ sh (4 * v) = 15) : fX0_sail F sy sh (nI ns) (nI v) = some (shipStep sy ns sh v) := by
  unfold fX0_sail shipStep
  rw [hHas0 hv, hHas1 hv, hHas2 hv, hHas3 hv, cThick hns hF, oSome, if_neg hp]
  by_cases h : sh (4 * v + 1) < thickS sy ns (sh (4 * v))
  · rw [if_pos h, if_pos h, hPut3 hv]; rfl
  · rw [if_neg h, if_neg h, hPut0 hv]; rfl
theorem cShips {sy : Nat → Int32} {ns nv F : Nat} (hns : ns ≤ 8) (hnv : nv ≤ 6) (hF : 8 < F) (mv : Int32) (k : (Nat → Int32) → Option ((Nat → Int32) × (Nat → Int32) × Int32)) : ∀ (n c v : Nat) (sh : Nat → Int32), v + c = nv → c < n → fX0_passDays_10 F k sy (nI ns) (nI nv) mv n (nI v) sh = k (shR (mkB mv) sy ns c v sh) := by
  intro n
  induction n with
  | zero => intro c v sh h1 h2; omega
  | succ n ih =>
    intro c v sh h1 h2
    rw [fX0_passDays_10]
    cases c with
    | zero =>
      obtain rfl : v = nv := by omega
      rw [if_pos (nI_le (Nat.le_refl _) (by omega))]
      rfl
    | succ c =>
      rw [if_neg (nI_ge (show v < nv by omega) (by omega)), nI_1, shR, cPort (by omega)]
      by_cases hm : ((mv >>> (nI v &&& 31)) &&& 1) = 1
      · rw [if_pos hm, if_pos (show mkB mv v = true from decide_eq_true hm)]
        by_cases hp : sh (4 * v) = 15
        · rw [if_pos hp, if_neg (by decide), show shipStep sy ns sh v = sh from if_pos hp]
          exact ih c (v + 1) sh (by omega) (by omega)
        · rw [if_neg hp, if_pos rfl, cSail hns hF (by omega) hp, oSome]
          exact ih c (v + 1) _ (by omega) (by omega)
      · rw [if_neg hm, if_neg (show ¬ mkB mv v = true from fun h => hm (of_decide_eq_true h))]
        exact ih c (v + 1) sh (by omega) (by omega)
/-- what the list finishes -/
def finS (sy : Nat → Int32) (ns t : Nat) : Nat → Int32 :=
  if t < ns then (if sy (5 * t + 3) = 1 then sy else if fX1_resists (sy (5 * t)) < sy (5 * t + 2) then upd sy (5 * t + 2) (sy (5 * t + 2) / 2) else upd sy (5 * t + 3) 1) else sy
theorem cHasSay {ns t : Nat} (hns : ns ≤ 8) (ht : t < 2 ^ 30) : fX0_hasSaying (nI ns) (nI t) = (if t < ns then 1 else 0) := by
  unfold fX0_hasSaying fX4_within
  rw [if_neg (show ¬ nI t < 0 from nI_nlt0 (by omega))]
  cases ns with
  | zero =>
    rw [if_neg (Nat.not_lt_zero t), if_pos]
    exact Int32.lt_iff_toInt_lt.mpr (by rw [nI_toInt (by omega), show (nI 0 - 1).toInt = -1 from by decide]; omega)
  | succ ns =>
    rw [show nI (ns + 1) - 1 = nI ns from nI_pred ns]
    by_cases h : t < ns + 1
    · rw [if_pos h, if_neg (nI_nlt (by omega) (by omega))]
    · rw [if_neg h, if_pos (nI_lt (by omega) (by omega))]
theorem cFinish {sy : Nat → Int32} {ns t : Nat} (hns : ns ≤ 8) (ht : t < 9) : fX0_finishByList sy (nI ns) (nI t) = finS sy ns t := by
  unfold fX0_finishByList finS
  rw [cHasSay hns (by omega)]
  by_cases h : t < ns
  · rw [if_pos h, if_neg (by decide), if_pos h, cFin (by omega), sHas0 (by omega), sHas2 (by omega)]
    by_cases hf : sy (5 * t + 3) = 1
    · rw [if_pos hf, if_neg (by decide), if_pos hf]
    · rw [if_neg hf, if_pos rfl, if_neg hf, sPut2 (by omega), sPut3 (by omega)]
  · rw [if_neg h, if_pos rfl, if_neg h]
/-- a saying's day -/
def clampS (x : Int32) : Int32 := if 0 < minS x 99 then minS x 99 else 0
def blurStep (dy : Int32) (sy : Nat → Int32) (k : Nat) : Nat → Int32 :=
  if sy (5 * k + 3) = 1 then sy else upd (upd sy (5 * k + 2) (clampS (sy (5 * k + 2) + fX1_blurs (sy (5 * k)) dy))) (5 * k + 4) (minS (sy (5 * k + 4) + 1) 9999)
def blR (dy : Int32) : Nat → Nat → (Nat → Int32) → (Nat → Int32)
  | 0, _, sy => sy
  | c + 1, k, sy => blR dy c (k + 1) (blurStep dy sy k)
theorem cBlur {sy : Nat → Int32} {k : Nat} (dy : Int32) (hk : k < 8) (hf : ¬ sy (5 * k + 3) = 1) : fX0_blur sy dy (nI k) = blurStep dy sy k := by
  unfold fX0_blur blurStep
  rw [if_neg hf, sPut4 hk, sPut2 hk, sHas4 hk, sHas2 hk, sHas0 hk, updN (show 5 * k + 4 ≠ 5 * k + 2 by omega)]
  rfl
theorem cBlurs {ns : Nat} (hns : ns ≤ 8) (dy : Int32) (k : (Nat → Int32) → Option ((Nat → Int32) × (Nat → Int32) × Int32)) : ∀ (n c i : Nat) (sy : Nat → Int32), i + c = ns → c < n → fX0_passDays_65 k (nI ns) dy n (nI i) sy = k (blR dy c i sy) := by
  intro n
  induction n with
  | zero => intro c v sh h1 h2; omega
  | succ n ih =>
    intro c i sy h1 h2
    rw [fX0_passDays_65]
    cases c with
    | zero =>
      obtain rfl : i = ns := by omega
      rw [if_pos (nI_le (Nat.le_refl _) (by omega))]
      rfl
    | succ c =>
      rw [if_neg (nI_ge (show i < ns by omega) (by omega)), nI_1, blR, cFin (by omega)]
      by_cases hf : sy (5 * i + 3) = 1
      · rw [if_pos hf, if_neg (by decide), show blurStep dy sy i = sy from if_pos hf]
        exact ih c (i + 1) sy (by omega) (by omega)
      · rw [if_neg hf, if_pos rfl, cBlur dy (by omega) hf]
        exact ih c (i + 1) _ (by omega) (by omega)
/-- a day of the sayings: pl tells t -/
def daySy (ns t : Nat) (dy : Int32) (sy : Nat → Int32) : Nat → Int32 := blR dy ns 0 (finS sy ns t)
/-- days that go by: the list's places pl, the days from d on -/
def goS (mk : Nat → Bool) (pl : Nat → Int32) (ns nv : Nat) : Nat → Nat → (Nat → Int32) → (Nat → Int32) → (Nat → Int32) × (Nat → Int32) × Int32
  | 0, d, sy, sh => (sy, sh, nI d)
  | n + 1, d, sy, sh => goS mk pl ns nv n (min (d + 1) 99999) (daySy ns (pl (d % 6)).toNatClampNeg (nI d) sy) (shR mk sy ns nv 0 sh)
theorem dayUp {d : Nat} (hd : d ≤ 99999) : (if (nI d + 1) < 99999 then nI d + 1 else 99999) = nI (min (d + 1) 99999) := by
  rw [nI_1]
  by_cases h : d + 1 < 99999
  · rw [if_pos (show nI (d + 1) < (99999 : Int32) from nI_lt (b := 99999) h (by decide)), Nat.min_eq_left (by omega)]
  · rw [if_neg (show ¬ nI (d + 1) < (99999 : Int32) from nI_nlt (b := 99999) (by omega) (by omega)), Nat.min_eq_right (by omega)]
    rfl
theorem cPlace {pl : Nat → Int32} {d : Nat} (hd : d ≤ 99999) : fX0_placeAt pl (fX0_placeOfDay (nI d)) = pl (d % 6) := by
  unfold fX0_placeAt fX0_placeOfDay
  rw [show (6 : Int32) = nI 6 from rfl, pk_rem (by omega) (by decide) (by decide), num_at (by omega) (by decide)]
theorem nClamp {x : Int32} {n : Nat} (h : ∃ k, k ≤ n ∧ x = nI k) (hn : n < 2 ^ 31) : x = nI x.toNatClampNeg ∧ x.toNatClampNeg ≤ n := by
  obtain ⟨k, h1, rfl⟩ := h
  rw [nI_clamp (by omega)]
  exact ⟨rfl, h1⟩
theorem cGo {pl : Nat → Int32} {ns nv F N : Nat} (hns : ns ≤ 8) (hnv : nv ≤ 6) (hF : 8 < F) (hpl : ∀ i, i < 6 → ∃ k, k ≤ 8 ∧ pl i = nI k) (hN : N < 2 ^ 30) (mv : Int32) : ∀ (n c i d : Nat) (sy sh : Nat → Int32), i + c = N → c < n → d ≤ 99999 → fX0_passDays_2 F pl (nI ns) (nI nv) (nI N) mv n (nI i) sy sh (nI d) = some (goS (mkB mv) pl ns nv c d sy sh) := by
  intro n
  induction n with
  | zero => intro c i d sy sh h1 h2; omega
  | succ n ih =>
    intro c i d sy sh h1 h2 hd
    rw [fX0_passDays_2]
    cases c with
    | zero =>
      obtain rfl : i = N := by omega
      rw [if_pos (nI_le (Nat.le_refl _) (by omega))]
      rfl
    | succ c =>
      rw [if_neg (nI_ge (show i < N by omega) (by omega)), show (0 : Int32) = nI 0 from rfl, cShips hns hnv hF mv _ F nv 0 sh (by omega) (by omega), cBlurs hns (nI d) _ F ns 0 _ (by omega) (by omega), nI_1, dayUp hd, cPlace hd, goS]
      have hq := nClamp (hpl (d % 6) (by omega)) (by decide)
      rw [show fX0_finishByList sy (nI ns) (pl (d % 6)) = finS sy ns (pl (d % 6)).toNatClampNeg from by
        rw [← cFinish hns (by omega), ← hq.1]]
      exact ih c (i + 1) _ _ _ (by omega) (by omega) (by omega)
theorem cPass {pl sy sh : Nat → Int32} {ns nv F N d : Nat} (hns : ns ≤ 8) (hnv : nv ≤ 6) (hF : 8 < F) (hpl : ∀ i, i < 6 → ∃ k, k ≤ 8 ∧ pl i = nI k) (hN : N < F) (hN2 : N < 2 ^ 30) (mv : Int32) (hd : d ≤ 99999) : fX0_passDays F pl sy sh (nI ns) (nI nv) (nI d) (nI N) mv = some (goS (mkB mv) pl ns nv N d sy sh) := cGo hns hnv hF hpl hN2 mv F N 0 d sy sh (by omega) hN hd
