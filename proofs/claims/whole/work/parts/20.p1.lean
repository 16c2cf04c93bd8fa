/-! PURE, first part: reading and writing by places; kinds; how thick it is -/
theorem li (n : Nat) : (OfNat.ofNat n : Int32) = nI n := rfl
theorem nI_nlt0 {n : Nat} (h : n < 2 ^ 31) : ¬ nI n < 0 := nI_pos h
theorem num_at {n : Nat} {f : Nat → Int32} {i : Nat} (h : i < n) (hn : n < 2 ^ 31) : fX4_numberAt n f (nI i) = f i := by
  unfold fX4_numberAt
  rw [if_neg (nI_nlt0 (by omega)), if_neg (show ¬ Int32.ofNat n ≤ nI i from nI_ge h hn), nI_clamp (by omega)]
theorem put_at {n : Nat} {f : Nat → Int32} {i : Nat} {v : Int32} (h : i < n) (hn : n < 2 ^ 31) : fX4_putAt n f (nI i) v = upd f i v := by
  unfold fX4_putAt
  rw [if_neg (nI_nlt0 (by omega)), if_neg (show ¬ Int32.ofNat n ≤ nI i from nI_ge h hn), nI_clamp (by omega)]
theorem ix5 (k f : Nat) : (nI k * 5) + nI f = nI (5 * k + f) := by
  rw [li 5, pk_mul, nI_add, Nat.mul_comm]
theorem ix4 (k f : Nat) : (nI k * 4) + nI f = nI (4 * k + f) := by
  rw [li 4, pk_mul, nI_add, Nat.mul_comm]
theorem has_at {sy : Nat → Int32} {k f : Nat} (hk : k < 8) (hf : f < 5) : fX0_sayingHas sy (nI k) (nI f) = sy (5 * k + f) := by
  unfold fX0_sayingHas
  rw [ix5, if_neg (nI_nlt0 (by omega)), if_neg (show ¬ (40 : Int32) ≤ nI (5 * k + f) from nI_ge (b := 40) (by omega) (by decide)), nI_clamp (by omega)]
theorem sHas0 {sy : Nat → Int32} {k : Nat} (hk : k < 8) : fX0_sayingHas sy (nI k) 0 = sy (5 * k) := has_at (f := 0) hk (by decide)
theorem sHas1 {sy : Nat → Int32} {k : Nat} (hk : k < 8) : fX0_sayingHas sy (nI k) 1 = sy (5 * k + 1) := has_at (f := 1) hk (by decide)
theorem sHas2 {sy : Nat → Int32} {k : Nat} (hk : k < 8) : fX0_sayingHas sy (nI k) 2 = sy (5 * k + 2) := has_at (f := 2) hk (by decide)
theorem sHas3 {sy : Nat → Int32} {k : Nat} (hk : k < 8) : fX0_sayingHas sy (nI k) 3 = sy (5 * k + 3) := has_at (f := 3) hk (by decide)
theorem sHas4 {sy : Nat → Int32} {k : Nat} (hk : k < 8) : fX0_sayingHas sy (nI k) 4 = sy (5 * k + 4) := has_at (f := 4) hk (by decide)
theorem sPut {sy : Nat → Int32} {k f : Nat} {v : Int32} (hk : k < 8) (hf : f < 5) : fX0_setOfSaying sy (nI k) (nI f) v = upd sy (5 * k + f) v := by
  unfold fX0_setOfSaying
  rw [ix5, put_at (by omega) (by decide)]
theorem hHas {sh : Nat → Int32} {k f : Nat} (hk : k < 6) (hf : f < 4) : fX0_shipHas sh (nI k) (nI f) = sh (4 * k + f) := by
  unfold fX0_shipHas
  rw [ix4, num_at (by omega) (by decide)]
theorem hPut {sh : Nat → Int32} {k f : Nat} {v : Int32} (hk : k < 6) (hf : f < 4) : fX0_setOfShip sh (nI k) (nI f) v = upd sh (4 * k + f) v := by
  unfold fX0_setOfShip
  rw [ix4, put_at (by omega) (by decide)]
/-! the reference's row -/
theorem in84 {m : Nat} (h : m < 84) : ¬ (nI m < 0 ∨ 84 ≤ (nI m).toNatClampNeg) := nI_in h (by decide)
theorem at5 (k f : Nat) : fX5_sayingAt (nI k) (nI f) = nI (20 + 5 * k + f) := by
  unfold fX5_sayingAt
  rw [li 20, li 5, pk_mul, nI_add, nI_add]
theorem at4 (k f : Nat) : fX5_shipAt (nI k) (nI f) = nI (60 + 4 * k + f) := by
  unfold fX5_shipAt
  rw [li 60, li 4, pk_mul, nI_add, nI_add]
theorem mIs {nw : Nat → Int32} {k f : Nat} (hk : k < 8) (hf : f < 5) : fX5_sayingIs nw (nI k) (nI f) = some (nw (20 + 5 * k + f)) := by
  unfold fX5_sayingIs
  rw [at5, if_pos (in84 (by omega)), nI_clamp (by omega)]
theorem mShip {nw : Nat → Int32} {k f : Nat} (hk : k < 6) (hf : f < 4) : fX5_shipIs nw (nI k) (nI f) = some (nw (60 + 4 * k + f)) := by
  unfold fX5_shipIs
  rw [at4, if_pos (in84 (by omega)), nI_clamp (by omega)]
theorem mMore {nw : Nat → Int32} {m : Nat} {b h : Int32} (hm : m < 84) : fX5_more nw (nI m) b h = some (upd nw m (if (nw m) + b < h then (nw m) + b else h)) := by
  unfold fX5_more
  rw [if_pos (in84 hm), if_pos (in84 hm), nI_clamp (by omega)]
theorem mBecome {nw : Nat → Int32} {m : Nat} {v : Int32} (hm : m < 84) : fX5_become nw (nI m) v = some (nw m, upd nw m v) := by
  unfold fX5_become
  rw [if_pos (in84 hm), if_pos (in84 hm), nI_clamp (by omega)]
/-- the class's estuary and the reference's row hold the same -/
def Row (nw pl sp sy sh : Nat → Int32) (sc nc dy zz : Int32) : Prop :=
  nw 0 = dy ∧ nw 1 = sc ∧ nw 2 = zz ∧ nw 3 = nc ∧ (∀ i, i < 6 → nw (4 + i) = pl i) ∧ (∀ i, i < 10 → nw (10 + i) = sp i) ∧ (∀ i, i < 40 → nw (20 + i) = sy i) ∧ (∀ i, i < 24 → nw (60 + i) = sh i)
/-- what the sayings alone are of it -/
def RowS (nw sy : Nat → Int32) : Prop := ∀ i, i < 40 → nw (20 + i) = sy i
theorem RowS.is {nw sy : Nat → Int32} (R : RowS nw sy) {k f : Nat} (hk : k < 8) (hf : f < 5) : fX5_sayingIs nw (nI k) (nI f) = some (sy (5 * k + f)) := by
  rw [mIs hk hf, Nat.add_assoc, R _ (by omega)]
theorem RowS.is0 {nw sy : Nat → Int32} (R : RowS nw sy) {k : Nat} (hk : k < 8) : fX5_sayingIs nw (nI k) 0 = some (sy (5 * k)) := R.is (f := 0) hk (by decide)
theorem RowS.is1 {nw sy : Nat → Int32} (R : RowS nw sy) {k : Nat} (hk : k < 8) : fX5_sayingIs nw (nI k) 1 = some (sy (5 * k + 1)) := R.is (f := 1) hk (by decide)
theorem RowS.is2 {nw sy : Nat → Int32} (R : RowS nw sy) {k : Nat} (hk : k < 8) : fX5_sayingIs nw (nI k) 2 = some (sy (5 * k + 2)) := R.is (f := 2) hk (by decide)
theorem RowS.is3 {nw sy : Nat → Int32} (R : RowS nw sy) {k : Nat} (hk : k < 8) : fX5_sayingIs nw (nI k) 3 = some (sy (5 * k + 3)) := R.is (f := 3) hk (by decide)
theorem RowS.is4 {nw sy : Nat → Int32} (R : RowS nw sy) {k : Nat} (hk : k < 8) : fX5_sayingIs nw (nI k) 4 = some (sy (5 * k + 4)) := R.is (f := 4) hk (by decide)
/-! kinds -/
theorem oSome {α β : Type} (a : α) (f : α → Option β) : Option.bind (some a) f = f a := rfl
theorem iteS {α : Type} {c : Prop} [Decidable c] (a b : α) : (if c then some a else some b) = some (if c then a else b) := by split <;> rfl
theorem mThickens {nw sy : Nat → Int32} (R : RowS nw sy) {k : Nat} (hk : k < 8) : fX5_thickens nw (nI k) = some (fX1_thickens (sy (5 * k)) (sy (5 * k + 2)) (sy (5 * k + 4))) := by
  unfold fX5_thickens fX1_thickens
  rw [R.is2 hk, oSome, R.is4 hk, oSome, R.is0 hk, oSome]
  (repeat' split) <;> rfl
theorem mReaches {nw sy : Nat → Int32} (R : RowS nw sy) {k : Nat} (hk : k < 8) : fX5_reaches nw (nI k) = some (fX1_reaches (sy (5 * k))) := by
  unfold fX5_reaches fX1_reaches
  rw [R.is0 hk, oSome]
  (repeat' split) <;> rfl
theorem mResists {nw sy : Nat → Int32} (R : RowS nw sy) {k : Nat} (hk : k < 8) : fX5_resists nw (nI k) = some (fX1_resists (sy (5 * k))) := by
  unfold fX5_resists fX1_resists
  rw [R.is0 hk, oSome]
  (repeat' split) <;> rfl
theorem mBlurs {nw sy : Nat → Int32} (R : RowS nw sy) {k : Nat} (hk : k < 8) : fX5_blurs nw (nI k) = some (fX1_blurs (sy (5 * k)) (nw 0)) := by
  unfold fX5_blurs fX1_blurs
  rw [R.is0 hk]
  simp only [oSome]
  (repeat' split) <;> rfl
/-! how thick -/
def shareS (sy : Nat → Int32) (c : Int32) (k : Nat) : Int32 := if sy (5 * k + 3) = 1 then 0 else fX0_shareAt sy (nI k) c
def sumS (sy : Nat → Int32) (c : Int32) : Nat → Int32
  | 0 => 0
  | k + 1 => sumS sy c k + shareS sy c k
def thickS (sy : Nat → Int32) (ns : Nat) (c : Int32) : Int32 := if 0 < sumS sy c ns then sumS sy c ns else 0
theorem cFin {sy : Nat → Int32} {k : Nat} (hk : k < 8) : fX0_isFinished sy (nI k) = (if sy (5 * k + 3) = 1 then 1 else 0) := by
  unfold fX0_isFinished
  rw [sHas3 hk]
theorem cThickL {sy : Nat → Int32} {ns : Nat} (hns : ns ≤ 8) (c : Int32) : ∀ (n k : Nat), k ≤ ns → ns < k + n → fX0_thickAt_4 sy (nI ns) c n (sumS sy c k) (nI k) = some (thickS sy ns c) := by
  intro n
  induction n with
  | zero => intro k h1 h2; omega
  | succ n ih =>
    intro k h1 h2
    rw [fX0_thickAt_4]
    by_cases hk : k = ns
    · subst hk
      rw [if_pos (nI_le (Nat.le_refl _) (by omega))]
      rfl
    · have hlt : k < ns := by omega
      rw [if_neg (nI_ge hlt (by omega)), cFin (by omega), nI_1]
      by_cases hf : sy (5 * k + 3) = 1
      · rw [if_pos hf, if_neg (by decide)]
        have e : sumS sy c (k + 1) = sumS sy c k := by rw [sumS, shareS, if_pos hf]; exact Int32.add_zero _
        rw [← e]
        exact ih (k + 1) (by omega) (by omega)
      · rw [if_neg hf, if_pos rfl]
        have e : sumS sy c k + fX0_shareAt sy (nI k) c = sumS sy c (k + 1) := by rw [sumS, shareS, if_neg hf]
        rw [e]
        exact ih (k + 1) (by omega) (by omega)
theorem cThick {sy : Nat → Int32} {ns F : Nat} (hns : ns ≤ 8) (hF : 8 < F) (c : Int32) : fX0_thickAt F sy (nI ns) c = some (thickS sy ns c) := cThickL hns c F 0 (Nat.zero_le _) (by omega)
def abS (x : Int32) : Int32 := if 0 ≤ x then x else 0 - x
theorem abS_e (x : Int32) : (if 0 ≤ x then x else 0 - x) = abS x := rfl
theorem cShare {sy : Nat → Int32} {k : Nat} (hk : k < 8) (c : Int32) : fX0_shareAt sy (nI k) c = if abS (c - sy (5 * k + 1)) ≤ fX1_reaches (sy (5 * k)) then fX1_thickens (sy (5 * k)) (sy (5 * k + 2)) (sy (5 * k + 4)) - abS (c - sy (5 * k + 1)) * fX1_fades (sy (5 * k)) (fX1_thickens (sy (5 * k)) (sy (5 * k + 2)) (sy (5 * k + 4))) else 0 := by
  unfold fX0_shareAt
  rw [sHas0 hk, sHas1 hk, sHas2 hk, sHas4 hk]
  rfl
theorem mThickL {nw sy : Nat → Int32} {ns : Nat} (R : RowS nw sy) (h1 : nw 1 = nI ns) (hns : ns ≤ 8) (hf : ∀ k, k < ns → sy (5 * k + 3) = 0 ∨ sy (5 * k + 3) = 1) (c : Int32) : ∀ (n k : Nat), k ≤ ns → ns < k + n → fX5_thickAt_4 nw c n (sumS sy c k) (nI k) = some (thickS sy ns c) := by
  intro n
  induction n with
  | zero => intro k h1 h2; omega
  | succ n ih =>
    intro k h2 h3
    rw [fX5_thickAt_4, h1]
    by_cases hk : k = ns
    · subst hk
      rw [if_pos (nI_le (Nat.le_refl _) (by omega))]
      rfl
    · have hlt : k < ns := by omega
      have hk8 : k < 8 := by omega
      rw [if_neg (nI_ge hlt (by omega)), R.is1 hk8, oSome, R.is3 hk8, oSome, nI_1]
      rcases hf k hlt with h0 | h0
      · rw [h0, if_pos rfl, mReaches R hk8, oSome]
        rw [abS_e]
        have e : sumS sy c (k + 1) = sumS sy c k + fX0_shareAt sy (nI k) c := by rw [sumS, shareS, if_neg (by rw [h0]; decide)]
        rw [cShare hk8] at e
        by_cases ha : abS (c - sy (5 * k + 1)) ≤ fX1_reaches (sy (5 * k))
        · rw [if_pos ha] at e
          rw [if_neg (show ¬ fX1_reaches (sy (5 * k)) < abS (c - sy (5 * k + 1)) from Int32.not_lt.mpr ha), mThickens R hk8, oSome, R.is0 hk8, oSome]
          by_cases h5 : sy (5 * k) = 5
          · rw [if_pos h5]
            rw [fX1_fades, if_pos h5] at e
            exact e ▸ ih (k + 1) (by omega) (by omega)
          · rw [if_neg h5]
            rw [fX1_fades, if_neg h5] at e
            exact e ▸ ih (k + 1) (by omega) (by omega)
        · rw [if_neg ha] at e
          rw [if_pos (show fX1_reaches (sy (5 * k)) < abS (c - sy (5 * k + 1)) from Int32.not_le.mp ha)]
          have e2 : sumS sy c (k + 1) = sumS sy c k := by rw [e]; exact Int32.add_zero _
          rw [← e2]
          exact ih (k + 1) (by omega) (by omega)
      · rw [h0, if_neg (by decide)]
        have e : sumS sy c (k + 1) = sumS sy c k := by rw [sumS, shareS, if_pos h0]; exact Int32.add_zero _
        rw [← e]
        exact ih (k + 1) (by omega) (by omega)
theorem mThick {nw sy : Nat → Int32} {ns F : Nat} (R : RowS nw sy) (h1 : nw 1 = nI ns) (hns : ns ≤ 8) (hf : ∀ k, k < ns → sy (5 * k + 3) = 0 ∨ sy (5 * k + 3) = 1) (hF : 8 < F) (c : Int32) : fX5_thickAt F nw c = some (thickS sy ns c) := mThickL R h1 hns hf c F 0 (Nat.zero_le _) (by omega)
