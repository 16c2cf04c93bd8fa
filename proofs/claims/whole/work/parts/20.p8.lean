/-! PURE, eighth part: rows copied; what is told of all -/
theorem mCopyL {ra : Nat → Int32} : ∀ (n k : Nat) (rb : Nat → Int32), k ≤ 84 → 84 < k + n → ∃ r, fX5_copyRow_2 ra n (nI k) rb = some r ∧ ∀ i, i < 84 → r i = if k ≤ i then ra i else rb i := by
  intro n
  induction n with
  | zero => intro k rb h1 h2; omega
  | succ n ih =>
    intro k rb h1 h2
    rw [fX5_copyRow_2]
    by_cases hk : k = 84
    · subst hk
      rw [if_pos (show (84 : Int32) ≤ nI 84 from nI_le (a := 84) (Nat.le_refl _) (by omega))]
      exact ⟨rb, rfl, fun i hi => (if_neg (by omega)).symm⟩
    · have hlt : k < 84 := by omega
      rw [if_neg (show ¬ (84 : Int32) ≤ nI k from nI_ge (b := 84) hlt (by omega)), if_pos (in84 hlt), if_pos (in84 hlt), nI_1, nI_clamp (by omega)]
      obtain ⟨r, g1, g2⟩ := ih (k + 1) (upd rb k (ra k)) (by omega) (by omega)
      refine ⟨r, g1, fun i hi => ?_⟩
      rw [g2 i hi]
      by_cases e : i = k
      · subst e; rw [if_neg (by omega), updS, if_pos (Nat.le_refl _)]
      · rw [updN e]
        by_cases e2 : k ≤ i
        · rw [if_pos (show k + 1 ≤ i by omega), if_pos e2]
        · rw [if_neg (show ¬ k + 1 ≤ i by omega), if_neg e2]
theorem mCopy {F : Nat} (hF : 84 < F) (ra rb : Nat → Int32) : ∃ r, fX5_copyRow F ra rb = some r ∧ ∀ i, i < 84 → r i = ra i := by
  obtain ⟨r, g1, g2⟩ := mCopyL (ra := ra) F 0 rb (by omega) (by omega)
  exact ⟨r, g1, fun i hi => (g2 i hi).trans (if_pos (Nat.zero_le _))⟩
theorem mBack {F : Nat} (hF : 84 < F) (nw ad : Nat → Int32) (v : Int32) : ∃ r, fX5_putBack F nw ad v = some (v, r) ∧ ∀ i, i < 84 → r i = ad i := by
  obtain ⟨r, g1, g2⟩ := mCopy hF ad nw
  exact ⟨r, by unfold fX5_putBack; rw [g1, oSome], g2⟩
theorem RW.row {nw nw' pl sp sy sh : Nat → Int32} {ns nv d : Nat} {zz : Int32} (R : RW nw pl sp sy sh ns nv d zz) (h : ∀ i, i < 84 → nw' i = nw i) : RW nw' pl sp sy sh ns nv d zz := by
  obtain ⟨r0, r1, r2, r3, rp, rs, rS, rH⟩ := R
  exact ⟨(h 0 (by omega)).trans r0, (h 1 (by omega)).trans r1, (h 2 (by omega)).trans r2, (h 3 (by omega)).trans r3, fun i hi => (h _ (by omega)).trans (rp i hi), fun i hi => (h _ (by omega)).trans (rs i hi), fun i hi => (h _ (by omega)).trans (rS i hi), fun i hi => (h _ (by omega)).trans (rH i hi)⟩
theorem cpy_at {f g : Nat → Int32} {n i : Nat} (h : i < n) : va_cpy f g 0 0 n i = f i := by
  rw [pk_cpy_in (by omega) (by omega), show 0 + (i - 0) = i by omega]
theorem RW.tr {nw pl sp sy sh tl tp ty th : Nat → Int32} {ns nv d : Nat} {zz : Int32} (R : RW nw pl sp sy sh ns nv d zz) : RW nw (va_cpy pl tl 0 0 6) (va_cpy sp tp 0 0 10) (va_cpy sy ty 0 0 40) (va_cpy sh th 0 0 24) ns nv d zz := by
  obtain ⟨r0, r1, r2, r3, rp, rs, rS, rH⟩ := R
  exact ⟨r0, r1, r2, r3, fun i hi => (rp i hi).trans (cpy_at hi).symm, fun i hi => (rs i hi).trans (cpy_at hi).symm, fun i hi => (rS i hi).trans (cpy_at hi).symm, fun i hi => (rH i hi).trans (cpy_at hi).symm⟩
theorem EI.tr {pl sp sy sh tl tp ty th : Nat → Int32} {ns nv d : Nat} (h : EI pl sp sy sh ns nv d) : EI (va_cpy pl tl 0 0 6) (va_cpy sp tp 0 0 10) (va_cpy sy ty 0 0 40) (va_cpy sh th 0 0 24) ns nv d := by
  obtain ⟨h1, h2, h3, h4, h5, h6, h7⟩ := h
  refine ⟨h1, h2, h3, fun i hi => by rw [cpy_at hi]; exact h4 i hi, fun i hi => by rw [cpy_at hi]; exact h5 i hi, fun k hk => ?_, fun v hv => ?_⟩
  · unfold SayOK
    rw [cpy_at (by omega), cpy_at (by omega), cpy_at (by omega), cpy_at (by omega), cpy_at (by omega)]
    exact h6 k hk
  · unfold ShipOK
    rw [cpy_at (by omega), cpy_at (by omega), cpy_at (by omega), cpy_at (by omega)]
    exact h7 v hv
/-! sets by bits -/
def bitS (p : Nat → Bool) : Nat → Int32
  | 0 => 0
  | k + 1 => if p k = true then bitS p k ||| (1 <<< (nI k &&& 31)) else bitS p k
theorem or0 (x : Int32) : x ||| 0 = x := Int32.or_zero
def inP (sh : Nat → Int32) (k : Nat) : Bool := decide (sh (4 * k) = 15)
def isF (sy : Nat → Int32) (k : Nat) : Bool := decide (sy (5 * k + 3) = 1)
theorem cInP {sh : Nat → Int32} {k : Nat} (hk : k < 6) : fX0_isInPort sh (nI k) = if inP sh k = true then 1 else 0 := by
  unfold fX0_isInPort inP
  rw [hHas0 hk]
  by_cases h : sh (4 * k) = 15
  · rw [if_pos h, if_pos (decide_eq_true h)]
  · rw [if_neg h, if_neg (fun q => h (of_decide_eq_true q))]
theorem mInP {nw sh : Nat → Int32} {k : Nat} (R : RowH nw sh) (hk : k < 6) : fX5_isInPort nw (nI k) = some (if inP sh k = true then 1 else 0) := by
  unfold fX5_isInPort inP
  rw [R.is0 hk, oSome]
  by_cases h : sh (4 * k) = 15
  · rw [if_pos h, if_pos (decide_eq_true h)]
  · rw [if_neg h, if_neg (fun q => h (of_decide_eq_true q))]
theorem cPortL {sh : Nat → Int32} {nv : Nat} (hnv : nv ≤ 6) : ∀ (n k : Nat), k ≤ nv → nv < k + n → fX0_shipsInPort_4 sh (nI nv) n (bitS (inP sh) k) (nI k) = some (bitS (inP sh) nv) := by
  intro n
  induction n with
  | zero => intro k h1 h2; omega
  | succ n ih =>
    intro k h1 h2
    rw [fX0_shipsInPort_4]
    by_cases hk : k = nv
    · subst hk; rw [if_pos (nI_le (Nat.le_refl _) (by omega))]
    · rw [if_neg (nI_ge (show k < nv by omega) (by omega)), cInP (by omega), nI_1]
      by_cases h : inP sh k = true
      · rw [if_pos h, if_neg (by decide)]
        have e : bitS (inP sh) (k + 1) = bitS (inP sh) k ||| (1 <<< (nI k &&& 31)) := if_pos h
        rw [← e]; exact ih (k + 1) (by omega) (by omega)
      · rw [if_neg h, if_pos rfl]
        have e : bitS (inP sh) (k + 1) = bitS (inP sh) k := if_neg h
        rw [← e]; exact ih (k + 1) (by omega) (by omega)
theorem cPorts {sh : Nat → Int32} {nv F : Nat} (hnv : nv ≤ 6) (hF : 8 < F) : fX0_shipsInPort F sh (nI nv) = some (bitS (inP sh) nv) := cPortL hnv F 0 (Nat.zero_le _) (by omega)
theorem mPortL {nw sh : Nat → Int32} {nv : Nat} (R : RowH nw sh) (e3 : nw 3 = nI nv) (hnv : nv ≤ 6) : ∀ (n k : Nat), k ≤ nv → nv < k + n → fX5_inPort_4 nw n (bitS (inP sh) k) (nI k) = some (bitS (inP sh) nv) := by
  intro n
  induction n with
  | zero => intro k h1 h2; omega
  | succ n ih =>
    intro k h1 h2
    rw [fX5_inPort_4, e3]
    by_cases hk : k = nv
    · subst hk; rw [if_pos (nI_le (Nat.le_refl _) (by omega))]
    · rw [if_neg (nI_ge (show k < nv by omega) (by omega)), mInP R (by omega), oSome, nI_1]
      by_cases h : inP sh k = true
      · rw [if_pos h, if_neg (by decide)]
        have e : bitS (inP sh) (k + 1) = bitS (inP sh) k ||| (1 <<< (nI k &&& 31)) := if_pos h
        rw [← e]; exact ih (k + 1) (by omega) (by omega)
      · rw [if_neg h, if_pos rfl, or0]
        have e : bitS (inP sh) (k + 1) = bitS (inP sh) k := if_neg h
        rw [← e]; exact ih (k + 1) (by omega) (by omega)
theorem mPorts {nw sh : Nat → Int32} {nv F : Nat} (R : RowH nw sh) (e3 : nw 3 = nI nv) (hnv : nv ≤ 6) (hF : 8 < F) : fX5_inPort F nw = some (bitS (inP sh) nv) := mPortL R e3 hnv F 0 (Nat.zero_le _) (by omega)
theorem cFinBL {sy : Nat → Int32} {ns : Nat} (hns : ns ≤ 8) : ∀ (n k : Nat), k ≤ ns → ns < k + n → fX0_finishedSayings_4 sy (nI ns) n (bitS (isF sy) k) (nI k) = some (bitS (isF sy) ns) := by
  intro n
  induction n with
  | zero => intro k h1 h2; omega
  | succ n ih =>
    intro k h1 h2
    rw [fX0_finishedSayings_4]
    by_cases hk : k = ns
    · subst hk; rw [if_pos (nI_le (Nat.le_refl _) (by omega))]
    · rw [if_neg (nI_ge (show k < ns by omega) (by omega)), cFin (by omega), nI_1]
      by_cases h : sy (5 * k + 3) = 1
      · rw [if_pos h, if_neg (by decide)]
        have e : bitS (isF sy) (k + 1) = bitS (isF sy) k ||| (1 <<< (nI k &&& 31)) := if_pos (decide_eq_true h)
        rw [← e]; exact ih (k + 1) (by omega) (by omega)
      · rw [if_neg h, if_pos rfl]
        have e : bitS (isF sy) (k + 1) = bitS (isF sy) k := if_neg (fun q => h (of_decide_eq_true q))
        rw [← e]; exact ih (k + 1) (by omega) (by omega)
theorem cFinB {sy : Nat → Int32} {ns F : Nat} (hns : ns ≤ 8) (hF : 8 < F) : fX0_finishedSayings F sy (nI ns) = some (bitS (isF sy) ns) := cFinBL hns F 0 (Nat.zero_le _) (by omega)
theorem shl0 {k : Nat} (hk : k < 8) : (0 : Int32) <<< (nI k &&& 31) = 0 := by
  rcases (show k = 0 ∨ k = 1 ∨ k = 2 ∨ k = 3 ∨ k = 4 ∨ k = 5 ∨ k = 6 ∨ k = 7 by omega) with rfl | rfl | rfl | rfl | rfl | rfl | rfl | rfl <;> decide
theorem mFinBL {nw sy : Nat → Int32} {ns : Nat} (R : RowS nw sy) (e1 : nw 1 = nI ns) (hf : FinOK sy ns) (hns : ns ≤ 8) : ∀ (n k : Nat), k ≤ ns → ns < k + n → fX5_finishedOnes_4 nw n (bitS (isF sy) k) (nI k) = some (bitS (isF sy) ns) := by
  intro n
  induction n with
  | zero => intro k h1 h2; omega
  | succ n ih =>
    intro k h1 h2
    rw [fX5_finishedOnes_4, e1]
    by_cases hk : k = ns
    · subst hk; rw [if_pos (nI_le (Nat.le_refl _) (by omega))]
    · rw [if_neg (nI_ge (show k < ns by omega) (by omega)), R.is3 (by omega), oSome, nI_1]
      rcases hf k (by omega) with h | h
      · rw [h, shl0 (by omega), or0]
        have e : bitS (isF sy) (k + 1) = bitS (isF sy) k := if_neg (fun q => absurd (h.symm.trans (of_decide_eq_true q)) (by decide))
        rw [← e]; exact ih (k + 1) (by omega) (by omega)
      · rw [h]
        have e : bitS (isF sy) (k + 1) = bitS (isF sy) k ||| (1 <<< (nI k &&& 31)) := if_pos (decide_eq_true h)
        rw [← e]; exact ih (k + 1) (by omega) (by omega)
theorem mFinB {nw sy : Nat → Int32} {ns F : Nat} (R : RowS nw sy) (e1 : nw 1 = nI ns) (hf : FinOK sy ns) (hns : ns ≤ 8) (hF : 8 < F) : fX5_finishedOnes F nw = some (bitS (isF sy) ns) := mFinBL R e1 hf hns F 0 (Nat.zero_le _) (by omega)
/-! sums -/
def vagS (sy : Nat → Int32) : Nat → Int32
  | 0 => 0
  | k + 1 => if sy (5 * k + 3) = 1 then vagS sy k else vagS sy k + sy (5 * k + 2)
def waiS (sh : Nat → Int32) : Nat → Int32
  | 0 => 0
  | k + 1 => waiS sh k + sh (4 * k + 3)
theorem cVagL {sy : Nat → Int32} {ns : Nat} (hns : ns ≤ 8) : ∀ (n k : Nat), k ≤ ns → ns < k + n → fX0_vagueTogether_4 sy (nI ns) n (vagS sy k) (nI k) = some (vagS sy ns) := by
  intro n
  induction n with
  | zero => intro k h1 h2; omega
  | succ n ih =>
    intro k h1 h2
    rw [fX0_vagueTogether_4]
    by_cases hk : k = ns
    · subst hk; rw [if_pos (nI_le (Nat.le_refl _) (by omega))]
    · rw [if_neg (nI_ge (show k < ns by omega) (by omega)), cFin (by omega), sHas2 (by omega), nI_1]
      by_cases h : sy (5 * k + 3) = 1
      · rw [if_pos h, if_neg (by decide)]
        have e : vagS sy (k + 1) = vagS sy k := if_pos h
        rw [← e]; exact ih (k + 1) (by omega) (by omega)
      · rw [if_neg h, if_pos rfl]
        have e : vagS sy (k + 1) = vagS sy k + sy (5 * k + 2) := if_neg h
        rw [← e]; exact ih (k + 1) (by omega) (by omega)
theorem cVag {sy : Nat → Int32} {ns F : Nat} (hns : ns ≤ 8) (hF : 8 < F) : fX0_vagueTogether F sy (nI ns) = some (vagS sy ns) := cVagL hns F 0 (Nat.zero_le _) (by omega)
theorem mVagL {nw sy : Nat → Int32} {ns : Nat} (R : RowS nw sy) (e1 : nw 1 = nI ns) (hns : ns ≤ 8) : ∀ (n k : Nat), k ≤ ns → ns < k + n → fX5_vagueInAll_4 nw n (vagS sy k) (nI k) = some (vagS sy ns) := by
  intro n
  induction n with
  | zero => intro k h1 h2; omega
  | succ n ih =>
    intro k h1 h2
    rw [fX5_vagueInAll_4, e1]
    by_cases hk : k = ns
    · subst hk; rw [if_pos (nI_le (Nat.le_refl _) (by omega))]
    · rw [if_neg (nI_ge (show k < ns by omega) (by omega)), R.is3 (by omega), oSome, R.is2 (by omega), oSome, nI_1]
      by_cases h : sy (5 * k + 3) = 1
      · rw [if_pos h, Int32.add_zero]
        have e : vagS sy (k + 1) = vagS sy k := if_pos h
        rw [← e]; exact ih (k + 1) (by omega) (by omega)
      · rw [if_neg h]
        have e : vagS sy (k + 1) = vagS sy k + sy (5 * k + 2) := if_neg h
        rw [← e]; exact ih (k + 1) (by omega) (by omega)
theorem mVag {nw sy : Nat → Int32} {ns F : Nat} (R : RowS nw sy) (e1 : nw 1 = nI ns) (hns : ns ≤ 8) (hF : 8 < F) : fX5_vagueInAll F nw = some (vagS sy ns) := mVagL R e1 hns F 0 (Nat.zero_le _) (by omega)
theorem cWaiL {sh : Nat → Int32} {nv : Nat} (hnv : nv ≤ 6) : ∀ (n k : Nat), k ≤ nv → nv < k + n → fX0_waitedTogether_4 sh (nI nv) n (waiS sh k) (nI k) = some (waiS sh nv) := by
  intro n
  induction n with
  | zero => intro k h1 h2; omega
  | succ n ih =>
    intro k h1 h2
    rw [fX0_waitedTogether_4]
    by_cases hk : k = nv
    · subst hk; rw [if_pos (nI_le (Nat.le_refl _) (by omega))]
    · rw [if_neg (nI_ge (show k < nv by omega) (by omega)), show fX0_shipHas sh (nI k) 3 = sh (4 * k + 3) from hHas (f := 3) (by omega) (by decide), nI_1]
      exact ih (k + 1) (by omega) (by omega)
theorem cWai {sh : Nat → Int32} {nv F : Nat} (hnv : nv ≤ 6) (hF : 8 < F) : fX0_waitedTogether F sh (nI nv) = some (waiS sh nv) := cWaiL hnv F 0 (Nat.zero_le _) (by omega)
theorem mWaiL {nw sh : Nat → Int32} {nv : Nat} (R : RowH nw sh) (e3 : nw 3 = nI nv) (hnv : nv ≤ 6) : ∀ (n k : Nat), k ≤ nv → nv < k + n → fX5_waitedInAll_4 nw n (waiS sh k) (nI k) = some (waiS sh nv) := by
  intro n
  induction n with
  | zero => intro k h1 h2; omega
  | succ n ih =>
    intro k h1 h2
    rw [fX5_waitedInAll_4, e3]
    by_cases hk : k = nv
    · subst hk; rw [if_pos (nI_le (Nat.le_refl _) (by omega))]
    · rw [if_neg (nI_ge (show k < nv by omega) (by omega)), show fX5_shipIs nw (nI k) 3 = some (sh (4 * k + 3)) from R.is (f := 3) (by omega) (by decide), oSome, nI_1]
      exact ih (k + 1) (by omega) (by omega)
theorem mWai {nw sh : Nat → Int32} {nv F : Nat} (R : RowH nw sh) (e3 : nw 3 = nI nv) (hnv : nv ≤ 6) (hF : 8 < F) : fX5_waitedInAll F nw = some (waiS sh nv) := mWaiL R e3 hnv F 0 (Nat.zero_le _) (by omega)
