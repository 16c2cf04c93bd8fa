/-! PURE, ninth part: cells; now, go, count, change, steer, as, status, image, undo -/
def amS (t : Nat → Int32) : Nat → Nat
  | 0 => 0
  | k + 1 => if t (k + 1) ≤ t (amS t k) then amS t k else k + 1
theorem amS_le (t : Nat → Int32) : ∀ k, amS t k ≤ k
  | 0 => Nat.le_refl _
  | k + 1 => by
    rw [amS]
    split
    · exact Nat.le_succ_of_le (amS_le t k)
    · exact Nat.le_refl _
def tC (sy : Nat → Int32) (ns : Nat) : Nat → Int32 := fun c => thickS sy ns (nI c)
theorem thickS_pos (sy : Nat → Int32) (ns : Nat) (c : Int32) : 0 ≤ thickS sy ns c := by
  unfold thickS
  split
  · next h => exact Int32.le_of_lt h
  · exact Int32.le_refl _
theorem cThkL {sy : Nat → Int32} {ns F : Nat} (hns : ns ≤ 8) (hF : 8 < F) : ∀ (n k : Nat), k ≤ 15 → 15 < k + n → fX0_thickestCell_6 F sy (nI ns) n (nI (amS (tC sy ns) k)) (tC sy ns (amS (tC sy ns) k)) (nI (k + 1)) = some (nI (amS (tC sy ns) 15)) := by
  intro n
  induction n with
  | zero => intro k h1 h2; omega
  | succ n ih =>
    intro k h1 h2
    rw [fX0_thickestCell_6]
    by_cases hk : k = 15
    · subst hk; rw [if_pos (show (16 : Int32) ≤ nI (15 + 1) from by decide)]
    · rw [if_neg (show ¬ (16 : Int32) ≤ nI (k + 1) from nI_ge (b := 16) (by omega) (by omega)), cThick hns hF, oSome, nI_1]
      by_cases h : tC sy ns (k + 1) ≤ tC sy ns (amS (tC sy ns) k)
      · rw [if_pos (show thickS sy ns (nI (k + 1)) ≤ tC sy ns (amS (tC sy ns) k) from h)]
        have e : amS (tC sy ns) (k + 1) = amS (tC sy ns) k := if_pos h
        rw [← e]; exact ih (k + 1) (by omega) (by omega)
      · rw [if_neg (show ¬ thickS sy ns (nI (k + 1)) ≤ tC sy ns (amS (tC sy ns) k) from h)]
        have e : amS (tC sy ns) (k + 1) = k + 1 := if_neg h
        have g := ih (k + 1) (by omega) (by omega)
        rw [e] at g
        exact g
theorem cThk {sy : Nat → Int32} {ns F : Nat} (hns : ns ≤ 8) (hF : 20 < F) : fX0_thickestCell F sy (nI ns) = some (nI (amS (tC sy ns) 15)) := by
  unfold fX0_thickestCell
  obtain ⟨n, rfl⟩ : ∃ n, F = n + 1 := ⟨F - 1, by omega⟩
  rw [fX0_thickestCell_6, if_neg (by decide), cThick hns (by omega), oSome, if_neg (fun q => absurd (Int32.le_trans (thickS_pos sy ns 0) q) (by decide))]
  exact cThkL hns (by omega) n 0 (by omega) (by omega)
theorem mThkL {nw sy : Nat → Int32} {ns F : Nat} (R : RowS nw sy) (e1 : nw 1 = nI ns) (hf : FinOK sy ns) (hns : ns ≤ 8) (hF : 8 < F) : ∀ (n k : Nat), k ≤ 15 → 15 < k + n → fX5_thickestCell_4 F nw n (nI (amS (tC sy ns) k)) (nI (k + 1)) = some (nI (amS (tC sy ns) 15)) := by
  intro n
  induction n with
  | zero => intro k h1 h2; omega
  | succ n ih =>
    intro k h1 h2
    rw [fX5_thickestCell_4]
    by_cases hk : k = 15
    · subst hk; rw [if_pos (show (16 : Int32) ≤ nI (15 + 1) from by decide)]
    · rw [if_neg (show ¬ (16 : Int32) ≤ nI (k + 1) from nI_ge (b := 16) (by omega) (by omega)), mThick R e1 hns hf hF, oSome, mThick R e1 hns hf hF, oSome, nI_1]
      by_cases h : tC sy ns (k + 1) ≤ tC sy ns (amS (tC sy ns) k)
      · rw [if_pos (show thickS sy ns (nI (k + 1)) ≤ thickS sy ns (nI (amS (tC sy ns) k)) from h)]
        have e : amS (tC sy ns) (k + 1) = amS (tC sy ns) k := if_pos h
        rw [← e]; exact ih (k + 1) (by omega) (by omega)
      · rw [if_neg (show ¬ thickS sy ns (nI (k + 1)) ≤ thickS sy ns (nI (amS (tC sy ns) k)) from h)]
        have e : amS (tC sy ns) (k + 1) = k + 1 := if_neg h
        have g := ih (k + 1) (by omega) (by omega)
        rw [e] at g
        exact g
theorem mThk {nw sy : Nat → Int32} {ns F : Nat} (R : RowS nw sy) (e1 : nw 1 = nI ns) (hf : FinOK sy ns) (hns : ns ≤ 8) (hF : 20 < F) : fX5_thickestCell F nw = some (nI (amS (tC sy ns) 15)) := mThkL R e1 hf hns (by omega) F 0 (by omega) (by omega)
def clC (sy : Nat → Int32) (ns : Nat) (c : Nat) : Bool := decide (thickS sy ns (nI c) = 0)
theorem cClrL {sy : Nat → Int32} {ns F : Nat} (hns : ns ≤ 8) (hF : 8 < F) : ∀ (n k : Nat), k ≤ 16 → 16 < k + n → fX0_clearCells_4 F sy (nI ns) n (bitS (clC sy ns) k) (nI k) = some (bitS (clC sy ns) 16) := by
  intro n
  induction n with
  | zero => intro k h1 h2; omega
  | succ n ih =>
    intro k h1 h2
    rw [fX0_clearCells_4]
    by_cases hk : k = 16
    · subst hk; rw [if_pos (show (16 : Int32) ≤ nI 16 from by decide)]
    · rw [if_neg (show ¬ (16 : Int32) ≤ nI k from nI_ge (b := 16) (by omega) (by omega)), cThick hns hF, oSome, nI_1]
      by_cases h : thickS sy ns (nI k) = 0
      · rw [if_pos h]
        have e : bitS (clC sy ns) (k + 1) = bitS (clC sy ns) k ||| (1 <<< (nI k &&& 31)) := if_pos (decide_eq_true h)
        rw [← e]; exact ih (k + 1) (by omega) (by omega)
      · rw [if_neg h]
        have e : bitS (clC sy ns) (k + 1) = bitS (clC sy ns) k := if_neg (fun q => h (of_decide_eq_true q))
        rw [← e]; exact ih (k + 1) (by omega) (by omega)
theorem cClr {sy : Nat → Int32} {ns F : Nat} (hns : ns ≤ 8) (hF : 20 < F) : fX0_clearCells F sy (nI ns) = some (bitS (clC sy ns) 16) := cClrL hns (by omega) F 0 (Nat.zero_le _) (by omega)
theorem mClrL {nw sy : Nat → Int32} {ns F : Nat} (R : RowS nw sy) (e1 : nw 1 = nI ns) (hf : FinOK sy ns) (hns : ns ≤ 8) (hF : 8 < F) : ∀ (n k : Nat), k ≤ 16 → 16 < k + n → fX5_clearCells_4 F nw n (bitS (clC sy ns) k) (nI k) = some (bitS (clC sy ns) 16) := by
  intro n
  induction n with
  | zero => intro k h1 h2; omega
  | succ n ih =>
    intro k h1 h2
    rw [fX5_clearCells_4]
    by_cases hk : k = 16
    · subst hk; rw [if_pos (show (16 : Int32) ≤ nI 16 from by decide)]
    · rw [if_neg (show ¬ (16 : Int32) ≤ nI k from nI_ge (b := 16) (by omega) (by omega)), mThick R e1 hns hf hF, oSome, nI_1]
      by_cases h : thickS sy ns (nI k) = 0
      · rw [if_pos h]
        have e : bitS (clC sy ns) (k + 1) = bitS (clC sy ns) k ||| (1 <<< (nI k &&& 31)) := if_pos (decide_eq_true h)
        rw [← e]; exact ih (k + 1) (by omega) (by omega)
      · rw [if_neg h, or0]
        have e : bitS (clC sy ns) (k + 1) = bitS (clC sy ns) k := if_neg (fun q => h (of_decide_eq_true q))
        rw [← e]; exact ih (k + 1) (by omega) (by omega)
theorem mClr {nw sy : Nat → Int32} {ns F : Nat} (R : RowS nw sy) (e1 : nw 1 = nI ns) (hf : FinOK sy ns) (hns : ns ≤ 8) (hF : 20 < F) : fX5_clearCells F nw = some (bitS (clC sy ns) 16) := mClrL R e1 hf hns (by omega) F 0 (Nat.zero_le _) (by omega)
/-- whether a ship would go on at a cell -/
def gOn (sy sh : Nat → Int32) (ns k : Nat) (c : Int32) : Bool := !decide (c = 15) && !decide (sh (4 * k + 1) < thickS sy ns c)
theorem cOn {sy sh : Nat → Int32} {ns k F : Nat} (hns : ns ≤ 8) (hk : k < 6) (hF : 8 < F) (c : Int32) : fX0_goesOnAt F sy sh (nI ns) (nI k) c = some (if gOn sy sh ns k c = true then 1 else 0) := by
  unfold fX0_goesOnAt gOn
  by_cases h : c = 15
  · rw [if_pos h, if_neg (by rw [decide_eq_true h]; exact Bool.false_ne_true)]
  · rw [if_neg h, cThick hns hF, oSome, hHas1 hk, decide_eq_false h]
    by_cases h2 : sh (4 * k + 1) < thickS sy ns c
    · rw [if_pos h2, decide_eq_true h2]; rfl
    · rw [if_neg h2, decide_eq_false h2]; rfl
theorem mOn {nw sy sh : Nat → Int32} {ns k F : Nat} (R : RowS nw sy) (H : RowH nw sh) (e1 : nw 1 = nI ns) (hf : FinOK sy ns) (hns : ns ≤ 8) (hk : k < 6) (hF : 8 < F) (c : Int32) : fX5_wouldGoAt F nw (nI k) c = some (if gOn sy sh ns k c = true then 1 else 0) := by
  unfold fX5_wouldGoAt gOn
  by_cases h : c = 15
  · rw [if_pos h, if_neg (by rw [decide_eq_true h]; exact Bool.false_ne_true)]
  · rw [if_neg h, H.is1 hk, oSome, mThick R e1 hns hf hF, oSome, decide_eq_false h]
    by_cases h2 : sh (4 * k + 1) < thickS sy ns c
    · rw [if_pos h2, decide_eq_true h2]; rfl
    · rw [if_neg h2, decide_eq_false h2]; rfl
def gOnS (sy sh : Nat → Int32) (ns k : Nat) : Bool := gOn sy sh ns k (sh (4 * k))
theorem cOnL {sy sh : Nat → Int32} {ns nv F : Nat} (hns : ns ≤ 8) (hnv : nv ≤ 6) (hF : 8 < F) : ∀ (n k : Nat), k ≤ nv → nv < k + n → fX0_shipsThatGoOn_4 F sy sh (nI ns) (nI nv) n (bitS (gOnS sy sh ns) k) (nI k) = some (bitS (gOnS sy sh ns) nv) := by
  intro n
  induction n with
  | zero => intro k h1 h2; omega
  | succ n ih =>
    intro k h1 h2
    rw [fX0_shipsThatGoOn_4]
    by_cases hk : k = nv
    · subst hk; rw [if_pos (nI_le (Nat.le_refl _) (by omega))]
    · rw [if_neg (nI_ge (show k < nv by omega) (by omega)), hHas0 (by omega), cOn hns (by omega) hF, oSome, nI_1]
      by_cases h : gOn sy sh ns k (sh (4 * k)) = true
      · rw [if_pos h, if_neg (by decide)]
        have e : bitS (gOnS sy sh ns) (k + 1) = bitS (gOnS sy sh ns) k ||| (1 <<< (nI k &&& 31)) := if_pos h
        rw [← e]; exact ih (k + 1) (by omega) (by omega)
      · rw [if_neg h, if_pos rfl]
        have e : bitS (gOnS sy sh ns) (k + 1) = bitS (gOnS sy sh ns) k := if_neg h
        rw [← e]; exact ih (k + 1) (by omega) (by omega)
theorem cOns {sy sh : Nat → Int32} {ns nv F : Nat} (hns : ns ≤ 8) (hnv : nv ≤ 6) (hF : 8 < F) : fX0_shipsThatGoOn F sy sh (nI ns) (nI nv) = some (bitS (gOnS sy sh ns) nv) := cOnL hns hnv hF F 0 (Nat.zero_le _) (by omega)
theorem mOnL {nw sy sh : Nat → Int32} {ns nv F : Nat} (R : RowS nw sy) (H : RowH nw sh) (e1 : nw 1 = nI ns) (e3 : nw 3 = nI nv) (hf : FinOK sy ns) (hns : ns ≤ 8) (hnv : nv ≤ 6) (hF : 8 < F) : ∀ (n k : Nat), k ≤ nv → nv < k + n → fX5_goingOnes_4 F nw n (bitS (gOnS sy sh ns) k) (nI k) = some (bitS (gOnS sy sh ns) nv) := by
  intro n
  induction n with
  | zero => intro k h1 h2; omega
  | succ n ih =>
    intro k h1 h2
    rw [fX5_goingOnes_4, e3]
    by_cases hk : k = nv
    · subst hk; rw [if_pos (nI_le (Nat.le_refl _) (by omega))]
    · rw [if_neg (nI_ge (show k < nv by omega) (by omega)), H.is0 (by omega), oSome, mOn R H e1 hf hns (by omega) hF, oSome, nI_1]
      by_cases h : gOn sy sh ns k (sh (4 * k)) = true
      · rw [if_pos h, if_neg (by decide)]
        have e : bitS (gOnS sy sh ns) (k + 1) = bitS (gOnS sy sh ns) k ||| (1 <<< (nI k &&& 31)) := if_pos h
        rw [← e]; exact ih (k + 1) (by omega) (by omega)
      · rw [if_neg h, if_pos rfl, or0]
        have e : bitS (gOnS sy sh ns) (k + 1) = bitS (gOnS sy sh ns) k := if_neg h
        rw [← e]; exact ih (k + 1) (by omega) (by omega)
theorem mOns {nw sy sh : Nat → Int32} {ns nv F : Nat} (R : RowS nw sy) (H : RowH nw sh) (e1 : nw 1 = nI ns) (e3 : nw 3 = nI nv) (hf : FinOK sy ns) (hns : ns ≤ 8) (hnv : nv ≤ 6) (hF : 8 < F) : fX5_goingOnes F nw = some (bitS (gOnS sy sh ns) nv) := mOnL R H e1 e3 hf hns hnv hF F 0 (Nat.zero_le _) (by omega)
/-! masks -/
theorem mkB63 {v : Nat} (hv : v < 6) : mkB 63 v = true := by
  rcases (show v = 0 ∨ v = 1 ∨ v = 2 ∨ v = 3 ∨ v = 4 ∨ v = 5 by omega) with rfl | rfl | rfl | rfl | rfl | rfl <;> decide
theorem shR_mk {mk mk' : Nat → Bool} {sy : Nat → Int32} {ns : Nat} : ∀ (c v : Nat) (sh : Nat → Int32), (∀ u, v ≤ u → u < v + c → mk u = mk' u) → shR mk sy ns c v sh = shR mk' sy ns c v sh
  | 0, _, _, _ => rfl
  | c + 1, v, sh, h => by
    rw [shR, shR, h v (Nat.le_refl _) (by omega)]
    exact shR_mk c (v + 1) _ fun u h1 h2 => h u (by omega) (by omega)
theorem shN_mk {mk mk' : Nat → Bool} {pl : Nat → Int32} {ns nv : Nat} (h : ∀ u, u < nv → mk u = mk' u) : ∀ (n d : Nat) (sy sh : Nat → Int32), shN mk pl ns nv n d sy sh = shN mk' pl ns nv n d sy sh
  | 0, _, _, _ => rfl
  | n + 1, d, sy, sh => by
    rw [shN, shN, shR_mk (mk := mk) (mk' := mk') nv 0 sh fun u _ h2 => h u (by omega)]
    exact shN_mk h n _ _ _
theorem shN63 {pl : Nat → Int32} {ns nv : Nat} (hnv : nv ≤ 6) (n d : Nat) (sy sh : Nat → Int32) : shN (mkB 63) pl ns nv n d sy sh = shN (fun _ => true) pl ns nv n d sy sh := shN_mk (fun u hu => mkB63 (by omega)) n d sy sh
