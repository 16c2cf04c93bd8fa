/-! PURE, third part: a day of the reference -/
def RowH (nw sh : Nat → Int32) : Prop := ∀ i, i < 24 → nw (60 + i) = sh i
def FinOK (sy : Nat → Int32) (ns : Nat) : Prop := ∀ k, k < ns → sy (5 * k + 3) = 0 ∨ sy (5 * k + 3) = 1
theorem RowH.is {nw sh : Nat → Int32} (R : RowH nw sh) {k f : Nat} (hk : k < 6) (hf : f < 4) : fX5_shipIs nw (nI k) (nI f) = some (sh (4 * k + f)) := by
  rw [mShip hk hf, Nat.add_assoc, R _ (by omega)]
theorem RowH.is0 {nw sh : Nat → Int32} (R : RowH nw sh) {k : Nat} (hk : k < 6) : fX5_shipIs nw (nI k) 0 = some (sh (4 * k)) := R.is (f := 0) hk (by decide)
theorem RowH.is1 {nw sh : Nat → Int32} (R : RowH nw sh) {k : Nat} (hk : k < 6) : fX5_shipIs nw (nI k) 1 = some (sh (4 * k + 1)) := R.is (f := 1) hk (by decide)
theorem RowH.is2 {nw sh : Nat → Int32} (R : RowH nw sh) {k : Nat} (hk : k < 6) : fX5_shipIs nw (nI k) 2 = some (sh (4 * k + 2)) := R.is (f := 2) hk (by decide)
theorem RowH.is3 {nw sh : Nat → Int32} (R : RowH nw sh) {k : Nat} (hk : k < 6) : fX5_shipIs nw (nI k) 3 = some (sh (4 * k + 3)) := R.is (f := 3) hk (by decide)
theorem RowH.upd {nw sh : Nat → Int32} (R : RowH nw sh) {j : Nat} (x : Int32) : RowH (upd nw (60 + j) x) (upd sh j x) := by
  intro i hi
  by_cases h : i = j
  · subst h; rw [updS, updS]
  · rw [updN (show 60 + i ≠ 60 + j by omega), updN h]; exact R i hi
theorem RowH.off {nw nw' sh : Nat → Int32} (R : RowH nw sh) (h : ∀ i, 60 ≤ i → nw' i = nw i) : RowH nw' sh := fun i hi => (h _ (by omega)).trans (R i hi)
theorem RowS.off {nw nw' sy : Nat → Int32} (R : RowS nw sy) (h : ∀ i, 20 ≤ i → i < 60 → nw' i = nw i) : RowS nw' sy := fun i hi => (h _ (by omega) (by omega)).trans (R i hi)
theorem RowS.upd {nw sy : Nat → Int32} (R : RowS nw sy) {j : Nat} (x : Int32) : RowS (upd nw (20 + j) x) (upd sy j x) := by
  intro i hi
  by_cases h : i = j
  · subst h; rw [updS, updS]
  · rw [updN (show 20 + i ≠ 20 + j by omega), updN h]; exact R i hi
theorem mPort {nw sh : Nat → Int32} (R : RowH nw sh) {k : Nat} (hk : k < 6) : fX5_isInPort nw (nI k) = some (if sh (4 * k) = 15 then 1 else 0) := by
  unfold fX5_isInPort
  rw [R.is0 hk, oSome, iteS]
theorem mWould {nw sy sh : Nat → Int32} {ns F v : Nat} (R : RowS nw sy) (h1 : nw 1 = nI ns) (hns : ns ≤ 8) (hf : FinOK sy ns) (hF : 8 < F) (RH : RowH nw sh) (hv : v < 6) (c : Int32) : fX5_wouldGoAt F nw (nI v) c = some (if c = 15 then 0 else if sh (4 * v + 1) < thickS sy ns c then 0 else 1) := by
  unfold fX5_wouldGoAt
  by_cases h : c = 15
  · rw [if_pos h, if_pos h]
  · rw [if_neg h, if_neg h, RH.is1 hv, oSome, mThick R h1 hns hf hF, oSome, iteS]
theorem at4_0 (k : Nat) : fX5_shipAt (nI k) 0 = nI (60 + 4 * k) := at4 k 0
theorem at4_3 (k : Nat) : fX5_shipAt (nI k) 3 = nI (60 + (4 * k + 3)) := at4 k 3
theorem at5_2 (k : Nat) : fX5_sayingAt (nI k) 2 = nI (20 + (5 * k + 2)) := at5 k 2
theorem at5_3 (k : Nat) : fX5_sayingAt (nI k) 3 = nI (20 + (5 * k + 3)) := at5 k 3
theorem at5_4 (k : Nat) : fX5_sayingAt (nI k) 4 = nI (20 + (5 * k + 4)) := at5 k 4
theorem mShips {sy : Nat → Int32} {ns nv F : Nat} (hns : ns ≤ 8) (hnv : nv ≤ 6) (hF : 8 < F) (hf : FinOK sy ns) (k : (Nat → Int32) → Option (Nat → Int32)) : ∀ (n c v : Nat) (nw sh : Nat → Int32), v + c = nv → c < n → RowH nw sh → RowS nw sy → nw 1 = nI ns → nw 3 = nI nv → ∃ nw', fX5_day_2 F k n (nI v) nw = k nw' ∧ RowH nw' (shR (fun _ => true) sy ns c v sh) ∧ ∀ i, i < 60 → nw' i = nw i := by
  intro n
  induction n with
  | zero => intro c v nw sh h1 h2; omega
  | succ n ih =>
    intro c v nw sh h1 h2 RH RS e1 e3
    rw [fX5_day_2, e3]
    cases c with
    | zero =>
      obtain rfl : v = nv := by omega
      rw [if_pos (nI_le (Nat.le_refl _) (by omega))]
      exact ⟨nw, rfl, RH, fun _ _ => rfl⟩
    | succ c =>
      have hv : v < 6 := by omega
      rw [if_neg (nI_ge (show v < nv by omega) (by omega)), nI_1, shR, if_pos rfl, RH.is0 hv, oSome, mWould RS e1 hns hf hF RH hv, oSome, mPort RH hv]
      by_cases hp : sh (4 * v) = 15
      · rw [if_pos hp, if_pos rfl, oSome, if_pos hp, if_neg (by decide), show shipStep sy ns sh v = sh from if_pos hp]
        exact ih c (v + 1) nw sh (by omega) (by omega) RH RS e1 e3
      · rw [if_neg hp]
        have hx : sh (4 * v) = nw (60 + 4 * v) := (RH _ (by omega)).symm
        by_cases ht : sh (4 * v + 1) < thickS sy ns (sh (4 * v))
        · rw [if_pos ht, if_pos rfl, oSome, if_neg hp, if_pos rfl, at4_3, mMore (by omega), oSome, show shipStep sy ns sh v = upd sh (4 * v + 3) (minS (sh (4 * v + 3) + 1) 9999) from by rw [shipStep, if_neg hp, if_pos ht]]
          obtain ⟨nw', g1, g2, g3⟩ := ih c (v + 1) (upd nw (60 + (4 * v + 3)) (minS (sh (4 * v + 3) + 1) 9999)) _ (by omega) (by omega) (RH.upd _) (RS.off fun i _ h => updN (by omega)) (by rw [updN (by omega)]; exact e1) (by rw [updN (by omega)]; exact e3)
          refine ⟨nw', ?_, g2, fun i hi => (g3 i hi).trans (updN (by omega))⟩
          rw [RH (4 * v + 3) (by omega)]
          exact g1
        · rw [if_neg ht, if_neg (by decide), RH.is2 hv, oSome, at4_0, mMore (by omega), oSome, show shipStep sy ns sh v = upd sh (4 * v) (minS (sh (4 * v) + sh (4 * v + 2)) 15) from by rw [shipStep, if_neg hp, if_neg ht]]
          obtain ⟨nw', g1, g2, g3⟩ := ih c (v + 1) (upd nw (60 + 4 * v) (minS (sh (4 * v) + sh (4 * v + 2)) 15)) _ (by omega) (by omega) (RH.upd _) (RS.off fun i _ h => updN (by omega)) (by rw [updN (by omega)]; exact e1) (by rw [updN (by omega)]; exact e3)
          refine ⟨nw', ?_, g2, fun i hi => (g3 i hi).trans (updN (by omega))⟩
          rw [RH (4 * v) (by omega)]
          exact g1
theorem FinOK.blur {sy : Nat → Int32} {ns k : Nat} (h : FinOK sy ns) (dy : Int32) : FinOK (blurStep dy sy k) ns := by
  intro j hj
  unfold blurStep
  split
  · exact h j hj
  · rw [updN (by omega), updN (by omega)]; exact h j hj
theorem FinOK.fin {sy : Nat → Int32} {ns t : Nat} (h : FinOK sy ns) : FinOK (finS sy ns t) ns := by
  intro j hj
  unfold finS
  split
  · split
    · exact h j hj
    · split
      · rw [updN (by omega)]; exact h j hj
      · by_cases e : 5 * j + 3 = 5 * t + 3
        · rw [e, updS]; exact Or.inr rfl
        · rw [updN e]; exact h j hj
  · exact h j hj
theorem mBlurL {ns d : Nat} (hns : ns ≤ 8) (hd : d ≤ 99999) : ∀ (n c k : Nat) (nw sy : Nat → Int32), k + c = ns → c < n → RowS nw sy → FinOK sy ns → nw 0 = nI d → nw 1 = nI ns → ∃ nw', fX5_day_107 n (nI k) nw = some nw' ∧ nw' 0 = nI (min (d + 1) 99999) ∧ RowS nw' (blR (nI d) c k sy) ∧ ∀ i, 0 < i → (i < 20 ∨ 60 ≤ i) → nw' i = nw i := by
  intro n
  induction n with
  | zero => intro c v nw sh h1 h2; omega
  | succ n ih =>
    intro c k nw sy h1 h2 RS hf e0 e1
    rw [fX5_day_107, e1]
    cases c with
    | zero =>
      obtain rfl : k = ns := by omega
      rw [if_pos (nI_le (Nat.le_refl _) (by omega)), show (0 : Int32) = nI 0 from rfl, mMore (by decide), oSome, e0]
      refine ⟨_, rfl, ?_, RS.off fun i _ _ => updN (by omega), fun i h _ => updN (by omega)⟩
      rw [updS]
      exact dayUp hd
    | succ c =>
      have hk : k < 8 := by omega
      rw [if_neg (nI_ge (show k < ns by omega) (by omega)), nI_1, blR, RS.is3 hk, oSome]
      rcases hf k (by omega) with h0 | h0
      · rw [h0, if_pos rfl, RS.is2 hk, oSome, mBlurs RS hk, oSome, at5_2, if_pos (in84 (by omega)), nI_clamp (by omega), at5_4, mMore (by omega), oSome, e0]
        have hne : ¬ sy (5 * k + 3) = 1 := by rw [h0]; decide
        have eb : blurStep (nI d) sy k = upd (upd sy (5 * k + 2) (clampS (sy (5 * k + 2) + fX1_blurs (sy (5 * k)) (nI d)))) (5 * k + 4) (minS (sy (5 * k + 4) + 1) 9999) := if_neg hne
        have RS2 := (RS.upd (j := 5 * k + 2) (clampS (sy (5 * k + 2) + fX1_blurs (sy (5 * k)) (nI d)))).upd (j := 5 * k + 4) (minS (sy (5 * k + 4) + 1) 9999)
        rw [← eb] at RS2
        obtain ⟨nw', g1, g2, g3, g4⟩ := ih c (k + 1) _ _ (by omega) (by omega) RS2 (hf.blur _) (by rw [updN (by omega), updN (by omega)]; exact e0) (by rw [updN (by omega), updN (by omega)]; exact e1)
        refine ⟨nw', ?_, g2, g3, fun i h1 h2 => (g4 i h1 h2).trans (by rw [updN (by omega), updN (by omega)])⟩
        rw [updN (show 20 + (5 * k + 4) ≠ 20 + (5 * k + 2) by omega), RS (5 * k + 4) (by omega)]
        exact g1
      · rw [h0, if_neg (by decide), show blurStep (nI d) sy k = sy from if_pos h0]
        exact ih c (k + 1) nw sy (by omega) (by omega) RS hf e0 e1
theorem mIsSay {nw : Nat → Int32} {ns t : Nat} (e1 : nw 1 = nI ns) (hns : ns ≤ 8) (ht : t < 2 ^ 30) : fX5_isSaying nw (nI t) = (if t < ns then 1 else 0) := by
  have h := cHasSay (ns := ns) (t := t) hns ht
  unfold fX0_hasSaying at h
  unfold fX5_isSaying
  rw [e1]
  exact h
theorem mFinishes {nw sy : Nat → Int32} (RS : RowS nw sy) {t : Nat} (ht : t < 8) : fX5_finishes nw (nI t) = some (if fX1_resists (sy (5 * t)) < sy (5 * t + 2) then upd nw (20 + (5 * t + 2)) (sy (5 * t + 2) / 2) else upd nw (20 + (5 * t + 3)) 1) := by
  unfold fX5_finishes
  rw [RS.is2 ht, oSome, mResists RS ht, oSome]
  by_cases h : fX1_resists (sy (5 * t)) < sy (5 * t + 2)
  · rw [if_pos h, if_pos h, at5_2, if_pos (in84 (by omega)), if_pos (in84 (by omega)), nI_clamp (by omega), RS _ (by omega)]
  · rw [if_neg h, if_neg h, at5_3, if_pos (in84 (by omega)), nI_clamp (by omega)]
theorem mDay {nw pl sy sh : Nat → Int32} {ns nv d F : Nat} (hns : ns ≤ 8) (hnv : nv ≤ 6) (hF : 8 < F) (hd : d ≤ 99999) (hpl : ∀ i, i < 6 → ∃ k, k ≤ 8 ∧ pl i = nI k) (hf : FinOK sy ns) (e0 : nw 0 = nI d) (e1 : nw 1 = nI ns) (e3 : nw 3 = nI nv) (ePl : ∀ i, i < 6 → nw (4 + i) = pl i) (RS : RowS nw sy) (RH : RowH nw sh) :
    ∃ nw', fX5_day F nw = some nw' ∧ nw' 0 = nI (min (d + 1) 99999) ∧ RowS nw' (daySy ns (pl (d % 6)).toNatClampNeg (nI d) sy) ∧ RowH nw' (shR (fun _ => true) sy ns nv 0 sh) ∧ ∀ i, 0 < i → i < 20 → nw' i = nw i := by
  unfold fX5_day
  obtain ⟨n1, g1, g2, g3⟩ := mShips hns hnv hF hf (fun nw__16 => if ¬ ((fX5_placeNow nw__16) < 0 ∨ 84 ≤ (fX5_placeNow nw__16).toNatClampNeg) then (if (fX5_isSaying nw__16 (nw__16 (fX5_placeNow nw__16).toNatClampNeg)) = 0 then fX5_day_107 F 0 nw__16 else Option.bind (fX5_sayingIs nw__16 (nw__16 (fX5_placeNow nw__16).toNatClampNeg) 3) (fun z_32 => (if z_32 = 0 then Option.bind (fX5_finishes nw__16 (nw__16 (fX5_placeNow nw__16).toNatClampNeg)) (fun z_35 => fX5_day_107 F 0 z_35) else fX5_day_107 F 0 nw__16))) else none) F nv 0 nw sh (by omega) (by omega) RH RS e1 e3
  rw [show (nI 0 : Int32) = 0 from rfl] at g1
  rw [g1]
  have f0 : n1 0 = nI d := (g3 0 (by omega)).trans e0
  have f1 : n1 1 = nI ns := (g3 1 (by omega)).trans e1
  have RS1 : RowS n1 sy := RS.off fun i _ h => g3 i h
  have hp : fX5_placeNow n1 = nI (4 + d % 6) := by
    unfold fX5_placeNow
    rw [f0, show (6 : Int32) = nI 6 from rfl, pk_rem (by omega) (by decide) (by decide), show (4 : Int32) = nI 4 from rfl, nI_add]
  obtain ⟨t, ht, et⟩ := hpl (d % 6) (by omega)
  have hv : n1 (4 + d % 6) = nI t := by rw [g3 _ (by omega), ePl _ (by omega), et]
  rw [hp, if_pos (in84 (by omega)), nI_clamp (by omega), hv, mIsSay f1 hns (by omega)]
  have htc : (pl (d % 6)).toNatClampNeg = t := by rw [et, nI_clamp (by omega)]
  rw [htc]
  have key : ∀ (n2 : Nat → Int32), RowS n2 (finS sy ns t) → n2 0 = nI d → (∀ i, i < 20 ∨ 60 ≤ i → n2 i = n1 i) → ∃ nw', fX5_day_107 F 0 n2 = some nw' ∧ nw' 0 = nI (min (d + 1) 99999) ∧ RowS nw' (daySy ns t (nI d) sy) ∧ RowH nw' (shR (fun _ => true) sy ns nv 0 sh) ∧ ∀ i, 0 < i → i < 20 → nw' i = nw i := by
    intro n2 r2 z0 ho
    obtain ⟨nw', a1, a2, a3, a4⟩ := mBlurL hns hd F ns 0 n2 (finS sy ns t) (by omega) (by omega) r2 hf.fin z0 ((ho 1 (Or.inl (by omega))).trans f1)
    exact ⟨nw', a1, a2, a3, g2.off fun i hi => (a4 i (by omega) (Or.inr hi)).trans (ho i (Or.inr hi)), fun i h1 h2 => (a4 i h1 (Or.inl h2)).trans ((ho i (Or.inl h2)).trans (g3 i (by omega)))⟩
  by_cases h : t < ns
  · rw [if_pos h, if_neg (by decide), RS1.is3 (by omega), oSome]
    rcases hf t h with h0 | h0
    · rw [h0, if_pos rfl, mFinishes RS1 (by omega), oSome]
      have hne : ¬ sy (5 * t + 3) = 1 := by rw [h0]; decide
      by_cases hr : fX1_resists (sy (5 * t)) < sy (5 * t + 2)
      · rw [if_pos hr]
        refine key _ ?_ (by rw [updN (by omega)]; exact f0) (fun i hi => updN (by omega))
        rw [show finS sy ns t = upd sy (5 * t + 2) (sy (5 * t + 2) / 2) from by rw [finS, if_pos h, if_neg hne, if_pos hr]]
        exact RS1.upd _
      · rw [if_neg hr]
        refine key _ ?_ (by rw [updN (by omega)]; exact f0) (fun i hi => updN (by omega))
        rw [show finS sy ns t = upd sy (5 * t + 3) 1 from by rw [finS, if_pos h, if_neg hne, if_neg hr]]
        exact RS1.upd _
    · rw [h0, if_neg (by decide)]
      exact key n1 (by rw [show finS sy ns t = sy from by rw [finS, if_pos h, if_pos h0]]; exact RS1) f0 (fun _ _ => rfl)
  · rw [if_neg h, if_pos rfl]
    exact key n1 (by rw [show finS sy ns t = sy from by rw [finS, if_neg h]]; exact RS1) f0 (fun _ _ => rfl)
