/-! PURE, fourth part: what stays within its bounds; days of the reference; ships apart -/
def ex (n : Nat) (x : Int32) : Prop := ∃ k, k ≤ n ∧ x = nI k
theorem ex.le {n m : Nat} {x : Int32} (h : ex n x) (hm : n ≤ m) : ex m x := by
  obtain ⟨k, h1, h2⟩ := h
  exact ⟨k, by omega, h2⟩
theorem ex_min {n : Nat} {x b : Int32} (hb : b = nI n) (hn : n < 2 ^ 31) (h : ∃ k, k < 2 ^ 31 ∧ x = nI k) : ex n (minS x b) := by
  obtain ⟨k, h1, rfl⟩ := h
  subst hb
  unfold minS
  by_cases h2 : nI k < nI n
  · rw [if_pos h2]; exact ⟨k, Nat.le_of_lt ((nI_ltI h1 hn).mp h2), rfl⟩
  · rw [if_neg h2]; exact ⟨n, Nat.le_refl _, rfl⟩
theorem ex_clamp (x : Int32) : ex 99 (clampS x) := by
  unfold clampS
  by_cases h : 0 < minS x 99
  · rw [if_pos h]
    refine (nI_of2 (M := 99) (n := 99) (by decide) (Int32.not_lt.mpr (Int32.le_of_lt h)) ?_)
    unfold minS
    by_cases h2 : x < 99
    · rw [if_pos h2]; exact Int32.le_of_lt h2
    · rw [if_neg h2]; exact Int32.le_refl _
  · rw [if_neg h]; exact ⟨0, by decide, rfl⟩
def SayOK (sy : Nat → Int32) (k : Nat) : Prop := ex 6 (sy (5 * k)) ∧ ex 15 (sy (5 * k + 1)) ∧ ex 99 (sy (5 * k + 2)) ∧ ex 1 (sy (5 * k + 3)) ∧ ex 9999 (sy (5 * k + 4))
def ShipOK (sh : Nat → Int32) (v : Nat) : Prop := ex 15 (sh (4 * v)) ∧ ex 99 (sh (4 * v + 1)) ∧ (∃ k, 1 ≤ k ∧ k ≤ 5 ∧ sh (4 * v + 2) = nI k) ∧ ex 9999 (sh (4 * v + 3))
theorem SaysFin {sy : Nat → Int32} {ns : Nat} (h : ∀ k, k < ns → SayOK sy k) : FinOK sy ns := by
  intro k hk
  obtain ⟨j, h1, h2⟩ := (h k hk).2.2.2.1
  rw [h2]
  rcases (show j = 0 ∨ j = 1 by omega) with rfl | rfl
  · exact Or.inl rfl
  · exact Or.inr rfl
theorem SayOK.blur {sy : Nat → Int32} {k j : Nat} (dy : Int32) (h : SayOK sy k) : SayOK (blurStep dy sy j) k := by
  unfold blurStep
  split
  · exact h
  · obtain ⟨h0, h1, h2, h3, h4⟩ := h
    by_cases e : k = j
    · subst e
      refine ⟨?_, ?_, ?_, ?_, ?_⟩
      · rw [updN (by omega), updN (by omega)]; exact h0
      · rw [updN (by omega), updN (by omega)]; exact h1
      · rw [updN (by omega), updS]; exact ex_clamp _
      · rw [updN (by omega), updN (by omega)]; exact h3
      · rw [updS]
        obtain ⟨q, g1, g2⟩ := h4
        exact ex_min rfl (by decide) ⟨q + 1, by omega, by rw [g2, nI_1]⟩
    · refine ⟨?_, ?_, ?_, ?_, ?_⟩
      · rw [updN (by omega), updN (by omega)]; exact h0
      · rw [updN (by omega), updN (by omega)]; exact h1
      · rw [updN (by omega), updN (by omega)]; exact h2
      · rw [updN (by omega), updN (by omega)]; exact h3
      · rw [updN (by omega), updN (by omega)]; exact h4
theorem SayOK.fin {sy : Nat → Int32} {ns k t : Nat} (h : SayOK sy k) : SayOK (finS sy ns t) k := by
  unfold finS
  split
  · split
    · exact h
    · obtain ⟨h0, h1, h2, h3, h4⟩ := h
      split
      · refine ⟨?_, ?_, ?_, ?_, ?_⟩
        · rw [updN (by omega)]; exact h0
        · rw [updN (by omega)]; exact h1
        · by_cases e : k = t
          · subst e
            rw [updS]
            obtain ⟨q, g1, g2⟩ := h2
            exact ⟨q / 2, by omega, by rw [g2, show (2 : Int32) = nI 2 from rfl, pk_div (by omega) (by decide) (by decide)]⟩
          · rw [updN (by omega)]; exact h2
        · rw [updN (by omega)]; exact h3
        · rw [updN (by omega)]; exact h4
      · refine ⟨?_, ?_, ?_, ?_, ?_⟩
        · rw [updN (by omega)]; exact h0
        · rw [updN (by omega)]; exact h1
        · rw [updN (by omega)]; exact h2
        · by_cases e : k = t
          · subst e; rw [updS]; exact ⟨1, by decide, rfl⟩
          · rw [updN (by omega)]; exact h3
        · rw [updN (by omega)]; exact h4
  · exact h
theorem SayOK.blR {k : Nat} (dy : Int32) : ∀ (c i : Nat) (sy : Nat → Int32), SayOK sy k → SayOK (blR dy c i sy) k
  | 0, _, _, h => h
  | c + 1, i, sy, h => SayOK.blR dy c (i + 1) _ (h.blur dy)
theorem SayOK.day {sy : Nat → Int32} {ns k t : Nat} (dy : Int32) (h : SayOK sy k) : SayOK (daySy ns t dy sy) k := SayOK.blR dy ns 0 _ h.fin
theorem shipStep_other {sy sh : Nat → Int32} {ns v i : Nat} (h : i < 4 * v ∨ 4 * v + 4 ≤ i) : shipStep sy ns sh v i = sh i := by
  unfold shipStep
  split
  · rfl
  · split
    · exact updN (by omega)
    · exact updN (by omega)
theorem ShipOK.step {sy sh : Nat → Int32} {ns v u : Nat} (h : ShipOK sh u) : ShipOK (shipStep sy ns sh v) u := by
  by_cases e : u = v
  · subst e
    obtain ⟨h0, h1, h2, h3⟩ := h
    unfold shipStep
    split
    · exact ⟨h0, h1, h2, h3⟩
    · split
      · refine ⟨?_, ?_, ?_, ?_⟩
        · rw [updN (by omega)]; exact h0
        · rw [updN (by omega)]; exact h1
        · rw [updN (by omega)]; exact h2
        · rw [updS]
          obtain ⟨q, g1, g2⟩ := h3
          exact ex_min rfl (by decide) ⟨q + 1, by omega, by rw [g2, nI_1]⟩
      · refine ⟨?_, ?_, ?_, ?_⟩
        · rw [updS]
          obtain ⟨q, g1, g2⟩ := h0
          obtain ⟨r, r1, r2, r3⟩ := h2
          exact ex_min rfl (by decide) ⟨q + r, by omega, by rw [g2, r3, nI_add]⟩
        · rw [updN (by omega)]; exact h1
        · rw [updN (by omega)]; exact h2
        · rw [updN (by omega)]; exact h3
  · unfold ShipOK
    rw [shipStep_other (by omega), shipStep_other (by omega), shipStep_other (by omega), shipStep_other (by omega)]
    exact h
theorem ShipOK.shR {mk : Nat → Bool} {sy : Nat → Int32} {ns u : Nat} : ∀ (c v : Nat) (sh : Nat → Int32), ShipOK sh u → ShipOK (shR mk sy ns c v sh) u
  | 0, _, _, h => h
  | c + 1, v, sh, h => ShipOK.shR c (v + 1) _ (by split; exact h.step; exact h)
/-- the sayings behind n days; the ships -/
def syN (pl : Nat → Int32) (ns : Nat) : Nat → Nat → (Nat → Int32) → (Nat → Int32)
  | 0, _, sy => sy
  | n + 1, d, sy => syN pl ns n (min (d + 1) 99999) (daySy ns (pl (d % 6)).toNatClampNeg (nI d) sy)
def shN (mk : Nat → Bool) (pl : Nat → Int32) (ns nv : Nat) : Nat → Nat → (Nat → Int32) → (Nat → Int32) → (Nat → Int32)
  | 0, _, _, sh => sh
  | n + 1, d, sy, sh => shN mk pl ns nv n (min (d + 1) 99999) (daySy ns (pl (d % 6)).toNatClampNeg (nI d) sy) (shR mk sy ns nv 0 sh)
theorem goS_eq (mk : Nat → Bool) (pl : Nat → Int32) (ns nv : Nat) : ∀ (n d : Nat) (sy sh : Nat → Int32), d ≤ 99999 → goS mk pl ns nv n d sy sh = (syN pl ns n d sy, shN mk pl ns nv n d sy sh, nI (min (d + n) 99999))
  | 0, d, sy, sh, h => by rw [goS, syN, shN, Nat.add_zero, Nat.min_eq_left h]
  | n + 1, d, sy, sh, h => by
    rw [goS, goS_eq mk pl ns nv n _ _ _ (by omega), syN, shN]
    rw [show min (min (d + 1) 99999 + n) 99999 = min (d + (n + 1)) 99999 by omega]
theorem cPassE {pl sy sh : Nat → Int32} {ns nv F N d : Nat} (hns : ns ≤ 8) (hnv : nv ≤ 6) (hF : 8 < F) (hpl : ∀ i, i < 6 → ∃ k, k ≤ 8 ∧ pl i = nI k) (hN : N < F) (hN2 : N < 2 ^ 30) (mv : Int32) (hd : d ≤ 99999) : fX0_passDays F pl sy sh (nI ns) (nI nv) (nI d) (nI N) mv = some (syN pl ns N d sy, shN (mkB mv) pl ns nv N d sy sh, nI (min (d + N) 99999)) := by
  rw [cPass hns hnv hF hpl hN hN2 mv hd, goS_eq _ _ _ _ _ _ _ _ hd]
theorem SayOK.syN {pl : Nat → Int32} {ns k : Nat} : ∀ (n d : Nat) (sy : Nat → Int32), SayOK sy k → SayOK (syN pl ns n d sy) k
  | 0, _, _, h => h
  | n + 1, d, sy, h => SayOK.syN n _ _ (h.day _)
theorem ShipOK.shN {mk : Nat → Bool} {pl : Nat → Int32} {ns nv u : Nat} : ∀ (n d : Nat) (sy sh : Nat → Int32), ShipOK sh u → ShipOK (shN mk pl ns nv n d sy sh) u
  | 0, _, _, _, h => h
  | n + 1, d, sy, sh, h => ShipOK.shN n _ _ _ (ShipOK.shR nv 0 sh h)
/-- the estuary within its bounds -/
def EI (pl sp sy sh : Nat → Int32) (ns nv d : Nat) : Prop := ns ≤ 8 ∧ nv ≤ 6 ∧ d ≤ 99999 ∧ (∀ i, i < 6 → ex 8 (pl i)) ∧ (∀ i, i < 10 → sp i = -1 ∨ ∃ k, k < ns ∧ sp i = nI k) ∧ (∀ k, k < ns → SayOK sy k) ∧ (∀ v, v < nv → ShipOK sh v)
/-- the reference's row, by numbers -/
def RW (nw pl sp sy sh : Nat → Int32) (ns nv d : Nat) (zz : Int32) : Prop := nw 0 = nI d ∧ nw 1 = nI ns ∧ nw 2 = zz ∧ nw 3 = nI nv ∧ (∀ i, i < 6 → nw (4 + i) = pl i) ∧ (∀ i, i < 10 → nw (10 + i) = sp i) ∧ RowS nw sy ∧ RowH nw sh
theorem EI.days {pl sp sy sh : Nat → Int32} {ns nv d : Nat} (h : EI pl sp sy sh ns nv d) (mk : Nat → Bool) (n : Nat) : EI pl sp (syN pl ns n d sy) (shN mk pl ns nv n d sy sh) ns nv (min (d + n) 99999) :=
  ⟨h.1, h.2.1, by omega, h.2.2.2.1, h.2.2.2.2.1, fun k hk => SayOK.syN n d sy (h.2.2.2.2.2.1 k hk), fun v hv => ShipOK.shN n d sy sh (h.2.2.2.2.2.2 v hv)⟩
theorem EI.day1 {pl sp sy sh : Nat → Int32} {ns nv d : Nat} (h : EI pl sp sy sh ns nv d) (mk : Nat → Bool) : EI pl sp (daySy ns (pl (d % 6)).toNatClampNeg (nI d) sy) (shR mk sy ns nv 0 sh) ns nv (min (d + 1) 99999) := h.days mk 1
theorem mDayR {nw pl sp sy sh : Nat → Int32} {ns nv d F : Nat} {zz : Int32} (hF : 8 < F) (h : EI pl sp sy sh ns nv d) (R : RW nw pl sp sy sh ns nv d zz) : ∃ nw', fX5_day F nw = some nw' ∧ RW nw' pl sp (daySy ns (pl (d % 6)).toNatClampNeg (nI d) sy) (shR (fun _ => true) sy ns nv 0 sh) ns nv (min (d + 1) 99999) zz := by
  obtain ⟨hns, hnv, hd, hpl, hsp, hsy, hsh⟩ := h
  obtain ⟨r0, r1, r2, r3, rp, rs, rS, rH⟩ := R
  obtain ⟨nw', g1, g2, g3, g4, g5⟩ := mDay hns hnv hF hd hpl (SaysFin hsy) r0 r1 r3 rp rS rH
  exact ⟨nw', g1, g2, (g5 1 (by omega) (by omega)).trans r1, (g5 2 (by omega) (by omega)).trans r2, (g5 3 (by omega) (by omega)).trans r3, fun i hi => (g5 _ (by omega) (by omega)).trans (rp i hi), fun i hi => (g5 _ (by omega) (by omega)).trans (rs i hi), g3, g4⟩
theorem mGoL {pl sp : Nat → Int32} {ns nv F N : Nat} {zz : Int32} (hF : 8 < F) (hN : N < 2 ^ 30) : ∀ (n c i d : Nat) (nw sy sh : Nat → Int32), i + c = N → c < n → EI pl sp sy sh ns nv d → RW nw pl sp sy sh ns nv d zz → ∃ nw', fX5_daysGo_2 F (nI N) n (nI i) nw = some nw' ∧ RW nw' pl sp (syN pl ns c d sy) (shN (fun _ => true) pl ns nv c d sy sh) ns nv (min (d + c) 99999) zz := by
  intro n
  induction n with
  | zero => intro c i d nw sy sh h1 h2; omega
  | succ n ih =>
    intro c i d nw sy sh h1 h2 hE R
    rw [fX5_daysGo_2]
    cases c with
    | zero =>
      obtain rfl : i = N := by omega
      rw [if_pos (nI_le (Nat.le_refl _) (by omega)), syN, shN, Nat.add_zero, Nat.min_eq_left hE.2.2.1]
      exact ⟨nw, rfl, R⟩
    | succ c =>
      obtain ⟨n1, g1, g2⟩ := mDayR hF hE R
      rw [if_neg (nI_ge (show i < N by omega) (by omega)), nI_1, g1, oSome, syN, shN, show min (d + (c + 1)) 99999 = min (min (d + 1) 99999 + c) 99999 by omega]
      exact ih c (i + 1) _ n1 _ _ (by omega) (by omega) (hE.day1 _) g2
theorem mGo {nw pl sp sy sh : Nat → Int32} {ns nv d F N : Nat} {zz : Int32} (hF : 8 < F) (hN : N < F) (hN2 : N < 2 ^ 30) (h : EI pl sp sy sh ns nv d) (R : RW nw pl sp sy sh ns nv d zz) : ∃ nw', fX5_daysGo F nw (nI N) = some nw' ∧ RW nw' pl sp (syN pl ns N d sy) (shN (fun _ => true) pl ns nv N d sy sh) ns nv (min (d + N) 99999) zz := mGoL hF hN2 F N 0 d nw sy sh (by omega) hN h R
/-! ships apart from each other -/
theorem shipStep_loc {sy sh sh' : Nat → Int32} {ns u : Nat} (h : ∀ f, f < 4 → sh (4 * u + f) = sh' (4 * u + f)) : ∀ f, f < 4 → shipStep sy ns sh u (4 * u + f) = shipStep sy ns sh' u (4 * u + f) := by
  intro f hf
  have h0 : sh (4 * u) = sh' (4 * u) := h 0 (by omega)
  have h1 := h 1 (by omega)
  have h2 := h 2 (by omega)
  have h3 := h 3 (by omega)
  unfold shipStep
  rw [h0, h1, h2, h3]
  split
  · exact h f hf
  · split
    · by_cases e : f = 3
      · subst e; rw [updS, updS]
      · rw [updN (by omega), updN (by omega)]; exact h f hf
    · by_cases e : f = 0
      · subst e; exact (updS (f := sh) (i := 4 * u)).trans (updS (f := sh') (i := 4 * u)).symm
      · rw [updN (by omega), updN (by omega)]; exact h f hf
theorem shR_at {mk : Nat → Bool} {sy : Nat → Int32} {ns u : Nat} : ∀ (c v : Nat) (sh : Nat → Int32), ∀ f, f < 4 → shR mk sy ns c v sh (4 * u + f) = if v ≤ u ∧ u < v + c ∧ mk u = true then shipStep sy ns sh u (4 * u + f) else sh (4 * u + f) := by
  intro c
  induction c with
  | zero => intro v sh f hf; rw [shR, if_neg (by omega)]
  | succ c ih =>
    intro v sh f hf
    rw [shR, ih (v + 1) _ f hf]
    by_cases e : u = v
    · subst e
      rw [if_neg (by omega)]
      by_cases hm : mk u = true
      · rw [if_pos hm, if_pos ⟨Nat.le_refl _, by omega, hm⟩]
      · rw [if_neg hm, if_neg (fun h => hm h.2.2)]
    · have hs : ∀ g, g < 4 → (if mk v = true then shipStep sy ns sh v else sh) (4 * u + g) = sh (4 * u + g) := by
        intro g hg
        split
        · exact shipStep_other (by omega)
        · rfl
      rw [hs f hf, shipStep_loc hs f hf]
      by_cases h : v + 1 ≤ u ∧ u < v + 1 + c ∧ mk u = true
      · rw [if_pos h, if_pos ⟨by omega, by omega, h.2.2⟩]
      · rw [if_neg h, if_neg (fun q => h ⟨by omega, by omega, q.2.2⟩)]
/-- a ship that moves under both masks is the same under both -/
theorem shN_at {mk mk' : Nat → Bool} {pl : Nat → Int32} {ns nv u : Nat} (hu : mk u = true) (hu' : mk' u = true) : ∀ (n d : Nat) (sy sh sh' : Nat → Int32), (∀ f, f < 4 → sh (4 * u + f) = sh' (4 * u + f)) → ∀ f, f < 4 → shN mk pl ns nv n d sy sh (4 * u + f) = shN mk' pl ns nv n d sy sh' (4 * u + f)
  | 0, _, _, _, _, h => h
  | n + 1, d, sy, sh, sh', h => shN_at hu hu' n _ _ _ _ (fun f hf => by
      rw [shR_at nv 0 sh f hf, shR_at nv 0 sh' f hf]
      by_cases hc : 0 ≤ u ∧ u < 0 + nv
      · rw [if_pos ⟨hc.1, hc.2, hu⟩, if_pos ⟨hc.1, hc.2, hu'⟩]; exact shipStep_loc h f hf
      · rw [if_neg (fun q => hc ⟨q.1, q.2.1⟩), if_neg (fun q => hc ⟨q.1, q.2.1⟩)]; exact h f hf)
