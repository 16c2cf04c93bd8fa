/-! PURE, sixteenth part: decide -/
def bI (b : Bool) : Int32 := if b = true then 1 else 0
theorem nbT {b : Bool} (h : ¬ b = true) : b = false := by
  cases b
  · rfl
  · exact absurd rfl h
def allB (sh : Nat → Int32) : Nat → Bool
  | 0 => true
  | k + 1 => allB sh k && inP sh k
theorem allB_iff (sh : Nat → Int32) : ∀ nv, allB sh nv = true ↔ ∀ v, v < nv → inP sh v = true
  | 0 => ⟨fun _ v h => absurd h (Nat.not_lt_zero v), fun _ => rfl⟩
  | k + 1 => by
    rw [allB, Bool.and_eq_true, allB_iff sh k]
    refine ⟨fun h v hv => ?_, fun h => ⟨fun v hv => h v (by omega), h k (by omega)⟩⟩
    by_cases e : v = k
    · subst e; exact h.2
    · exact h.1 v (by omega)
theorem bitN_all (p : Nat → Bool) : ∀ k, bitN p k = 2 ^ k - 1 ↔ ∀ i, i < k → p i = true
  | 0 => ⟨fun _ v h => absurd h (Nat.not_lt_zero v), fun _ => rfl⟩
  | k + 1 => by
    have ih := bitN_all p k
    have hl := bitN_lt p k
    have hp : 0 < 2 ^ k := Nat.two_pow_pos k
    rw [bitN, Nat.pow_succ]
    by_cases h : p k = true
    · rw [if_pos h]
      constructor
      · intro e i hi
        by_cases e2 : i = k
        · subst e2; exact h
        · exact ih.mp (by omega) i (by omega)
      · intro e
        have := ih.mpr fun i hi => e i (by omega)
        omega
    · rw [if_neg h]
      exact ⟨fun e => by omega, fun e => absurd (e k (by omega)) h⟩
theorem full8 : ∀ k, k ≤ 8 → ((1 <<< (nI k &&& 31)) - 1 : Int32) = nI (2 ^ k - 1) := by decide +kernel
theorem pow8 : ∀ k, k ≤ 8 → (1 <<< (nI k &&& 31) : Int32) = nI (2 ^ k) := by decide +kernel
theorem allP {sh : Nat → Int32} {nv : Nat} (h : nv ≤ 8) : bitS (inP sh) nv = ((1 <<< (nI nv &&& 31)) - 1) ↔ allB sh nv = true := by
  have := p256 h
  have := bitN_lt (inP sh) nv
  rw [bitS_N _ _ h, full8 nv h, nI_eq (by omega) (by omega), bitN_all, allB_iff]
def finX (x : Int32) : Nat → Nat → (Nat → Int32) → (Nat → Int32)
  | 0, _, sy => sy
  | c + 1, k, sy => finX x c (k + 1) (if ((x >>> (nI k &&& 31)) &&& 1) = 1 then upd sy (5 * k + 3) 1 else sy)
theorem EI.bit {pl sp sy sh : Nat → Int32} {ns nv d : Nat} (h : EI pl sp sy sh ns nv d) (x : Int32) (k : Nat) : EI pl sp (if ((x >>> (nI k &&& 31)) &&& 1) = 1 then upd sy (5 * k + 3) 1 else sy) sh ns nv d := by
  split
  · exact h.setS (by omega) ⟨1, by decide, rfl⟩
  · exact h
theorem EI.finX {pl sp sh : Nat → Int32} {ns nv d : Nat} (x : Int32) : ∀ (c k : Nat) (sy : Nat → Int32), EI pl sp sy sh ns nv d → EI pl sp (finX x c k sy) sh ns nv d
  | 0, _, _, h => h
  | c + 1, k, _, h => EI.finX x c (k + 1) _ (h.bit x k)
theorem mAllL {pl sp sh ad : Nat → Int32} {ns nv d F N : Nat} {zz x : Int32} (hFu : 300 ≤ F) (hN : N ≤ 16) : ∀ (c n k : Nat) (sy nw : Nat → Int32), k + c = ns → c < n → EI pl sp sy sh ns nv d → RW nw pl sp sy sh ns nv d zz → ∃ nw', fX5_allLand_13 F ad x (nI N) n (nI k) nw = some (bI (allB (shN (fun _ => true) pl ns nv N d (finX x c k sy) sh) nv), nw', ad) ∧ ∀ i, i < 84 → nw' i = ad i := by
  intro c
  induction c with
  | zero =>
    intro n k sy nw h1 h2 hE hR
    have hns := hE.1
    obtain ⟨n, rfl⟩ : ∃ q, n = q + 1 := ⟨n - 1, by omega⟩
    obtain rfl : k = ns := by omega
    obtain ⟨n1, g1, g2⟩ := mGo (N := N) (F := F) (by omega) (by omega) (by omega) hE hR
    obtain ⟨n2, b1, b2⟩ := mCopy (F := F) (by omega) ad n1
    refine ⟨n2, ?_, b2⟩
    rw [fX5_allLand_13, hR.2.1, if_pos (nI_le (Nat.le_refl _) (by omega)), g1, oSome, mPorts g2.2.2.2.2.2.2.2 g2.2.2.2.1 hE.2.1 (by omega), oSome, g2.2.2.2.1, b1, oSome, oSome, finX]
    unfold bI
    by_cases e : bitS (inP (shN (fun _ => true) pl k nv N d sy sh)) nv = ((1 <<< (nI nv &&& 31)) - 1)
    · rw [if_pos e, if_pos ((allP (by have := hE.2.1; omega)).mp e)]
    · rw [if_neg e, if_neg (fun q => e ((allP (by have := hE.2.1; omega)).mpr q))]
  | succ c ih =>
    intro n k sy nw h1 h2 hE hR
    have hns := hE.1
    obtain ⟨n, rfl⟩ : ∃ q, n = q + 1 := ⟨n - 1, by omega⟩
    have ea : fX5_sayingAt (nI k) 3 = nI (20 + (5 * k + 3)) := (at5 k 3).trans (congrArg nI (Nat.add_assoc 20 (5 * k) 3))
    rw [fX5_allLand_13, hR.2.1, if_neg (nI_ge (show k < ns by omega) (by omega)), ea, if_pos (in84 (by omega)), nI_clamp (show 20 + (5 * k + 3) < 2 ^ 31 by omega), nI_1, finX]
    by_cases e : ((x >>> (nI k &&& 31)) &&& 1) = 1
    · rw [if_pos e, if_pos e]
      exact ih n (k + 1) _ _ (by omega) (by omega) (hE.setS (by omega) ⟨1, by decide, rfl⟩) (hR.setS (by omega))
    · rw [if_neg e, if_neg e]
      exact ih n (k + 1) _ _ (by omega) (by omega) hE hR
theorem mAll {pl sp sy sh ad nwc : Nat → Int32} {ns nv d F N : Nat} {zz : Int32} (hFu : 300 ≤ F) (hN : N ≤ 16) (hE : EI pl sp sy sh ns nv d) (hR : RW nwc pl sp sy sh ns nv d zz) (x : Int32) : ∃ nw' ad', fX5_allLand F nwc ad x (nI N) = some (bI (allB (shN (fun _ => true) pl ns nv N d (finX x ns 0 sy) sh) nv), nw', ad') ∧ ∀ i, i < 84 → nw' i = nwc i := by
  have hns := hE.1
  obtain ⟨a1, b1, b2⟩ := mCopy (F := F) (by omega) nwc ad
  obtain ⟨nw', g1, g2⟩ := mAllL (ad := a1) (x := x) hFu hN ns F 0 sy nwc (by omega) (by omega) hE hR
  refine ⟨nw', a1, ?_, fun i hi => (g2 i hi).trans (b2 i hi)⟩
  unfold fX5_allLand
  rw [b1, oSome]; exact g1
/-! the class gives a set up as soon as a ship would come too late -/
theorem cell_step {mk : Nat → Bool} {sy sh : Nat → Int32} {ns nv u c f : Nat} (hc : sh (4 * u) = nI c) (hc15 : c ≤ 15) (hf : sh (4 * u + 2) = nI f) (hf5 : f ≤ 5) : ∃ c', shR mk sy ns nv 0 sh (4 * u) = nI c' ∧ c' ≤ c + f ∧ c' ≤ 15 ∧ shR mk sy ns nv 0 sh (4 * u + 2) = nI f := by
  have k0 := shR_at (mk := mk) (sy := sy) (ns := ns) (u := u) nv 0 sh 0 (by omega)
  have k2 := shR_at (mk := mk) (sy := sy) (ns := ns) (u := u) nv 0 sh 2 (by omega)
  rw [show 4 * u + 0 = 4 * u by omega] at k0
  rw [k0, k2]
  by_cases e : 0 ≤ u ∧ u < 0 + nv ∧ mk u = true
  · rw [if_pos e, if_pos e]
    unfold shipStep
    rw [hc, hf]
    by_cases e1 : nI c = 15
    · rw [if_pos e1]; exact ⟨c, hc, by omega, hc15, hf⟩
    rw [if_neg e1]
    by_cases e2 : sh (4 * u + 1) < thickS sy ns (nI c)
    · rw [if_pos e2, updN (by omega), updN (by omega)]; exact ⟨c, hc, by omega, hc15, hf⟩
    · rw [if_neg e2, updS, updN (by omega), nI_add]
      unfold minS
      by_cases e3 : nI (c + f) < 15
      · rw [if_pos e3]; exact ⟨c + f, rfl, Nat.le_refl _, Nat.le_of_lt ((nI_ltI (b := 15) (by omega) (by decide)).mp e3), hf⟩
      · rw [if_neg e3]; exact ⟨15, rfl, Nat.le_of_not_lt fun q => e3 (nI_lt (b := 15) q (by decide)), Nat.le_refl _, hf⟩
  · rw [if_neg e, if_neg e]; exact ⟨c, hc, by omega, hc15, hf⟩
theorem cell_le {mk : Nat → Bool} {pl : Nat → Int32} {ns nv u f : Nat} (hf5 : f ≤ 5) : ∀ (n d c : Nat) (sy sh : Nat → Int32), sh (4 * u) = nI c → c ≤ 15 → sh (4 * u + 2) = nI f → ∃ c', shN mk pl ns nv n d sy sh (4 * u) = nI c' ∧ c' ≤ c + n * f ∧ c' ≤ 15
  | 0, d, c, sy, sh, hc, h15, _ => ⟨c, hc, by omega, h15⟩
  | n + 1, d, c, sy, sh, hc, h15, hf => by
    obtain ⟨c1, g1, g2, g3, g4⟩ := cell_step (mk := mk) (sy := sy) (ns := ns) (nv := nv) hc h15 hf hf5
    obtain ⟨c2, k1, k2, k3⟩ := cell_le hf5 n (min (d + 1) 99999) c1 (daySy ns (pl (d % 6)).toNatClampNeg (nI d) sy) (shR mk sy ns nv 0 sh) g1 g3 g4
    exact ⟨c2, k1, by rw [Nat.succ_mul]; omega, k3⟩
theorem couldL {sh : Nat → Int32} {nv m : Nat} (hnv : nv ≤ 6) (hm : m ≤ 16) (hO : ∀ v, v < nv → ShipOK sh v) : ∀ (c n k : Nat), k + c = nv → c < n → (∀ v, v < k → ∃ p f, sh (4 * v) = nI p ∧ sh (4 * v + 2) = nI f ∧ f ≤ 5 ∧ p ≤ 15 ∧ 15 ≤ p + m * f) → (fX0_couldAllLand_2 sh (nI nv) (nI m) n (nI k) = some 1 ∧ ∀ v, v < nv → ∃ p f, sh (4 * v) = nI p ∧ sh (4 * v + 2) = nI f ∧ f ≤ 5 ∧ p ≤ 15 ∧ 15 ≤ p + m * f) ∨ (fX0_couldAllLand_2 sh (nI nv) (nI m) n (nI k) = some 0 ∧ ∃ v p f, v < nv ∧ sh (4 * v) = nI p ∧ sh (4 * v + 2) = nI f ∧ f ≤ 5 ∧ p ≤ 15 ∧ p + m * f < 15) := by
  intro c
  induction c with
  | zero =>
    intro n k h1 h2 h3
    obtain ⟨n, rfl⟩ : ∃ q, n = q + 1 := ⟨n - 1, by omega⟩
    obtain rfl : k = nv := by omega
    rw [fX0_couldAllLand_2, if_pos (nI_le (Nat.le_refl _) (by omega))]
    exact Or.inl ⟨rfl, h3⟩
  | succ c ih =>
    intro n k h1 h2 h3
    obtain ⟨n, rfl⟩ : ∃ q, n = q + 1 := ⟨n - 1, by omega⟩
    obtain ⟨⟨p, hp, ep⟩, _, ⟨f, hf1, hf5, ef⟩, _⟩ := hO k (by omega)
    have hmf : m * f ≤ 16 * 5 := Nat.mul_le_mul hm hf5
    rw [fX0_couldAllLand_2, if_neg (nI_ge (show k < nv by omega) (by omega)), hHas0 (by omega), hHas2 (by omega), ep, ef, pk_mul, nI_add, nI_1]
    by_cases e : (15 : Int32) ≤ nI (p + m * f)
    · have e2 : 15 ≤ p + m * f := (nI_leI (a := 15) (by decide) (by omega)).mp e
      rw [if_pos e]
      refine ih n (k + 1) (by omega) (by omega) fun v hv => ?_
      by_cases e3 : v = k
      · subst e3; exact ⟨p, f, ep, ef, hf5, hp, e2⟩
      · exact h3 v (by omega)
    · rw [if_neg e]
      exact Or.inr ⟨rfl, k, p, f, by omega, ep, ef, hf5, hp, Nat.lt_of_not_le fun q => e (nI_le (a := 15) q (by omega))⟩
theorem cLandL {pl sp : Nat → Int32} {ns nv F : Nat} {tz : Int32} (hFu : 300 ≤ F) : ∀ (c n d : Nat) (sy sh : Nat → Int32), c ≤ 16 → c < n → EI pl sp sy sh ns nv d → ∃ sy' sh' d', fX4_allLandIfFinished_51 F pl sp (nI ns) (nI nv) tz n (nI c) sy sh (nI d) = some (bI (allB (shN (fun _ => true) pl ns nv c d sy sh) nv), pl, sp, sy', sh', nI ns, nI nv, d', tz) := by
  intro c
  induction c with
  | zero =>
    intro n d sy sh h1 h2 hE
    have hnv := hE.2.1
    obtain ⟨n, rfl⟩ : ∃ q, n = q + 1 := ⟨n - 1, by omega⟩
    rw [fX4_allLandIfFinished_51, if_pos (show nI 0 ≤ 0 by decide)]
    have hc := couldL (sh := sh) (nv := nv) (m := 0) hE.2.1 (by omega) hE.2.2.2.2.2.2 nv F 0 (by omega) (by omega) (fun v hv => absurd hv (Nat.not_lt_zero v))
    have e0 : fX0_couldAllLand F sh (nI nv) 0 = fX0_couldAllLand_2 sh (nI nv) (nI 0) F (nI 0) := rfl
    rcases hc with ⟨g1, g2⟩ | ⟨g1, v, p, f, hv, ep, ef, hf, hp, hl⟩
    · have : allB (shN (fun _ => true) pl ns nv 0 d sy sh) nv = true := (allB_iff _ _).mpr fun v hv => by
        obtain ⟨p, f, ep, ef, hf, hp, h15⟩ := g2 v hv
        exact decide_eq_true (show sh (4 * v) = 15 from by rw [ep]; exact congrArg nI (show p = 15 by omega))
      rw [e0, g1, oSome, this]
      exact ⟨_, _, _, rfl⟩
    · have : ¬ allB (shN (fun _ => true) pl ns nv 0 d sy sh) nv = true := fun q => by
        have e : sh (4 * v) = 15 := of_decide_eq_true ((allB_iff _ _).mp q v hv)
        rw [ep] at e
        have := (nI_eq (b := 15) (by omega) (by decide)).mp e
        omega
      rw [e0, g1, oSome, nbT this]
      exact ⟨_, _, _, rfl⟩
  | succ c ih =>
    intro n d sy sh h1 h2 hE
    have hnv := hE.2.1
    obtain ⟨n, rfl⟩ : ∃ q, n = q + 1 := ⟨n - 1, by omega⟩
    rw [fX4_allLandIfFinished_51, if_neg (nI_nle (by omega) (by omega))]
    have hc := couldL (sh := sh) (nv := nv) (m := c + 1) hE.2.1 (by omega) hE.2.2.2.2.2.2 nv F 0 (by omega) (by omega) (fun v hv => absurd hv (Nat.not_lt_zero v))
    have e0 : fX0_couldAllLand F sh (nI nv) (nI (c + 1)) = fX0_couldAllLand_2 sh (nI nv) (nI (c + 1)) F (nI 0) := rfl
    rcases hc with ⟨g1, g2⟩ | ⟨g1, v, p, f, hv, ep, ef, hf, hp, hl⟩
    · rw [e0, g1, oSome, if_neg (by decide), cPass1 hE.1 hnv (by omega) hE.2.2.2.1 _ hE.2.2.1, oSome, pk_m1]
      dsimp only
      rw [shR_mk (mk := mkB 63) (mk' := fun _ => true) nv 0 sh fun u _ h => mkB63 (by omega)]
      exact ih n _ _ _ (by omega) (by omega) (hE.day1 _)
    · have : ¬ allB (shN (fun _ => true) pl ns nv (c + 1) d sy sh) nv = true := fun q => by
        obtain ⟨c', k1, k2, k3⟩ := cell_le (mk := fun _ => true) (pl := pl) (ns := ns) (nv := nv) hf (c + 1) d p sy sh ep hp ef
        have e : shN (fun _ => true) pl ns nv (c + 1) d sy sh (4 * v) = 15 := of_decide_eq_true ((allB_iff _ _).mp q v hv)
        rw [k1] at e
        have := (nI_eq (b := 15) (by omega) (by decide)).mp e
        omega
      rw [e0, g1, oSome, if_pos rfl, nbT this]
      exact ⟨_, _, _, rfl⟩
theorem cFinL {K : (Nat → Int32) → Option (Int32 × (Nat → Int32) × (Nat → Int32) × (Nat → Int32) × (Nat → Int32) × Int32 × Int32 × Int32 × Int32)} {ns : Nat} (hns : ns ≤ 8) (x : Int32) : ∀ (c n k : Nat) (sy : Nat → Int32), k + c = ns → c < n → fX4_allLandIfFinished_13 K (nI ns) x n (nI k) sy = K (finX x c k sy) := by
  intro c
  induction c with
  | zero =>
    intro n k sy h1 h2
    obtain ⟨n, rfl⟩ : ∃ q, n = q + 1 := ⟨n - 1, by omega⟩
    rw [fX4_allLandIfFinished_13, if_pos (nI_le (by omega) (by omega)), finX]
  | succ c ih =>
    intro n k sy h1 h2
    obtain ⟨n, rfl⟩ : ∃ q, n = q + 1 := ⟨n - 1, by omega⟩
    rw [fX4_allLandIfFinished_13, if_neg (nI_ge (show k < ns by omega) (by omega)), nI_1, finX, show fX0_setOfSaying sy (nI k) 3 1 = upd sy (5 * k + 3) 1 from sPut (f := 3) (by omega) (by decide)]
    by_cases e : ((x >>> (nI k &&& 31)) &&& 1) = 1
    · rw [if_pos e, if_pos e]; exact ih n (k + 1) _ (by omega) (by omega)
    · rw [if_neg e, if_neg e]; exact ih n (k + 1) _ (by omega) (by omega)
/-- whether all land if a set is finished -/
def Ld (ppl psy psh : Nat → Int32) (ns nv d N : Nat) (x : Int32) : Bool := allB (shN (fun _ => true) ppl ns nv N d (finX x ns 0 psy) psh) nv
theorem bI_inj {a b : Bool} (h : bI a = bI b) : a = b := by
  cases a <;> cases b
  · rfl
  · exact absurd h (by decide)
  · exact absurd h (by decide)
  · rfl
theorem cAll {ppl psp psy psh nw tpl tsp tsy tsh : Nat → Int32} {ns nv d F N : Nat} {zz tsc tnc tdy tzz : Int32} (hFu : 300 ≤ F) (hN : N ≤ 16) (hE : EI ppl psp psy psh ns nv d) (hR : RW nw ppl psp psy psh ns nv d zz) (x : Int32) : ∃ tpl' tsp' tsy' tsh' tsc' tnc' tdy' tzz', fX4_allLandIfFinished F ppl psp psy psh tpl tsp tsy tsh (nI ns) (nI nv) (nI d) zz tsc tnc tdy tzz x (nI N) = some (bI (Ld ppl psy psh ns nv d N x), tpl', tsp', tsy', tsh', tsc', tnc', tdy', tzz') := by
  have hns := hE.1
  have hE2 := hE.tr (tl := tpl) (tp := tsp) (ty := tsy) (th := tsh)
  obtain ⟨n1, a1, g1, _⟩ := mAll (ad := nw) (x := x) hFu hN hE hR
  obtain ⟨n2, a2, g2, _⟩ := mAll (ad := nw) (x := x) hFu hN hE2 hR.tr
  have e := congrArg (fun z => z.1) (Option.some.inj (g1.symm.trans g2))
  have e2 := bI_inj e
  obtain ⟨sy', sh', d', g3⟩ := cLandL (tz := zz) hFu N F d (finX x ns 0 (va_cpy psy tsy 0 0 40)) (va_cpy psh tsh 0 0 24) hN (by omega) (hE2.finX x ns 0 _)
  unfold fX4_allLandIfFinished
  simp only [bo0, bo1, bo2, bo3, bo4, bo5, bo6, bo7]
  have k1 := cFinL (K := fun tsy__3 => fX4_allLandIfFinished_51 F (va_cpy ppl tpl 0 0 6) (va_cpy psp tsp 0 0 10) (nI ns) (nI nv) zz F (nI N) tsy__3 (va_cpy psh tsh 0 0 24) (nI d)) hns x ns F 0 (va_cpy psy tsy 0 0 40) (by omega) (by omega)
  have k2 : fX4_allLandIfFinished_13 (fun tsy__3 => fX4_allLandIfFinished_51 F (va_cpy ppl tpl 0 0 6) (va_cpy psp tsp 0 0 10) (nI ns) (nI nv) zz F (nI N) tsy__3 (va_cpy psh tsh 0 0 24) (nI d)) (nI ns) x F 0 (va_cpy psy tsy 0 0 40) = _ := k1
  rw [k2, g3, ← e2]
  exact ⟨_, _, _, _, _, _, _, _, rfl⟩
/-! the least of them -/
def bc (a : Nat) : Nat := (fJ6_bitCount_0f7a4 (nI a)).toNatClampNeg
theorem bc256 : ∀ a, a < 256 → fJ6_bitCount_0f7a4 (nI a) = nI (bc a) ∧ bc a ≤ 8 := by decide +kernel
def bt (a k : Nat) : Bool := decide (((nI a >>> (nI k &&& 31)) &&& 1) = 1)
def outOK (a k : Nat) : Bool := !(bt a k) || (decide (2 ^ k ≤ a) && (decide (bc (a - 2 ^ k) < bc a) && (List.range 8).all fun j => bt (a - 2 ^ k) j == (bt a j && !(j == k))))
theorem outB : ∀ a, a < 256 → ∀ k, k < 8 → outOK a k = true := by decide +kernel
theorem bitOut (a : Nat) (ha : a < 256) (k : Nat) (hk : k < 8) (hb : bt a k = true) : 2 ^ k ≤ a ∧ bc (a - 2 ^ k) < bc a ∧ ∀ j, j < 8 → (bt (a - 2 ^ k) j = true ↔ bt a j = true ∧ j ≠ k) := by
  have h := outB a ha k hk
  unfold outOK at h
  rw [hb, Bool.not_true, Bool.false_or, Bool.and_eq_true, Bool.and_eq_true, List.all_eq_true] at h
  refine ⟨of_decide_eq_true h.1, of_decide_eq_true h.2.1, fun j hj => ?_⟩
  have e := eq_of_beq (h.2.2 j (List.mem_range.mpr hj))
  rw [e, Bool.and_eq_true, Bool.not_eq_true', beq_eq_false_iff_ne]
theorem bitNo : ∀ a, a < 256 → ∀ k, k < 8 → bt a k = false → nI a &&& (1 <<< (nI k &&& 31)) = 0 := by decide +kernel
theorem and_or (x a b : Int32) : x &&& (a ||| b) = (x &&& a) ||| (x &&& b) := by
  apply Int32.toBitVec_inj.mp
  show x.toBitVec &&& (a.toBitVec ||| b.toBitVec) = (x.toBitVec &&& a.toBitVec) ||| (x.toBitVec &&& b.toBitVec)
  exact BitVec.and_or_distrib_left
theorem noBit {a : Nat} (ha : a < 256) (p : Nat → Bool) : ∀ n, n ≤ 8 → (∀ k, k < n → ¬ (bt a k = true ∧ p k = true)) → nI a &&& bitS p n = 0
  | 0, _, _ => Int32.and_zero
  | n + 1, hn, h => by
    have ih := noBit ha p n (by omega) fun k hk => h k (by omega)
    rw [bitS]
    by_cases e : p n = true
    · rw [if_pos e, and_or, ih, bitNo a ha n (by omega) (nbT fun q => h n (by omega) ⟨q, e⟩)]
      decide
    · rw [if_neg e]; exact ih
theorem finX_out {x x' : Int32} {k : Nat} (hb : ∀ j, j < 8 → j ≠ k → ((((x >>> (nI j &&& 31)) &&& 1) = 1) ↔ (((x' >>> (nI j &&& 31)) &&& 1) = 1))) : ∀ (c j : Nat) (sy : Nat → Int32), j + c ≤ 8 → sy (5 * k + 3) = 1 → finX x c j sy = finX x' c j sy
  | 0, _, _, _, _ => rfl
  | c + 1, j, sy, hj, hs => by
    have hu : ∀ (q : Prop) [Decidable q], (if q then upd sy (5 * k + 3) 1 else sy) = sy := by
      intro q _
      split
      · funext i
        by_cases e : i = 5 * k + 3
        · subst e; rw [updS, hs]
        · rw [updN e]
      · rfl
    rw [finX, finX]
    by_cases e : j = k
    · subst e
      rw [hu, hu]
      exact finX_out hb c (j + 1) sy (by omega) hs
    · have hi := hb j (by omega) e
      by_cases e2 : ((x >>> (nI j &&& 31)) &&& 1) = 1
      · rw [if_pos e2, if_pos (hi.mp e2)]
        exact finX_out hb c (j + 1) _ (by omega) (by rw [updN (by omega)]; exact hs)
      · rw [if_neg e2, if_neg (fun q => e2 (hi.mpr q))]
        exact finX_out hb c (j + 1) _ (by omega) hs
/-- before another, by bits, then by number -/
def lq (a b : Nat) : Prop := bc a < bc b ∨ (bc a = bc b ∧ a ≤ b)
section DEC
variable {ppl psp psy psh : Nat → Int32} {ns nv d N : Nat}
theorem least_ok {m : Nat} (hns : ns ≤ 8) (hm : m < 2 ^ ns) (hl : Ld ppl psy psh ns nv d N (nI m) = true) (hmin : ∀ j, j < 2 ^ ns → Ld ppl psy psh ns nv d N (nI j) = true → lq m j) : nI m &&& bitS (isF psy) ns = 0 := by
  have h256 := p256 hns
  refine noBit (by omega) _ ns hns fun k hk ⟨hb, hf⟩ => ?_
  obtain ⟨h1, h2, h3⟩ := bitOut m (by omega) k (by omega) hb
  have e : finX (nI (m - 2 ^ k)) ns 0 psy = finX (nI m) ns 0 psy := finX_out (k := k) (fun j hj hjk => by
    have := h3 j hj
    constructor
    · intro q; exact of_decide_eq_true (this.mp (decide_eq_true q)).1
    · intro q; exact of_decide_eq_true (this.mpr ⟨decide_eq_true q, hjk⟩)) ns 0 psy (by omega) (of_decide_eq_true hf)
  have hl2 : Ld ppl psy psh ns nv d N (nI (m - 2 ^ k)) = true := by unfold Ld at hl ⊢; rw [e]; exact hl
  rcases hmin _ (Nat.lt_of_le_of_lt (Nat.sub_le _ _) hm) hl2 with q | q <;> omega
theorem cDecL {nw fd fm : Nat → Int32} {F : Nat} {zz : Int32} (hFu : 300 ≤ F) (hN : N ≤ 16) (hE : EI ppl psp psy psh ns nv d) (hR : RW nw ppl psp psy psh ns nv d zz) : ∀ (c n k : Nat) (best few : Int32) (tpl tsp tsy tsh : Nat → Int32) (tsc tnc tdy tzz : Int32), k + c = 2 ^ ns → c < n →
    (best = -1 ∧ few = 9 ∧ (∀ j, j < k → Ld ppl psy psh ns nv d N (nI j) = true → ¬ nI j &&& bitS (isF psy) ns = 0) ∨ ∃ m, m < k ∧ best = nI m ∧ few = nI (bc m) ∧ Ld ppl psy psh ns nv d N (nI m) = true ∧ nI m &&& bitS (isF psy) ns = 0 ∧ ∀ j, j < k → Ld ppl psy psh ns nv d N (nI j) = true → nI j &&& bitS (isF psy) ns = 0 → lq m j) →
    ∃ r tpl' tsp' tsy' tsh' fd' tsc' tnc' tdy' tzz', fX4_decide_34 F ppl psp psy psh (nI ns) (nI nv) (nI d) zz (nI N) (bitS (isF psy) ns) n best few (nI k) tpl tsp tsy tsh fd tsc tnc tdy tzz = some (r, tpl', tsp', tsy', tsh', fd', tsc', tnc', tdy', tzz') ∧
      ((r = -1000004 ∧ fd' = fX4_finding_o1 fd (-1000004) ∧ (∀ j, j < 2 ^ ns → Ld ppl psy psh ns nv d N (nI j) = true → ¬ nI j &&& bitS (isF psy) ns = 0)) ∨ ∃ m, m < 2 ^ ns ∧ r = nI m ∧ fd' = fd ∧ Ld ppl psy psh ns nv d N (nI m) = true ∧ nI m &&& bitS (isF psy) ns = 0 ∧ ∀ j, j < 2 ^ ns → Ld ppl psy psh ns nv d N (nI j) = true → nI j &&& bitS (isF psy) ns = 0 → lq m j) := by
  have hns := hE.1
  have h256 := p256 hns
  intro c
  induction c with
  | zero =>
    intro n k best few tpl tsp tsy tsh tsc tnc tdy tzz h1 h2 hI
    obtain ⟨n, rfl⟩ : ∃ q, n = q + 1 := ⟨n - 1, by omega⟩
    obtain rfl : k = 2 ^ ns := by omega
    rw [fX4_decide_34, pow8 ns hns, if_pos (nI_le (Nat.le_refl _) (by omega))]
    rcases hI with ⟨e1, e2, e3⟩ | ⟨m, hm, e1, e2, e3⟩
    · rw [if_pos e1]; exact ⟨_, _, _, _, _, _, _, _, _, _, rfl, Or.inl ⟨rfl, rfl, e3⟩⟩
    · rw [if_neg (by rw [e1]; exact nI_nm1 (by omega))]; exact ⟨_, _, _, _, _, _, _, _, _, _, rfl, Or.inr ⟨m, hm, e1, rfl, e3⟩⟩
  | succ c ih =>
    intro n k best few tpl tsp tsy tsh tsc tnc tdy tzz h1 h2 hI
    obtain ⟨n, rfl⟩ : ∃ q, n = q + 1 := ⟨n - 1, by omega⟩
    have hk : k < 256 := by omega
    obtain ⟨b1, b2⟩ := bc256 k hk
    rw [fX4_decide_34, pow8 ns hns, if_neg (nI_ge (show k < 2 ^ ns by omega) (by omega)), b1, nI_1]
    by_cases ek : nI k &&& bitS (isF psy) ns = 0
    · rw [if_pos ek]
      have hfew : (few ≤ nI (bc k) ↔ ∃ m, m < k ∧ best = nI m ∧ bc m ≤ bc k) := by
        rcases hI with ⟨e1, e2, e3⟩ | ⟨m, hm, e1, e2, e3⟩
        · constructor
          · intro q
            rw [e2] at q
            have := (nI_leI (a := 9) (by decide) (by omega)).mp q
            omega
          · rintro ⟨m, hm, e, _⟩
            rw [e1] at e
            exact absurd e.symm (nI_nm1 (by omega))
        · have := (bc256 m (by omega)).2
          constructor
          · intro q
            rw [e2] at q
            exact ⟨m, hm, e1, (nI_leI (by omega) (by omega)).mp q⟩
          · rintro ⟨m', hm', e, hle⟩
            rw [e1] at e
            have em := (nI_eq (by omega) (by omega)).mp e
            subst em
            rw [e2]; exact nI_le hle (by omega)
      by_cases ef : few ≤ nI (bc k)
      · rw [if_pos ef]
        refine ih n (k + 1) _ _ _ _ _ _ _ _ _ _ (by omega) (by omega) ?_
        obtain ⟨m, hm, em, hle⟩ := hfew.mp ef
        rcases hI with ⟨e1, e2, e3⟩ | ⟨m', hm', e1, e2, e3, e4, e5⟩
        · rw [e1] at em; exact absurd em.symm (nI_nm1 (by omega))
        · rw [e1] at em
          have emm := (nI_eq (by omega) (by omega)).mp em
          subst emm
          refine Or.inr ⟨m', by omega, e1, e2, e3, e4, fun j hj g1 g2 => ?_⟩
          by_cases e : j = k
          · subst e
            rcases Nat.lt_or_eq_of_le hle with q | q
            · exact Or.inl q
            · exact Or.inr ⟨q, by omega⟩
          · exact e5 j (by omega) g1 g2
      · obtain ⟨tpl', tsp', tsy', tsh', tsc', tnc', tdy', tzz', g1⟩ := cAll (tpl := tpl) (tsp := tsp) (tsy := tsy) (tsh := tsh) (tsc := tsc) (tnc := tnc) (tdy := tdy) (tzz := tzz) hFu hN hE hR (nI k)
        rw [if_neg ef, g1, oSome]
        dsimp only
        by_cases el : Ld ppl psy psh ns nv d N (nI k) = true
        · rw [if_neg (by rw [el]; decide)]
          refine ih n (k + 1) _ _ _ _ _ _ _ _ _ _ (by omega) (by omega) (Or.inr ⟨k, by omega, rfl, rfl, el, ek, fun j hj g1 g2 => ?_⟩)
          by_cases e : j = k
          · subst e; exact Or.inr ⟨rfl, Nat.le_refl _⟩
          · rcases hI with ⟨e1, e2, e3⟩ | ⟨m', hm', e1, e2, e3, e4, e5⟩
            · exact absurd g2 (e3 j (by omega) g1)
            · have hlt : ¬ bc m' ≤ bc k := fun q => ef (hfew.mpr ⟨m', hm', e1, q⟩)
              rcases e5 j (by omega) g1 g2 with q | q
              · exact Or.inl (by omega)
              · exact Or.inl (by omega)
        · rw [if_pos (by rw [nbT el]; decide)]
          refine ih n (k + 1) _ _ _ _ _ _ _ _ _ _ (by omega) (by omega) ?_
          rcases hI with ⟨e1, e2, e3⟩ | ⟨m', hm', e1, e2, e3, e4, e5⟩
          · refine Or.inl ⟨e1, e2, fun j hj hg => ?_⟩
            by_cases e : j = k
            · subst e; exact absurd hg el
            · exact e3 j (by omega) hg
          · refine Or.inr ⟨m', by omega, e1, e2, e3, e4, fun j hj hg g2 => ?_⟩
            by_cases e : j = k
            · subst e; exact absurd hg el
            · exact e5 j (by omega) hg g2
    · rw [if_neg ek]
      refine ih n (k + 1) _ _ _ _ _ _ _ _ _ _ (by omega) (by omega) ?_
      rcases hI with ⟨e1, e2, e3⟩ | ⟨m', hm', e1, e2, e3, e4, e5⟩
      · refine Or.inl ⟨e1, e2, fun j hj g1 => ?_⟩
        by_cases e : j = k
        · subst e; exact ek
        · exact e3 j (by omega) g1
      · refine Or.inr ⟨m', by omega, e1, e2, e3, e4, fun j hj g1 g2 => ?_⟩
        by_cases e : j = k
        · subst e; exact absurd g2 ek
        · exact e5 j (by omega) g1 g2
theorem mDecL {nw fd fm : Nat → Int32} {F : Nat} {zz : Int32} (hFu : 300 ≤ F) (hN : N ≤ 16) (hE : EI ppl psp psy psh ns nv d) (hFD : FD fd fm) : ∀ (c n : Nat) (best : Int32) (nwc ad : Nat → Int32), c ≤ 2 ^ ns → c < n → RW nwc ppl psp psy psh ns nv d zz →
    (best = -1 ∧ (∀ j, c ≤ j → j < 2 ^ ns → ¬ Ld ppl psy psh ns nv d N (nI j) = true) ∨ ∃ m, c ≤ m ∧ m < 2 ^ ns ∧ best = nI m ∧ Ld ppl psy psh ns nv d N (nI m) = true ∧ ∀ j, c ≤ j → j < 2 ^ ns → Ld ppl psy psh ns nv d N (nI j) = true → lq m j) →
    ∃ r nw' ad' fm', fX5_decide_30 F (nI N) n best (nI c + (-1)) nwc ad fm = some (r, nw', ad', fm') ∧ RW nw' ppl psp psy psh ns nv d zz ∧
      ((r = -1000004 ∧ FD (fX4_finding_o1 fd (-1000004)) fm' ∧ (∀ j, j < 2 ^ ns → ¬ Ld ppl psy psh ns nv d N (nI j) = true)) ∨ ∃ m, m < 2 ^ ns ∧ r = nI m ∧ fm' = fm ∧ Ld ppl psy psh ns nv d N (nI m) = true ∧ ∀ j, j < 2 ^ ns → Ld ppl psy psh ns nv d N (nI j) = true → lq m j) := by
  have hns := hE.1
  have h256 := p256 hns
  intro c
  induction c with
  | zero =>
    intro n best nwc ad h1 h2 hR hI
    obtain ⟨n, rfl⟩ : ∃ q, n = q + 1 := ⟨n - 1, by omega⟩
    obtain ⟨fm', q1, q2⟩ := mNone hFD
    rw [fX5_decide_30, if_pos (show nI 0 + (-1) < 0 by decide)]
    rcases hI with ⟨e1, e3⟩ | ⟨m, _, hm, e1, e2, e3⟩
    · rw [e1, q1, oSome]; exact ⟨_, _, _, _, rfl, hR, Or.inl ⟨rfl, q2, fun j hj => e3 j (Nat.zero_le _) hj⟩⟩
    · rw [e1, mSome (by omega), oSome]; exact ⟨_, _, _, _, rfl, hR, Or.inr ⟨m, hm, rfl, rfl, e2, fun j hj => e3 j (Nat.zero_le _) hj⟩⟩
  | succ c ih =>
    intro n best nwc ad h1 h2 hR hI
    obtain ⟨n, rfl⟩ : ∃ q, n = q + 1 := ⟨n - 1, by omega⟩
    obtain ⟨nw', ad', g1, g2⟩ := mAll (ad := ad) (x := nI c) hFu hN hE hR
    have hR' := hR.row g2
    have gl : fX5_allLand F nwc ad (nI c) (nI N) = some (bI (Ld ppl psy psh ns nv d N (nI c)), nw', ad') := g1
    rw [fX5_decide_30, pk_m1, if_neg (nI_nlt0 (by omega)), gl, oSome]
    dsimp only
    rcases hI with ⟨e1, e3⟩ | ⟨m, hcm, hm, e1, e2, e3⟩
    · rw [e1, if_pos (by decide)]
      by_cases el : Ld ppl psy psh ns nv d N (nI c) = true
      · rw [if_neg (by rw [el]; decide)]
        refine ih n _ nw' ad' (by omega) (by omega) hR' (Or.inr ⟨c, Nat.le_refl _, by omega, rfl, el, fun j hj hj2 g => ?_⟩)
        by_cases e : j = c
        · subst e; exact Or.inr ⟨rfl, Nat.le_refl _⟩
        · exact absurd g (e3 j (by omega) hj2)
      · rw [if_pos (by rw [nbT el]; decide)]
        refine ih n _ nw' ad' (by omega) (by omega) hR' (Or.inl ⟨rfl, fun j hj hj2 => ?_⟩)
        by_cases e : j = c
        · subst e; exact el
        · exact e3 j (by omega) hj2
    · obtain ⟨b1, b2⟩ := bc256 c (by omega)
      obtain ⟨b3, b4⟩ := bc256 m (by omega)
      rw [e1, if_neg (nI_nlt0 (by omega)), mBits (show c < 256 by omega) (by omega), oSome, mBits (show m < 256 by omega) (by omega), oSome, b1, b3]
      by_cases eb : nI (bc m) < nI (bc c)
      · have eb2 := (nI_ltI (by omega) (by omega)).mp eb
        rw [if_pos eb]
        refine ih n _ nwc ad (by omega) (by omega) hR (Or.inr ⟨m, by omega, hm, rfl, e2, fun j hj hj2 g => ?_⟩)
        by_cases e : j = c
        · subst e; exact Or.inl eb2
        · exact e3 j (by omega) hj2 g
      · have eb2 : ¬ bc m < bc c := fun q => eb (nI_lt q (by omega))
        rw [if_neg eb]
        by_cases el : Ld ppl psy psh ns nv d N (nI c) = true
        · rw [if_neg (by rw [el]; decide)]
          refine ih n _ nw' ad' (by omega) (by omega) hR' (Or.inr ⟨c, Nat.le_refl _, by omega, rfl, el, fun j hj hj2 g => ?_⟩)
          by_cases e : j = c
          · subst e; exact Or.inr ⟨rfl, Nat.le_refl _⟩
          · rcases e3 j (by omega) hj2 g with q | q
            · exact Or.inl (by omega)
            · rcases Nat.lt_or_eq_of_le (show bc c ≤ bc j by omega) with q2 | q2
              · exact Or.inl q2
              · exact Or.inr ⟨q2, by omega⟩
        · rw [if_pos (by rw [nbT el]; decide)]
          refine ih n _ nw' ad' (by omega) (by omega) hR' (Or.inr ⟨m, by omega, hm, rfl, e2, fun j hj hj2 g => ?_⟩)
          by_cases e : j = c
          · subst e; exact absurd g el
          · exact e3 j (by omega) hj2 g
end DEC
section OP
variable {ppl psp psy psh kpl ksp ksy ksh bs bt sz nm fd : Nat → Int32} {ik psc pnc pdy pzz ksc knc kdy kzz ln : Int32} {nw kp fm tp wd mz mn : Nat → Int32} {mi td : Int32}
theorem op_decide {F : Nat} (hFu : 300 ≤ F) (h : AG ppl psp psy psh kpl ksp ksy ksh bs bt sz nm fd ik psc pnc pdy pzz ksc knc kdy kzz ln nw kp fm tp wd mz mn mi td) (tpl tsp tsy tsh ad : Nat → Int32) (tsc tnc tdy tzz : Int32) (x1 : Int32) :
    ∃ r tpl' tsp' tsy' tsh' fd' tsc' tnc' tdy' tzz' nw' ad' fm', fX4_decide F ppl psp psy psh tpl tsp tsy tsh fd psc pnc pdy pzz tsc tnc tdy tzz x1 = some (r, tpl', tsp', tsy', tsh', fd', tsc', tnc', tdy', tzz') ∧ fX5_decide F nw ad fm x1 = some (r, nw', ad', fm') ∧ AG ppl psp psy psh kpl ksp ksy ksh bs bt sz nm fd' ik psc pnc pdy pzz ksc knc kdy kzz ln nw' kp fm' tp wd mz mn mi td := by
  have h' := h
  obtain ⟨⟨ns, nv, d, rfl, rfl, rfl, hE, hR⟩, hK, hF, hT, hS⟩ := h
  obtain ⟨fm', q1, q2⟩ := hF.beyond
  have hns := hE.1
  have h256 := p256 hns
  unfold fX4_decide fX5_decide
  rw [wi_eq, q1, oSome]
  by_cases c1 : fX4_within x1 0 16 = 0
  · rw [if_pos c1, if_pos c1]; exact ⟨_, _, _, _, _, _, _, _, _, _, _, _, _, rfl, rfl, h'.1, hK, q2, hT, hS⟩
  rw [if_neg c1, if_neg c1]
  obtain ⟨N, hN, rfl⟩ := wi_ex (n := 16) rfl (by decide) c1
  obtain ⟨r, tpl', tsp', tsy', tsh', fd', tsc', tnc', tdy', tzz', g1, g2⟩ := cDecL (fd := fd) (fm := fm) hFu hN hE hR (2 ^ ns) F 0 (-1) 9 tpl tsp tsy tsh tsc tnc tdy tzz (by omega) (by omega) (Or.inl ⟨rfl, rfl, fun j hj => absurd hj (Nat.not_lt_zero j)⟩)
  obtain ⟨r2, nw', ad', fm2, k1, k2, k3⟩ := mDecL (nw := nw) hFu hN hE hF (2 ^ ns) F (-1) nw ad (Nat.le_refl _) (by omega) hR (Or.inl ⟨rfl, fun j hj hj2 => absurd hj2 (by omega)⟩)
  have e0 : ((1 <<< ((nw 1) &&& 31)) - 1 : Int32) = nI (2 ^ ns) + (-1) := by
    have hp : 0 < 2 ^ ns := Nat.two_pow_pos ns
    obtain ⟨p, hp2⟩ : ∃ p, 2 ^ ns = p + 1 := ⟨2 ^ ns - 1, by omega⟩
    rw [hR.2.1, full8 ns hns, hp2, pk_m1, Nat.add_sub_cancel]
  have g1' : fX4_decide_34 F ppl psp psy psh (nI ns) (nI nv) (nI d) pzz (nI N) (bitS (isF psy) ns) F (-1) 9 0 tpl tsp tsy tsh fd tsc tnc tdy tzz = _ := g1
  rw [cFinB hns (by omega), oSome, e0, k1, g1']
  rcases k3 with ⟨a1, a2, a3⟩ | ⟨m, hm, a1, a2, a3, a4⟩
  · rcases g2 with ⟨b1, b2, b3⟩ | ⟨m2, hm2, b1, b2, b3, b4⟩
    · subst a1 b1 b2
      exact ⟨_, _, _, _, _, _, _, _, _, _, _, _, _, rfl, rfl, ⟨ns, nv, d, rfl, rfl, rfl, hE, k2⟩, hK, a2, hT, hS⟩
    · exact absurd b3 (a3 m2 hm2)
  · have hok := least_ok (ppl := ppl) (psy := psy) (psh := psh) (nv := nv) (d := d) (N := N) hns hm a3 a4
    rcases g2 with ⟨b1, b2, b3⟩ | ⟨m2, hm2, b1, b2, b3, b4, b5⟩
    · exact absurd hok (b3 m hm a3)
    · have em : m = m2 := by
        have l1 := a4 m2 hm2 b3
        have l2 := b5 m hm a3 hok
        rcases l1 with l1 | l1 <;> rcases l2 with l2 | l2 <;> omega
      subst em a1 b1 b2 a2
      exact ⟨_, _, _, _, _, _, _, _, _, _, _, _, _, rfl, rfl, ⟨ns, nv, d, rfl, rfl, rfl, hE, k2⟩, hK, hF, hT, hS⟩
end OP
