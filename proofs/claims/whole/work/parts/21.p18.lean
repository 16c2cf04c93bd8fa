/-! PURE, eighteenth part: steps of reading, items told -/
theorem bIte {α β : Type} {c : Prop} [Decidable c] (a b : Option α) (f : α → Option β) : Option.bind (if c then a else b) f = if c then Option.bind a f else Option.bind b f := by
  by_cases h : c
  · rw [if_pos h, if_pos h]
  · rw [if_neg h, if_neg h]
theorem bAss {α β γ : Type} (a : Option α) (f : α → Option β) (g : β → Option γ) : Option.bind (Option.bind a f) g = Option.bind a (fun x => Option.bind (f x) g) := by
  cases a <;> rfl
theorem i10 : ¬ (1 : Int32) = 0 := by decide
theorem TKR.two {bs : Nat → Int32} {l : Nat} {so va so' va' : Int32} {b e : Nat} (h : TKR bs l so va so' va' b e) : (so = 2 ∧ so' = 2 ∧ va' = va ∧ b < e) ∨ (¬ so = 2 ∧ ¬ so' = 2) := by
  obtain ⟨_, _, t⟩ := h
  rcases t with ⟨a, c, _⟩ | ⟨a, c, _⟩ | ⟨a, c, d, g⟩ | ⟨a, c, _⟩ | ⟨a, c, _⟩
  · exact Or.inr ⟨by rw [a]; decide, by rw [c]; decide⟩
  · exact Or.inr ⟨by rw [a]; decide, by rw [c]; decide⟩
  · exact Or.inl ⟨a, c, d, g⟩
  · exact Or.inr ⟨by rw [a]; decide, by rw [c]; decide⟩
  · exact Or.inr ⟨by rw [a]; decide, by rw [c]; decide⟩
theorem must0 (F : Nat) (tp : Nat → Int32) (td bg en so va : Int32) : fX5_must F tp td bg en so va 0 0 = some (bg, en, so, va, 1) := by
  unfold fX5_must
  rw [if_pos rfl, if_pos rfl]
theorem mustB (F : Nat) (tp : Nat → Int32) (td bg en so va v : Int32) : fX5_must F tp td bg en so va 1 v = some (bg, en, so, va, 1) := by
  unfold fX5_must
  rw [if_neg (by decide)]
theorem numB (F : Nat) (tp : Nat → Int32) (td bg en so va lo hi : Int32) : fX5_number F tp td bg en so va 1 lo hi = some (va, bg, en, so, va, 1) := by
  unfold fX5_number
  simp only [mustB, oSome, ite_self]
theorem takB (F : Nat) (tp : Nat → Int32) (td bg en so va : Int32) (i : Nat) : fX5_takesWord F tp td bg en so va 1 i = some (0, bg, en, so, va, 1) := by
  unfold fX5_takesWord
  rw [if_neg (by decide)]
def optM (F : Nat) (tp : Nat → Int32) (td bg en so va iw : Int32) (i : Nat) (lo hi d : Int32) : Option (Int32 × Int32 × Int32 × Int32 × Int32 × Int32) := Option.bind (fX5_takesWord F tp td bg en so va iw i) (fun z => if z.1 = 0 then some (d, z.2.1, z.2.2.1, z.2.2.2.1, z.2.2.2.2.1, z.2.2.2.2.2) else fX5_number F tp td z.2.1 z.2.2.1 z.2.2.2.1 z.2.2.2.2.1 z.2.2.2.2.2 lo hi)
theorem optB (F : Nat) (tp : Nat → Int32) (td bg en so va : Int32) (i : Nat) (lo hi d : Int32) : optM F tp td bg en so va 1 i lo hi d = some (d, bg, en, so, va, 1) := by
  unfold optM
  rw [takB, oSome, if_pos rfl]
section RD
variable {bs tp : Nat → Int32} {l F : Nat}
theorem advS (hFu : 300 ≤ F) (h : TB bs tp l) {so va so' va' : Int32} {b e : Nat} (hT : TKR bs l so va so' va' b e) : ∃ so2 va2 so2' va2' b2 e2, fX3_advance F bs (nI l) so (nI b) (nI e) va = some (so2, nI b2, nI e2, va2) ∧ fX5_must F tp (nI l) (nI b) (nI e) so' va' 0 1 = some (nI b2, nI e2, so2', va2', 0) ∧ TKR bs l so2 va2 so2' va2' b2 e2 ∧ e ≤ b2 := by
  obtain ⟨so2, va2, so2', va2', b2, e2, g1, g2, g3, g4⟩ := adv hFu h hT.2.1 so (nI b) va (nI b) so' va'
  refine ⟨so2, va2, so2', va2', b2, e2, g1, ?_, g3, g4⟩
  unfold fX5_must
  rw [if_pos rfl, if_neg i10, g2, oSome]
theorem numS (hFu : 300 ≤ F) (h : TB bs tp l) {so va so' va' : Int32} {b e : Nat} (hT : TKR bs l so va so' va' b e) (lo hi : Int32) :
    (∃ so2 va2 so2' va2' b2 e2, fX3_readNumber F bs (nI l) so (nI b) (nI e) va lo hi = some (va, so2, nI b2, nI e2, va2) ∧ fX5_number F tp (nI l) (nI b) (nI e) so' va' 0 lo hi = some (va, nI b2, nI e2, so2', va2', 0) ∧ TKR bs l so2 va2 so2' va2' b2 e2 ∧ e ≤ b2 ∧ ¬ fX4_within va lo hi = 0)
    ∨ (fX3_readNumber F bs (nI l) so (nI b) (nI e) va lo hi = some (-1, so, nI b, nI e, va) ∧ fX5_number F tp (nI l) (nI b) (nI e) so' va' 0 lo hi = some (va', nI b, nI e, so', va', 1)) := by
  unfold fX3_readNumber fX5_number
  rcases hT.two with ⟨a, c, d, g⟩ | ⟨a, c⟩
  · obtain ⟨so2, va2, so2', va2', b2, e2, g1, g2, g3, g4⟩ := advS hFu h hT
    rw [if_pos a, if_pos c, wi_eq]
    by_cases w : fX4_within va lo hi = 0
    · right
      rw [if_pos w, if_pos (by rw [d]; exact w), must0, oSome]
      exact ⟨rfl, rfl⟩
    · left
      rw [if_neg w, if_neg (by rw [d]; exact w), g1, g2, oSome, oSome]
      exact ⟨so2, va2, so2', va2', b2, e2, rfl, by rw [d], g3, g4, w⟩
  · right
    rw [if_neg a, if_neg c, must0, oSome]
    exact ⟨rfl, rfl⟩
theorem optS (hFu : 300 ≤ F) (h : TB bs tp l) {so va so' va' : Int32} {b e : Nat} (hT : TKR bs l so va so' va' b e) {i : Nat} (hi : i < 14) (lo hh d : Int32) :
    (∃ v so2 va2 so2' va2' b2 e2, fX3_readOption F bs (nI l) so (nI b) (nI e) va i lo hh d = some (v, so2, nI b2, nI e2, va2) ∧ optM F tp (nI l) (nI b) (nI e) so' va' 0 i lo hh d = some (v, nI b2, nI e2, so2', va2', 0) ∧ TKR bs l so2 va2 so2' va2' b2 e2 ∧ b ≤ b2 ∧ (v = d ∨ ¬ fX4_within v lo hh = 0))
    ∨ (∃ v so2 va2 so2' va2' b2 e2, fX3_readOption F bs (nI l) so (nI b) (nI e) va i lo hh d = some (-1, so2, nI b2, nI e2, va2) ∧ optM F tp (nI l) (nI b) (nI e) so' va' 0 i lo hh d = some (v, nI b2, nI e2, so2', va2', 1) ∧ b2 ≤ l) := by
  obtain ⟨r, w1, w2, w3⟩ := isW hFu h hi hT
  unfold fX3_readOption optM fX5_takesWord
  rcases w3 with ⟨r1, _⟩ | ⟨r1, _⟩
  · subst r1
    obtain ⟨so2, va2, so2', va2', b2, e2, g1, g2, g3, g4⟩ := advS hFu h hT
    have hbe := hT.1
    rcases numS hFu h g3 lo hh with ⟨so3, va3, so3', va3', b3, e3, k1, k2, k3, k4, k5⟩ | ⟨k1, k2⟩
    · left
      have hbe2 := g3.1
      refine ⟨va2, so3, va3, so3', va3', b3, e3, ?_, ?_, k3, by omega, Or.inr k5⟩
      · simp only [w1, g1, k1, oSome, i10, ↓reduceIte]
      · simp only [w2, g2, k2, oSome, i10, ↓reduceIte]
    · right
      refine ⟨va2', so2, va2, so2', va2', b2, e2, ?_, ?_, Nat.le_trans g3.1 g3.2.1⟩
      · simp only [w1, g1, k1, oSome, i10, ↓reduceIte]
      · simp only [w2, g2, k2, oSome, i10, ↓reduceIte]
  · subst r1
    left
    refine ⟨d, so, va, so', va', b, e, ?_, ?_, hT, Nat.le_refl _, Or.inl rfl⟩
    · simp only [w1, oSome, ↓reduceIte]
    · simp only [w2, oSome, ↓reduceIte]
end RD
/-! items -/
def put5 (it : Nat → Int32) (m : Nat) (a b c d e : Int32) : Nat → Int32 := upd (upd (upd (upd (upd it (5 * m) a) (5 * m + 1) b) (5 * m + 2) c) (5 * m + 3) d) (5 * m + 4) e
theorem in600 {m : Nat} (h : m < 600) : ¬ (nI m < 0 ∨ 600 ≤ (nI m).toNatClampNeg) := nI_in h (by decide)
theorem im5 (m : Nat) : (5 : Int32) * nI m = nI (5 * m) := pk_mul 5 m
theorem addI {it : Nat → Int32} {m : Nat} (hm : m < 120) (a b c d e : Int32) : fX5_addItem it (nI m) a b c d e = some (put5 it m a b c d e, nI (m + 1)) := by
  unfold fX5_addItem put5
  rw [im5, show nI (5 * m) + 1 = nI (5 * m + 1) from nI_add _ 1, show nI (5 * m) + 2 = nI (5 * m + 2) from nI_add _ 2, show nI (5 * m) + 3 = nI (5 * m + 3) from nI_add _ 3, show nI (5 * m) + 4 = nI (5 * m + 4) from nI_add _ 4, if_pos (in600 (by omega)), if_pos (in600 (by omega)), if_pos (in600 (by omega)), if_pos (in600 (by omega)), if_pos (in600 (by omega)), nI_clamp (by omega), nI_clamp (by omega), nI_clamp (by omega), nI_clamp (by omega), nI_clamp (by omega), nI_1]
section PT
variable {it : Nat → Int32} {m : Nat} {a b c d e : Int32}
theorem put5_lt {i : Nat} (h : i < 5 * m) : put5 it m a b c d e i = it i := by
  unfold put5
  rw [updN (by omega), updN (by omega), updN (by omega), updN (by omega), updN (by omega)]
theorem put5_0 : put5 it m a b c d e (5 * m) = a := by
  unfold put5
  rw [updN (by omega), updN (by omega), updN (by omega), updN (by omega), updS]
theorem put5_1 : put5 it m a b c d e (5 * m + 1) = b := by
  unfold put5
  rw [updN (by omega), updN (by omega), updN (by omega), updS]
theorem put5_2 : put5 it m a b c d e (5 * m + 2) = c := by
  unfold put5
  rw [updN (by omega), updN (by omega), updS]
theorem put5_3 : put5 it m a b c d e (5 * m + 3) = d := by
  unfold put5
  rw [updN (by omega), updS]
theorem put5_4 : put5 it m a b c d e (5 * m + 4) = e := by
  unfold put5
  rw [updS]
end PT
theorem toldE {nw it : Nat → Int32} {j : Nat} (hj : j < 120) : fX5_isToldSo nw it (nI (5 * j)) = (if it (5 * j) = 10 then Option.bind (fX5_sails nw (it (5 * j + 1)) (it (5 * j + 3))) (fun z => if ¬ ((fX5_shipAt z.1 1) < 0 ∨ 84 ≤ (fX5_shipAt z.1 1).toNatClampNeg) then some (upd z.2 (fX5_shipAt z.1 1).toNatClampNeg (it (5 * j + 2))) else none) else if it (5 * j) = 11 then if ¬ ((4 + (it (5 * j + 1))) < 0 ∨ 84 ≤ (4 + (it (5 * j + 1))).toNatClampNeg) then some (upd nw (4 + (it (5 * j + 1))).toNatClampNeg (it (5 * j + 2))) else none else Option.bind (fX5_comes nw (it (5 * j)) (it (5 * j + 1)) (it (5 * j + 2))) (fun z => if ¬ ((fX5_sayingAt z.1 4) < 0 ∨ 84 ≤ (fX5_sayingAt z.1 4).toNatClampNeg) then if ¬ ((fX5_sayingAt z.1 3) < 0 ∨ 84 ≤ (fX5_sayingAt z.1 3).toNatClampNeg) then some (upd (upd z.2 (fX5_sayingAt z.1 4).toNatClampNeg (it (5 * j + 3))) (fX5_sayingAt z.1 3).toNatClampNeg (it (5 * j + 4))) else none else none)) := by
  have p0 := in600 (show 5 * j < 600 by omega)
  have p1 := in600 (show 5 * j + 1 < 600 by omega)
  have p2 := in600 (show 5 * j + 2 < 600 by omega)
  have p3 := in600 (show 5 * j + 3 < 600 by omega)
  have p4 := in600 (show 5 * j + 4 < 600 by omega)
  unfold fX5_isToldSo
  rw [show nI (5 * j) + 1 = nI (5 * j + 1) from nI_add _ 1, show nI (5 * j) + 2 = nI (5 * j + 2) from nI_add _ 2, show nI (5 * j) + 3 = nI (5 * j + 3) from nI_add _ 3, show nI (5 * j) + 4 = nI (5 * j + 4) from nI_add _ 4, if_pos p1, if_pos p2, if_pos p3, if_pos p0, if_pos p0]
  simp only [if_pos p4]
  simp only [nI_clamp (show 5 * j < 2 ^ 31 by omega), nI_clamp (show 5 * j + 1 < 2 ^ 31 by omega), nI_clamp (show 5 * j + 2 < 2 ^ 31 by omega), nI_clamp (show 5 * j + 3 < 2 ^ 31 by omega), nI_clamp (show 5 * j + 4 < 2 ^ 31 by omega)]
theorem toldC {nw it it' : Nat → Int32} {j : Nat} (hj : j < 120) (h : ∀ i, i < 5 * j + 5 → it i = it' i) : fX5_isToldSo nw it (nI (5 * j)) = fX5_isToldSo nw it' (nI (5 * j)) := by
  rw [toldE hj, toldE hj, h (5 * j) (by omega), h (5 * j + 1) (by omega), h (5 * j + 2) (by omega), h (5 * j + 3) (by omega), h (5 * j + 4) (by omega)]
theorem toldS {nw pl sp sy sh it : Nat → Int32} {ns nv d j k : Nat} {zz a b c f : Int32} (R : RW nw pl sp sy sh ns nv d zz) (hn : ns < 8) (hj : j < 120) (hk : k < 7) : ∃ nw', fX5_isToldSo nw (put5 it j (nI k) a b c f) (nI (5 * j)) = some nw' ∧ RW nw' pl sp (upd (upd (addS sy ns (nI k) a b) (5 * ns + 4) c) (5 * ns + 3) f) sh (ns + 1) nv d zz := by
  obtain ⟨nw', g1, g2⟩ := mComes R hn (nI k) a b
  rw [toldE hj, put5_0, put5_1, put5_2, put5_3, put5_4]
  rw [if_neg (show ¬ nI k = 10 from fun q => by have := (nI_eq (a := k) (b := 10) (by omega) (by decide)).mp q; omega), if_neg (show ¬ nI k = 11 from fun q => by have := (nI_eq (a := k) (b := 11) (by omega) (by decide)).mp q; omega), g1, oSome]
  dsimp only
  rw [at5_4, at5_3, if_pos (in84 (by omega)), if_pos (in84 (by omega)), nI_clamp (by omega), nI_clamp (by omega)]
  exact ⟨_, rfl, (g2.setS (by omega)).setS (by omega)⟩
theorem toldH {nw pl sp sy sh it : Nat → Int32} {ns nv d j : Nat} {zz a b c f : Int32} (R : RW nw pl sp sy sh ns nv d zz) (hn : nv < 6) (hj : j < 120) : ∃ nw', fX5_isToldSo nw (put5 it j 10 a b c f) (nI (5 * j)) = some nw' ∧ RW nw' pl sp sy (addH sh nv a b c) ns (nv + 1) d zz := by
  obtain ⟨nw', g1, g2⟩ := mSails R hn a c
  rw [toldE hj, put5_0, put5_1, put5_2, put5_3, put5_4]
  rw [if_pos rfl, g1, oSome]
  dsimp only
  rw [at4_1, if_pos (in84 (by omega)), nI_clamp (by omega)]
  refine ⟨_, rfl, ?_⟩
  have e : addH sh nv a b c = upd (addH sh nv a 30 c) (4 * nv + 1) b := by
    funext i
    unfold addH
    by_cases e1 : i = 4 * nv + 1
    · subst e1; rw [updS, updN (by omega), updN (by omega), updS]
    · rw [updN e1]
      by_cases e3 : i = 4 * nv + 3
      · subst e3; rw [updS, updS]
      · rw [updN e3, updN e3]
        by_cases e2 : i = 4 * nv + 2
        · subst e2; rw [updS, updS]
        · rw [updN e2, updN e2, updN e1, updN e1]
  rw [e]
  exact g2.setH
theorem toldF {nw pl sp sy sh it : Nat → Int32} {ns nv d j i : Nat} {zz b c f : Int32} (R : RW nw pl sp sy sh ns nv d zz) (hi : i < 6) (hj : j < 120) : ∃ nw', fX5_isToldSo nw (put5 it j 11 (nI i) b c f) (nI (5 * j)) = some nw' ∧ RW nw' (upd pl i b) sp sy sh ns nv d zz := by
  rw [toldE hj, put5_0, put5_1, put5_2, put5_3, put5_4]
  rw [if_neg (by decide), if_pos rfl, show (4 : Int32) + nI i = nI (4 + i) from nI_add 4 i, if_pos (in84 (by omega)), nI_clamp (by omega)]
  exact ⟨_, rfl, R.set hi⟩
def APP (nw it : Nat → Int32) : Nat → (Nat → Int32) → Prop
  | 0, x => x = nw
  | m + 1, x => ∃ y, APP nw it m y ∧ fX5_isToldSo y it (nI (5 * m)) = some x
theorem APP.ext {nw it it' : Nat → Int32} : ∀ (m : Nat) (x : Nat → Int32), m ≤ 120 → (∀ i, i < 5 * m → it i = it' i) → APP nw it m x → APP nw it' m x
  | 0, _, _, _, h => h
  | m + 1, x, hm, hi, ⟨y, h1, h2⟩ => ⟨y, APP.ext m y (by omega) (fun i q => hi i (by omega)) h1, by rw [← toldC (it := it) (by omega) (fun i q => hi i (by omega))]; exact h2⟩
theorem APP.uniq {nw it : Nat → Int32} : ∀ (m : Nat) (x y : Nat → Int32), APP nw it m x → APP nw it m y → x = y
  | 0, _, _, h1, h2 => Eq.trans h1 (Eq.symm h2)
  | m + 1, x, y, ⟨u, a1, a2⟩, ⟨v, b1, b2⟩ => by
    have e := APP.uniq m u v a1 b1
    subst e
    exact Option.some.inj (a2.symm.trans b2)
theorem APP.down {nw it : Nat → Int32} {j : Nat} : ∀ (m : Nat) (x : Nat → Int32), j ≤ m → APP nw it m x → ∃ y, APP nw it j y
  | 0, x, h, q => ⟨x, by obtain rfl : j = 0 := by omega
                         exact q⟩
  | m + 1, x, h, q => by
    by_cases e : j = m + 1
    · subst e; exact ⟨x, q⟩
    · obtain ⟨y, q1, _⟩ := q
      exact APP.down m y (by omega) q1
theorem appL {nw it x : Nat → Int32} {q : Nat} (hq : q ≤ 120) (hx : APP nw it q x) (td bg en so va iw st ht : Int32) : ∀ (c n k : Nat) (y : Nat → Int32), k + c = q → c < n → APP nw it k y → fX5_text_121 it td bg en so va iw (nI q) st ht n (nI k) y = some (nI q, x, it, td, bg, en, so, va, iw, nI q, st, ht) := by
  intro c
  induction c with
  | zero =>
    intro n k y h1 h2 h3
    obtain ⟨n, rfl⟩ : ∃ q, n = q + 1 := ⟨n - 1, by omega⟩
    obtain rfl : k = q := by omega
    rw [fX5_text_121, if_pos (nI_le (Nat.le_refl _) (by omega)), APP.uniq k x y hx h3]
  | succ c ih =>
    intro n k y h1 h2 h3
    obtain ⟨n, rfl⟩ : ∃ q, n = q + 1 := ⟨n - 1, by omega⟩
    obtain ⟨y', y2, a1, a2⟩ := APP.down (j := k + 1) q x (by omega) hx
    have e := APP.uniq k y2 y a1 h3
    subst e
    rw [fX5_text_121, if_neg (nI_ge (show k < q by omega) (by omega)), im5, a2, oSome, nI_1]
    exact ih n (k + 1) y' (by omega) (by omega) ⟨y2, a1, a2⟩
