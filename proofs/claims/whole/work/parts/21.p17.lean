/-! PURE, seventeenth part: tokens and words of both -/
/-- the tape, by its length -/
def TB (bs tp : Nat → Int32) (l : Nat) : Prop := l ≤ 120 ∧ ∀ i, i < l → tp i = bs i ∧ ex 255 (bs i)
def srt (x : Int32) : Int32 := if x < 97 then (if x < 48 then (if x = 59 then 3 else 4) else (if 57 < x then (if x = 59 then 3 else 4) else 2)) else (if 122 < x then (if x < 48 then (if x = 59 then 3 else 4) else (if 57 < x then (if x = 59 then 3 else 4) else 2)) else 1)
theorem srt256 : ∀ w, w < 256 → srt (nI w) = (if fX4_within (nI w) 97 122 = 0 then (if fX4_within (nI w) 48 57 = 0 then (if nI w = 59 then 3 else 4) else 2) else 1) := by decide +kernel
theorem sort_in {bs tp : Nat → Int32} {l b : Nat} (h : TB bs tp l) (hb : b < l) : fX3_sortAt bs (nI l) (nI b) = (if fX4_within (bs b) 97 122 = 0 then (if fX4_within (bs b) 48 57 = 0 then (if bs b = 59 then 3 else 4) else 2) else 1) := by
  have hl := h.1
  obtain ⟨w, hw, e⟩ := (h.2 b hb).2
  unfold fX3_sortAt
  rw [if_neg (nI_nlt0 (by omega)), if_neg (nI_ge hb (by omega)), if_pos (show nI b < 120 from nI_lt (b := 120) (by omega) (by decide)), nI_clamp (by omega), e]
  exact srt256 w (by omega)
theorem sort_end {bs : Nat → Int32} {l : Nat} (hl : l ≤ 120) : fX3_sortAt bs (nI l) (nI l) = 0 := by
  unfold fX3_sortAt
  rw [if_neg (nI_nlt0 (by omega)), if_pos (nI_le (Nat.le_refl _) (by omega))]
theorem byte_in {bs tp : Nat → Int32} {l b : Nat} (h : TB bs tp l) (hb : b < l) : fX5_byteAt tp (nI l) (nI b) = some (bs b) := by
  have hl := h.1
  unfold fX5_byteAt
  rw [if_neg (nI_ge hb (by omega)), if_pos (show ¬ (nI b < 0 ∨ 120 ≤ (nI b).toNatClampNeg) from nI_in (by omega) (by decide)), nI_clamp (by omega), (h.2 b hb).1]
theorem byte_end {tp : Nat → Int32} {l : Nat} (hl : l ≤ 120) : fX5_byteAt tp (nI l) (nI l) = some (-1) := by
  unfold fX5_byteAt
  rw [if_pos (nI_le (Nat.le_refl _) (by omega))]
def TKR (bs : Nat → Int32) (l : Nat) (so va so' va' : Int32) (b e : Nat) : Prop := b ≤ e ∧ e ≤ l ∧ ((so = 0 ∧ so' = 0 ∧ b = l) ∨ (so = 1 ∧ so' = 1 ∧ b < e) ∨ (so = 2 ∧ so' = 2 ∧ va' = va ∧ b < e) ∨ (so = 3 ∧ so' = 3 ∧ bs b = 59 ∧ b < e) ∨ (so = 4 ∧ so' = 3 ∧ ¬ bs b = 59 ∧ b < e))
theorem skipL {bs tp : Nat → Int32} {l : Nat} (h : TB bs tp l) (K K' : Int32 → Option (Int32 × Int32 × Int32 × Int32)) : ∀ (c n m p : Nat), p + c = l → c < n → c < m → ∃ b, p ≤ b ∧ b ≤ l ∧ fX3_advance_8 K bs (nI l) n (nI p) = K (nI b) ∧ fX5_token_8 K' tp (nI l) m (nI p) = K' (nI b) := by
  have hl := h.1
  intro c
  induction c with
  | zero =>
    intro n m p h1 h2 h3
    obtain ⟨n, rfl⟩ : ∃ q, n = q + 1 := ⟨n - 1, by omega⟩
    obtain ⟨m, rfl⟩ : ∃ q, m = q + 1 := ⟨m - 1, by omega⟩
    obtain rfl : p = l := by omega
    refine ⟨p, Nat.le_refl _, Nat.le_refl _, ?_, ?_⟩
    · rw [fX3_advance_8, if_pos (nI_le (Nat.le_refl _) (by omega))]
    · rw [fX5_token_8, byte_end hl, oSome, if_neg (by decide)]
  | succ c ih =>
    intro n m p h1 h2 h3
    obtain ⟨n, rfl⟩ : ∃ q, n = q + 1 := ⟨n - 1, by omega⟩
    obtain ⟨m, rfl⟩ : ∃ q, m = q + 1 := ⟨m - 1, by omega⟩
    rw [fX3_advance_8, fX5_token_8, if_neg (nI_ge (show p < l by omega) (by omega)), num_at (by omega) (by decide), byte_in h (by omega), oSome, nI_1]
    by_cases e : bs p = 32
    · rw [if_pos e, if_pos e]
      obtain ⟨b, g1, g2, g3, g4⟩ := ih n m (p + 1) (by omega) (by omega) (by omega)
      exact ⟨b, by omega, g2, g3, g4⟩
    · rw [if_neg e, if_neg e]
      exact ⟨p, Nat.le_refl _, by omega, rfl, rfl⟩
theorem wordL {bs tp : Nat → Int32} {l b : Nat} (h : TB bs tp l) : ∀ (c n m p : Nat) (va : Int32), p + c = l → c < n → c < m → ∃ e va', p ≤ e ∧ e ≤ l ∧ fX3_advance_89 bs (nI l) 1 (nI b) n (nI p) va = some (1, nI b, nI e, va') ∧ fX5_token_84 tp (nI l) (nI b) 1 0 m (nI p) = some (nI b, nI e, 1, 0) ∧ (p < l → ¬ fX4_within (bs p) 97 122 = 0 → p < e) := by
  have hl := h.1
  intro c
  induction c with
  | zero =>
    intro n m p va h1 h2 h3
    obtain ⟨n, rfl⟩ : ∃ q, n = q + 1 := ⟨n - 1, by omega⟩
    obtain ⟨m, rfl⟩ : ∃ q, m = q + 1 := ⟨m - 1, by omega⟩
    obtain rfl : p = l := by omega
    refine ⟨p, va, Nat.le_refl _, Nat.le_refl _, ?_, ?_, fun q => absurd q (by omega)⟩
    · rw [fX3_advance_89, if_pos (nI_le (Nat.le_refl _) (by omega))]
    · rw [fX5_token_84, byte_end hl, oSome, if_pos (by decide)]
  | succ c ih =>
    intro n m p va h1 h2 h3
    obtain ⟨n, rfl⟩ : ∃ q, n = q + 1 := ⟨n - 1, by omega⟩
    obtain ⟨m, rfl⟩ : ∃ q, m = q + 1 := ⟨m - 1, by omega⟩
    rw [fX3_advance_89, fX5_token_84, if_neg (nI_ge (show p < l by omega) (by omega)), sort_in h (by omega), byte_in h (by omega), oSome, wi_eq, nI_1]
    by_cases e : fX4_within (bs p) 97 122 = 0
    · rw [if_pos e, if_pos e]
      refine ⟨p, va, Nat.le_refl _, by omega, ?_, rfl, fun _ q => absurd e q⟩
      rw [if_neg]
      split
      · split <;> decide
      · decide
    · rw [if_neg e, if_neg e, if_pos rfl]
      obtain ⟨e', va', g1, g2, g3, g4, g5⟩ := ih n m (p + 1) _ (by omega) (by omega) (by omega)
      exact ⟨e', va', by omega, g2, g3, g4, fun _ _ => by omega⟩
theorem numbL {bs tp : Nat → Int32} {l b : Nat} (h : TB bs tp l) : ∀ (c n m p : Nat) (va : Int32), p + c = l → c < n → c < m → ∃ e va', p ≤ e ∧ e ≤ l ∧ fX3_advance_89 bs (nI l) 2 (nI b) n (nI p) va = some (2, nI b, nI e, va') ∧ fX5_token_131 tp (nI l) (nI b) 2 m (nI p) va = some (nI b, nI e, 2, va') ∧ (p < l → fX4_within (bs p) 97 122 = 0 → ¬ fX4_within (bs p) 48 57 = 0 → p < e) := by
  have hl := h.1
  intro c
  induction c with
  | zero =>
    intro n m p va h1 h2 h3
    obtain ⟨n, rfl⟩ : ∃ q, n = q + 1 := ⟨n - 1, by omega⟩
    obtain ⟨m, rfl⟩ : ∃ q, m = q + 1 := ⟨m - 1, by omega⟩
    obtain rfl : p = l := by omega
    refine ⟨p, va, Nat.le_refl _, Nat.le_refl _, ?_, ?_, fun q => absurd q (by omega)⟩
    · rw [fX3_advance_89, if_pos (nI_le (Nat.le_refl _) (by omega))]
    · rw [fX5_token_131, byte_end hl, oSome, if_pos (by decide)]
  | succ c ih =>
    intro n m p va h1 h2 h3
    obtain ⟨n, rfl⟩ : ∃ q, n = q + 1 := ⟨n - 1, by omega⟩
    obtain ⟨m, rfl⟩ : ∃ q, m = q + 1 := ⟨m - 1, by omega⟩
    rw [fX3_advance_89, fX5_token_131, if_neg (nI_ge (show p < l by omega) (by omega)), sort_in h (by omega), byte_in h (by omega), oSome, oSome, wi_eq, nI_1, num_at (by omega) (by decide), Int32.mul_comm va 10]
    by_cases e : fX4_within (bs p) 48 57 = 0
    · rw [if_pos e, if_pos e]
      refine ⟨p, va, Nat.le_refl _, by omega, ?_, rfl, fun _ _ q => absurd e q⟩
      rw [if_neg]
      split
      · split <;> decide
      · decide
    · by_cases e2 : fX4_within (bs p) 97 122 = 0
      · rw [if_neg e, if_neg e, if_pos e2, if_pos rfl]
        obtain ⟨e', va', g1, g2, g3, g4, g5⟩ := ih n m (p + 1) (if (((10 * va) + (bs p)) - 48) < 10000 then ((10 * va) + (bs p)) - 48 else 10000) (by omega) (by omega) (by omega)
        exact ⟨e', va', by omega, g2, g3, g4, fun _ _ _ => by omega⟩
      · exfalso
        have k1 : 97 ≤ bs p ∧ bs p ≤ 122 := Classical.byContradiction fun q => e2 (wi_iff.mpr q)
        have k2 : 48 ≤ bs p ∧ bs p ≤ 57 := Classical.byContradiction fun q => e (wi_iff.mpr q)
        exact absurd (Int32.le_trans k1.1 k2.2) (by decide)
theorem adv {bs tp : Nat → Int32} {l p F : Nat} (hFu : 300 ≤ F) (h : TB bs tp l) (hp : p ≤ l) (so0 be0 va0 bg0 so1 va1 : Int32) : ∃ so va so' va' b e, fX3_advance F bs (nI l) so0 be0 (nI p) va0 = some (so, nI b, nI e, va) ∧ fX5_token F tp (nI l) bg0 (nI p) so1 va1 = some (nI b, nI e, so', va') ∧ TKR bs l so va so' va' b e ∧ p ≤ b := by
  have hl := h.1
  unfold fX3_advance fX5_token
  obtain ⟨b, h1, h2, g1, g2⟩ := skipL h (fun be__3 => (if (fX3_sortAt bs (nI l) be__3) = 1 then fX3_advance_89 bs (nI l) (fX3_sortAt bs (nI l) be__3) be__3 F be__3 0 else (if (fX3_sortAt bs (nI l) be__3) = 2 then fX3_advance_89 bs (nI l) (fX3_sortAt bs (nI l) be__3) be__3 F be__3 0 else (if (fX3_sortAt bs (nI l) be__3) = 0 then some ((fX3_sortAt bs (nI l) be__3), be__3, be__3, 0) else some ((fX3_sortAt bs (nI l) be__3), be__3, be__3 + 1, 0))))) (fun bg__4 => Option.bind (fX5_byteAt tp (nI l) bg__4) (fun z_5 => (if 0 ≤ z_5 then (if (fX5_within z_5 97 122) = 0 then (if (fX5_within z_5 48 57) = 0 then some (bg__4, bg__4 + 1, 3, 0) else fX5_token_131 tp (nI l) bg__4 2 F bg__4 0) else fX5_token_84 tp (nI l) bg__4 1 0 F bg__4) else some (bg__4, bg__4, 0, 0)))) (l - p) F F p (by omega) (by omega) (by omega)
  rw [g1, g2]
  by_cases eb : b = l
  · subst eb
    rw [sort_end hl, byte_end hl, oSome, if_neg (by decide), if_neg (by decide), if_pos rfl, if_neg (by decide)]
    exact ⟨_, _, _, _, _, _, rfl, rfl, ⟨Nat.le_refl _, Nat.le_refl _, Or.inl ⟨rfl, rfl, rfl⟩⟩, h1⟩
  · have hb : b < l := by omega
    obtain ⟨w, hw, ew⟩ := (h.2 b hb).2
    rw [sort_in h hb, byte_in h hb, oSome, if_pos (show 0 ≤ bs b by rw [ew]; exact nI_pos' (by omega)), wi_eq, wi_eq]
    by_cases e1 : fX4_within (bs b) 97 122 = 0
    · rw [if_pos e1, if_pos e1]
      by_cases e2 : fX4_within (bs b) 48 57 = 0
      · rw [if_pos e2, if_pos e2]
        by_cases e3 : bs b = 59
        · rw [if_pos e3, if_neg (by decide), if_neg (by decide), if_neg (by decide), nI_1]
          exact ⟨_, _, _, _, _, _, rfl, rfl, ⟨by omega, by omega, Or.inr (Or.inr (Or.inr (Or.inl ⟨rfl, rfl, e3, by omega⟩)))⟩, h1⟩
        · rw [if_neg e3, if_neg (by decide), if_neg (by decide), if_neg (by decide), nI_1]
          exact ⟨_, _, _, _, _, _, rfl, rfl, ⟨by omega, by omega, Or.inr (Or.inr (Or.inr (Or.inr ⟨rfl, rfl, e3, by omega⟩)))⟩, h1⟩
      · rw [if_neg e2, if_neg e2, if_neg (by decide), if_pos rfl]
        obtain ⟨e, va', k1, k2, k3, k4, k5⟩ := numbL (b := b) h (l - b) F F b 0 (by omega) (by omega) (by omega)
        rw [k3, k4]
        exact ⟨_, _, _, _, _, _, rfl, rfl, ⟨k1, k2, Or.inr (Or.inr (Or.inl ⟨rfl, rfl, rfl, k5 hb e1 e2⟩))⟩, h1⟩
    · rw [if_neg e1, if_neg e1, if_pos rfl]
      obtain ⟨e, va', k1, k2, k3, k4, k5⟩ := wordL (b := b) h (l - b) F F b 0 (by omega) (by omega) (by omega)
      rw [k3, k4]
      exact ⟨_, _, _, _, _, _, rfl, rfl, ⟨k1, k2, Or.inr (Or.inl ⟨rfl, rfl, k5 hb e1⟩)⟩, h1⟩
/-! words -/
theorem len10 : ∀ i, i < 14 → LENS.getD i 0 ≤ 10 := by decide
def WM (bs : Nat → Int32) (b e i : Nat) : Prop := e - b = LENS.getD i 0 ∧ ∀ k, k < LENS.getD i 0 → bs (b + k) = CHC i (nI k)
theorem wmL {bs tp : Nat → Int32} {l b i : Nat} (h : TB bs tp l) (hi : i < 14) (hb : b + LENS.getD i 0 ≤ l) : ∀ (c n m k : Nat), k + c = LENS.getD i 0 → c < n → c + 1 < m → (∃ r, fX3_isWord_28 bs (nI b) i n (nI k) = some r ∧ fX5_isWord_32 tp (nI b) i m 1 (nI k) = some r ∧ (r = 1 ∧ (∀ j, k ≤ j → j < LENS.getD i 0 → bs (b + j) = CHC i (nI j)) ∨ r = 0 ∧ ¬ (∀ j, k ≤ j → j < LENS.getD i 0 → bs (b + j) = CHC i (nI j)))) := by
  have hl := h.1
  have h10 := len10 i hi
  intro c
  induction c with
  | zero =>
    intro n m k h1 h2 h3
    obtain ⟨n, rfl⟩ : ∃ q, n = q + 1 := ⟨n - 1, by omega⟩
    obtain ⟨m, rfl⟩ : ∃ q, m = q + 1 := ⟨m - 1, by omega⟩
    have e : Int32.ofNat (LENS.getD i 0) ≤ nI k := nI_le (a := LENS.getD i 0) (by omega) (by omega)
    refine ⟨1, ?_, ?_, Or.inl ⟨rfl, fun j h1 h2 => by omega⟩⟩
    · rw [fX3_isWord_28, if_pos e]
    · rw [fX5_isWord_32, if_pos e, if_pos (Or.inr rfl)]
  | succ c ih =>
    intro n m k h1 h2 h3
    obtain ⟨n, rfl⟩ : ∃ q, n = q + 1 := ⟨n - 1, by omega⟩
    obtain ⟨m, rfl⟩ : ∃ q, m = q + 2 := ⟨m - 2, by omega⟩
    have e : ¬ Int32.ofNat (LENS.getD i 0) ≤ nI k := nI_ge (b := LENS.getD i 0) (by omega) (by omega)
    have e2 : ¬ (nI k < 0 ∨ LENS.getD i 0 ≤ (nI k).toNatClampNeg) := nI_in (by omega) (by omega)
    rw [fX3_isWord_28, fX5_isWord_32, if_neg e, if_neg e, if_neg (show ¬ (1 : Int32) = 0 by decide), if_pos e2, if_pos e2, nI_add, if_pos (show ¬ (nI (b + k) < 0 ∨ 120 ≤ (nI (b + k)).toNatClampNeg) from nI_in (by omega) (by decide)), nI_clamp (show b + k < 2 ^ 31 by omega), num_at (by omega) (by decide), (h.2 (b + k) (by omega)).1, nI_1]
    by_cases g : bs (b + k) = CHC i (nI k)
    · rw [if_pos g, if_pos g]
      obtain ⟨r, k1, k2, k3⟩ := ih n (m + 1) (k + 1) (by omega) (by omega) (by omega)
      refine ⟨r, k1, k2, ?_⟩
      rcases k3 with ⟨r1, k3⟩ | ⟨r1, k3⟩
      · refine Or.inl ⟨r1, fun j g1 g2 => ?_⟩
        by_cases ej : j = k
        · subst ej; exact g
        · exact k3 j (by omega) g2
      · exact Or.inr ⟨r1, fun q => k3 fun j g1 g2 => q j (by omega) g2⟩
    · rw [if_neg g, if_neg g]
      refine ⟨0, rfl, ?_, Or.inr ⟨rfl, fun q => g (q k (Nat.le_refl _) (by omega))⟩⟩
      rw [fX5_isWord_32]
      by_cases e3 : Int32.ofNat (LENS.getD i 0) ≤ nI (k + 1)
      · rw [if_pos e3, if_pos (Or.inl rfl)]
      · rw [if_neg e3, if_pos rfl, if_pos (Or.inl rfl)]
/-- a word on both sides -/
theorem isW {bs tp : Nat → Int32} {l b e i F : Nat} {so va so' va' : Int32} (hFu : 300 ≤ F) (h : TB bs tp l) (hi : i < 14) (hT : TKR bs l so va so' va' b e) : ∃ r, fX3_isWord F bs so (nI b) (nI e) i = some r ∧ fX5_isWord F tp (nI b) (nI e) so' i = some r ∧ (r = 1 ∧ so = 1 ∧ WM bs b e i ∨ r = 0 ∧ ¬ (so = 1 ∧ WM bs b e i)) := by
  have hl := h.1
  have h10 := len10 i hi
  obtain ⟨t1, t2, t3⟩ := hT
  have hz : fX5_isWord_32 tp (nI b) i F 0 0 = some 0 := by
    obtain ⟨n, rfl⟩ : ∃ q, F = q + 1 := ⟨F - 1, by omega⟩
    rw [fX5_isWord_32]
    by_cases e3 : Int32.ofNat (LENS.getD i 0) ≤ 0
    · rw [if_pos e3, if_pos (Or.inl rfl)]
    · rw [if_neg e3, if_pos rfl, if_pos (Or.inl rfl)]
  unfold fX3_isWord fX5_isWord
  by_cases hs : so = 1
  · have hs' : so' = 1 := by
      rcases t3 with ⟨a, _⟩ | ⟨_, a, _⟩ | ⟨a, _⟩ | ⟨a, _⟩ | ⟨a, _⟩
      · rw [hs] at a; exact absurd a (by decide)
      · exact a
      · rw [hs] at a; exact absurd a (by decide)
      · rw [hs] at a; exact absurd a (by decide)
      · rw [hs] at a; exact absurd a (by decide)
    rw [if_pos hs, if_pos hs', pk_sub t1]
    by_cases el : e - b = LENS.getD i 0
    · have el2 : nI (e - b) = Int32.ofNat (LENS.getD i 0) := by rw [el]; rfl
      rw [if_pos el2, if_pos el2]
      obtain ⟨r, k1, k2, k3⟩ := wmL (b := b) h hi (by omega) (LENS.getD i 0) F F 0 (by omega) (by omega) (by omega)
      refine ⟨r, k1, k2, ?_⟩
      rcases k3 with ⟨r1, k3⟩ | ⟨r1, k3⟩
      · exact Or.inl ⟨r1, hs, el, fun k hk => k3 k (Nat.zero_le _) hk⟩
      · exact Or.inr ⟨r1, fun q => k3 fun j _ hj => q.2.2 j hj⟩
    · have el2 : ¬ nI (e - b) = Int32.ofNat (LENS.getD i 0) := fun q => el ((nI_eq (b := LENS.getD i 0) (by omega) (by omega)).mp q)
      rw [if_neg el2, if_neg el2, hz]
      exact ⟨0, rfl, rfl, Or.inr ⟨rfl, fun q => el q.2.1⟩⟩
  · have hs' : ¬ so' = 1 := by
      rcases t3 with ⟨_, a, _⟩ | ⟨a, _⟩ | ⟨_, a, _⟩ | ⟨_, a, _⟩ | ⟨_, a, _⟩
      · rw [a]; decide
      · exact absurd a hs
      · rw [a]; decide
      · rw [a]; decide
      · rw [a]; decide
    rw [if_neg hs, if_neg hs', hz]
    exact ⟨0, rfl, rfl, Or.inr ⟨rfl, fun q => hs q.1⟩⟩
/-- no two kinds have one word -/
theorem wm1 {bs : Nat → Int32} {b e i j : Nat} (hi : i < 7) (hj : j < 7) (h1 : WM bs b e i) (h2 : WM bs b e j) : i = j := by
  have hl : LENS.getD i 0 = LENS.getD j 0 := h1.1.symm.trans h2.1
  have key : ∀ i, i < 7 → ∀ j, j < 7 → LENS.getD i 0 = LENS.getD j 0 → (i = j ∨ (1 < LENS.getD i 0 ∧ 1 < LENS.getD j 0 ∧ CHC i (nI 1) ≠ CHC j (nI 1))) := by decide +kernel
  rcases key i hi j hj hl with q | ⟨q1, q2, q3⟩
  · exact q
  · exact absurd ((h1.2 1 q1).symm.trans (h2.2 1 q2)) q3
