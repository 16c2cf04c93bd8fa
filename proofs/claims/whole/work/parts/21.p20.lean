/-! PURE, twentieth part: a text on both sides -/
theorem w_of : ∀ k, k < 7 → fX1_wordOf (nI k) = k := by decide
section TX
variable {bs tp : Nat → Int32} {l F : Nat} {so va so' va' : Int32} {b e : Nat}
theorem kAt (hFu : 300 ≤ F) (h : TB bs tp l) (hT : TKR bs l so va so' va' b e) : ∀ (c n j : Nat), j + c = 7 → c < n → (∃ k, j ≤ k ∧ k < 7 ∧ so = 1 ∧ WM bs b e k ∧ fX3_kindAtHand_2 F bs so (nI b) (nI e) n (nI j) = some (nI k)) ∨ ((∀ k, j ≤ k → k < 7 → ¬ (so = 1 ∧ WM bs b e k)) ∧ fX3_kindAtHand_2 F bs so (nI b) (nI e) n (nI j) = some (-1)) := by
  intro c
  induction c with
  | zero =>
    intro n j h1 h2
    obtain ⟨n, rfl⟩ : ∃ q, n = q + 1 := ⟨n - 1, by omega⟩
    refine Or.inr ⟨fun k q1 q2 => by omega, ?_⟩
    rw [fX3_kindAtHand_2, if_pos (show (7 : Int32) ≤ nI j from nI_le (a := 7) (by omega) (by omega))]
  | succ c ih =>
    intro n j h1 h2
    obtain ⟨n, rfl⟩ : ∃ q, n = q + 1 := ⟨n - 1, by omega⟩
    obtain ⟨r, w1, w2, w3⟩ := isW hFu h (i := j) (by omega) hT
    rw [fX3_kindAtHand_2, if_neg (show ¬ (7 : Int32) ≤ nI j from nI_ge (b := 7) (by omega) (by decide)), w_of j (by omega), w1, oSome, nI_1]
    rcases w3 with ⟨r1, r2, r3⟩ | ⟨r1, r2⟩
    · subst r1
      exact Or.inl ⟨j, Nat.le_refl _, by omega, r2, r3, by rw [if_neg i10]⟩
    · subst r1
      rw [if_pos rfl]
      rcases ih n (j + 1) (by omega) (by omega) with ⟨k, q1, q2, q3⟩ | ⟨q1, q2⟩
      · exact Or.inl ⟨k, by omega, q2, q3⟩
      · refine Or.inr ⟨fun k g1 g2 => ?_, q2⟩
        by_cases ek : k = j
        · subst ek; exact r2
        · exact q1 k (by omega) g2
theorem kNo (hFu : 300 ≤ F) (h : TB bs tp l) (hT : TKR bs l so va so' va' b e) (v1 : Int32) (it : Nat → Int32) (iw im st ht : Int32) : ∀ (c n j : Nat), j + c ≤ 7 → (∀ k, j ≤ k → k < j + c → ¬ (so = 1 ∧ WM bs b e k)) → fX5_readItem_4 F tp (nI l) (n + c) v1 (nI j) it (nI b) (nI e) so' va' iw im st ht = fX5_readItem_4 F tp (nI l) n v1 (nI (j + c)) it (nI b) (nI e) so' va' iw im st ht := by
  intro c
  induction c with
  | zero => intro n j h1 h2; rfl
  | succ c ih =>
    intro n j h1 h2
    obtain ⟨r, w1, w2, w3⟩ := isW hFu h (i := j) (by omega) hT
    have r0 : r = 0 := by
      rcases w3 with ⟨_, r2, r3⟩ | ⟨r1, _⟩
      · exact absurd ⟨r2, r3⟩ (h2 j (Nat.le_refl _) (by omega))
      · exact r1
    subst r0
    rw [show n + (c + 1) = (n + c) + 1 by omega, fX5_readItem_4, if_neg (show ¬ (7 : Int32) ≤ nI j from nI_ge (b := 7) (by omega) (by decide)), if_pos (show ¬ (nI j < 0 ∨ 7 ≤ (nI j).toNatClampNeg) from nI_in (by omega) (by decide)), nI_clamp (by omega), w2, oSome, if_pos rfl, nI_1, ih n (j + 1) (by omega) (fun k q1 q2 => h2 k (by omega) (by omega)), show j + 1 + c = j + (c + 1) by omega]
/-- the reference's item, by the kind at hand -/
theorem rItem (hFu : 300 ≤ F) (h : TB bs tp l) (hT : TKR bs l so va so' va' b e) (it : Nat → Int32) (iw im st ht : Int32) :
    (∀ k, k < 7 → so = 1 → WM bs b e k → fX5_readItem F tp it (nI l) (nI b) (nI e) so' va' iw im st ht = Option.bind (fX5_readSaying F tp it (nI l) (nI b) (nI e) so' va' iw im st (nI k)) (fun z => some (z.1, z.2.1, z.2.2.1, z.2.2.2.1, z.2.2.2.2.1, z.2.2.2.2.2.1, z.2.2.2.2.2.2.1, z.2.2.2.2.2.2.2, ht)))
    ∧ ((∀ k, k < 7 → ¬ (so = 1 ∧ WM bs b e k)) → fX5_readItem F tp it (nI l) (nI b) (nI e) so' va' iw im st ht = Option.bind (fX5_isWord F tp (nI b) (nI e) so' 7) (fun z_3 => (if z_3 = 0 then Option.bind (fX5_takesWord F tp (nI l) (nI b) (nI e) so' va' iw 8) (fun z_6 => (if z_6.1 = 0 then Option.bind (fX5_must F tp (nI l) z_6.2.1 z_6.2.2.1 z_6.2.2.2.1 z_6.2.2.2.2.1 z_6.2.2.2.2.2 0) (fun z_9 => some (it, z_9.1, z_9.2.1, z_9.2.2.1, z_9.2.2.2.1, z_9.2.2.2.2, im, st, ht)) else gF F tp it (nI l) z_6.2.1 z_6.2.2.1 z_6.2.2.2.1 z_6.2.2.2.2.1 z_6.2.2.2.2.2 im st ht)) else Option.bind (fX5_readShip F tp it (nI l) (nI b) (nI e) so' va' iw im ht) (fun z_17 => some (z_17.1, z_17.2.1, z_17.2.2.1, z_17.2.2.2.1, z_17.2.2.2.2.1, z_17.2.2.2.2.2.1, z_17.2.2.2.2.2.2.1, st, z_17.2.2.2.2.2.2.2))))) := by
  obtain ⟨f, rfl⟩ : ∃ f, F = f + 20 := ⟨F - 20, by omega⟩
  constructor
  · intro k hk s1 hw
    have n1 := kNo hFu h hT (-1) it iw im st ht k (f + 20 - k) 0 (by omega) (fun j _ q => fun ⟨_, g⟩ => by have := wm1 (by omega) hk g hw; omega)
    have n2 := kNo hFu h hT (nI k) it iw im st ht (6 - k) (f + 13) (k + 1) (by omega) (fun j q1 q2 => fun ⟨_, g⟩ => by have := wm1 (by omega) hk g hw; omega)
    obtain ⟨r, w1, w2, w3⟩ := isW hFu h (i := k) (by omega) hT
    have r0 : r = 1 := by
      rcases w3 with ⟨r1, _⟩ | ⟨_, q⟩
      · exact r1
      · exact absurd ⟨s1, hw⟩ q
    subst r0
    unfold fX5_readItem
    rw [show f + 20 - k + k = f + 20 by omega, Nat.zero_add] at n1
    refine Eq.trans n1 ?_
    rw [show f + 20 - k = (f + 13 + (6 - k)) + 1 by omega, fX5_readItem_4, if_neg (show ¬ (7 : Int32) ≤ nI k from nI_ge (b := 7) (by omega) (by decide)), if_pos (show ¬ (nI k < 0 ∨ 7 ≤ (nI k).toNatClampNeg) from nI_in (by omega) (by decide)), nI_clamp (by omega), w2, oSome, if_neg i10, nI_1, n2, show k + 1 + (6 - k) = 7 by omega, fX5_readItem_4, if_pos (show (7 : Int32) ≤ nI 7 by decide), if_neg (nI_nlt0 (by omega))]
  · intro hno
    have n1 := kNo hFu h hT (-1) it iw im st ht 7 (f + 13) 0 (by omega) (fun j _ q => hno j (by omega))
    unfold fX5_readItem
    refine Eq.trans n1 ?_
    rw [show (0 + 7) = 7 from rfl, fX5_readItem_4, if_pos (show (7 : Int32) ≤ nI 7 by decide), if_pos (show (-1 : Int32) < 0 by decide)]
    rfl
end TX
section BD
variable {bs tp : Nat → Int32} {l F : Nat} {so va so' va' : Int32} {b e im ns nv d : Nat} {pl sp sy sh it nw0 nwX : Nat → Int32} {zz : Int32}
theorem bodyL (hFu : 300 ≤ F) (h : TB bs tp l) (hT : TKR bs l so va so' va' b e) (him : 2 * im ≤ b) (hE : EI pl sp sy sh ns nv d) (hA : APP nw0 it im nwX) (hR : RW nwX pl sp sy sh ns nv d zz) (n : Nat) :
    (∃ pl2 sy2 sh2 it2 nw2 ns2 nv2 so2 va2 so2' va2' b2 e2, fX3_readInto_11 F bs (nI l) (n + 1) (nI (im + 1)) pl sy sh so (nI b) (nI e) va (nI ns) (nI nv) = (if so2 = 0 then some (nI (im + 1), pl2, sy2, sh2, so2, nI b2, nI e2, va2, nI ns2, nI nv2) else if so2 = 3 then Option.bind (fX3_advance F bs (nI l) so2 (nI b2) (nI e2) va2) (fun z => fX3_readInto_11 F bs (nI l) n (nI (im + 1) + 1) pl2 sy2 sh2 z.1 z.2.1 z.2.2.1 z.2.2.2 (nI ns2) (nI nv2)) else some ((-1) - nI b2, pl2, sy2, sh2, so2, nI b2, nI e2, va2, nI ns2, nI nv2))
      ∧ fX5_readItem F tp it (nI l) (nI b) (nI e) so' va' 0 (nI im) (nI ns) (nI nv) = some (it2, nI b2, nI e2, so2', va2', 0, nI (im + 1), nI ns2, nI nv2) ∧ TKR bs l so2 va2 so2' va2' b2 e2 ∧ b < b2 ∧ EI pl2 sp sy2 sh2 ns2 nv2 d ∧ APP nw0 it2 (im + 1) nw2 ∧ RW nw2 pl2 sp sy2 sh2 ns2 nv2 d zz)
    ∨ (∃ pl2 sy2 sh2 so2 be2 en2 va2 sc2 nc2 it2 b2 e2' so2' va2' im2 st2 ht2, fX3_readInto_11 F bs (nI l) (n + 1) (nI (im + 1)) pl sy sh so (nI b) (nI e) va (nI ns) (nI nv) = some ((-1) - nI b2, pl2, sy2, sh2, so2, be2, en2, va2, sc2, nc2) ∧ fX5_readItem F tp it (nI l) (nI b) (nI e) so' va' 0 (nI im) (nI ns) (nI nv) = some (it2, nI b2, e2', so2', va2', 1, im2, st2, ht2) ∧ b2 ≤ l) := by
  have hl := h.1
  have hbe := hT.1
  have hel := hT.2.1
  have c0 : ¬ (120 : Int32) < nI (im + 1) := Int32.not_lt.mpr (nI_le (b := 120) (by omega) (by decide))
  obtain ⟨rS1, rN⟩ := rItem hFu h hT it 0 (nI im) (nI ns) (nI nv)
  have hlt : so = 1 → b < e := by
    intro s1
    rcases hT.2.2 with ⟨a, _⟩ | ⟨_, _, g⟩ | ⟨a, _⟩ | ⟨a, _⟩ | ⟨a, _⟩
    · rw [s1] at a; exact absurd a (by decide)
    · exact g
    · rw [s1] at a; exact absurd a (by decide)
    · rw [s1] at a; exact absurd a (by decide)
    · rw [s1] at a; exact absurd a (by decide)
  rcases kAt hFu h hT 7 F 0 (by omega) (by omega) with ⟨k, _, hk, s1, hw, kk⟩ | ⟨hno, kk⟩
  · have q := hlt s1
    have kk : fX3_kindAtHand F bs so (nI b) (nI e) = some (nI k) := kk
    have y1 : ¬ nI k = -1 := nI_nm1 (by omega)
    rcases rdS hFu h hT (show im < 120 by omega) hk hE hA hR with ⟨sy2, it2, nw2, so2, va2, so2', va2', b2, e2, g1, g2, g3, g4, g5, g6, g7⟩ | ⟨it2, so2, va2, so2', va2', b2, e2, im2, st2, g1, g2, g3⟩
    · left
      refine ⟨pl, sy2, sh, it2, nw2, ns + 1, nv, so2, va2, so2', va2', b2, e2, ?_, ?_, g3, by omega, g5, g6, g7⟩
      · simp only [fX3_readInto_11, c0, kk, y1, g1, oSome, i10, ↓reduceIte]
      · simp only [rS1 k hk s1 hw, g2, oSome]
    · right
      refine ⟨pl, sy, sh, so2, nI b2, nI e2, va2, nI ns, nI nv, it2, b2, nI e2, so2', va2', im2, st2, nI nv, ?_, ?_, g3⟩
      · simp only [fX3_readInto_11, c0, kk, y1, g1, oSome, ↓reduceIte]
      · simp only [rS1 k hk s1 hw, g2, oSome]
  · have kk : fX3_kindAtHand F bs so (nI b) (nI e) = some (-1) := kk
    have rN := rN (fun k hk => hno k (Nat.zero_le _) hk)
    obtain ⟨r, w1, w2, w3⟩ := isW hFu h (i := 7) (by decide) hT
    rcases w3 with ⟨r1, s1, _⟩ | ⟨r1, _⟩
    · subst r1
      have q := hlt s1
      rcases rdH hFu h hT (show im < 120 by omega) hE hA hR with ⟨sh2, it2, nw2, so2, va2, so2', va2', b2, e2, g1, g2, g3, g4, g5, g6, g7⟩ | ⟨it2, so2, va2, so2', va2', b2, e2, im2, st2, g1, g2, g3⟩
      · left
        refine ⟨pl, sy, sh2, it2, nw2, ns, nv + 1, so2, va2, so2', va2', b2, e2, ?_, ?_, g3, by omega, g5, g6, g7⟩
        · simp only [fX3_readInto_11, c0, kk, w1, g1, oSome, i10, ↓reduceIte]
        · simp only [rN, w2, g2, oSome, i10, ↓reduceIte]
      · right
        refine ⟨pl, sy, sh, so2, nI b2, nI e2, va2, nI ns, nI nv, it2, b2, nI e2, so2', va2', im2, nI ns, st2, ?_, ?_, g3⟩
        · simp only [fX3_readInto_11, c0, kk, w1, g1, oSome, i10, ↓reduceIte]
        · simp only [rN, w2, g2, oSome, i10, ↓reduceIte]
    · subst r1
      obtain ⟨r, v1, v2, v3⟩ := isW hFu h (i := 8) (by decide) hT
      rcases v3 with ⟨r1, s1, _⟩ | ⟨r1, _⟩
      · subst r1
        have q := hlt s1
        have tw : ∀ (K : Int32 × Int32 × Int32 × Int32 × Int32 × Int32 → Option ((Nat → Int32) × Int32 × Int32 × Int32 × Int32 × Int32 × Int32 × Int32 × Int32)), Option.bind (fX5_takesWord F tp (nI l) (nI b) (nI e) so' va' 0 8) (fun z_6 => (if z_6.1 = 0 then K z_6 else gF F tp it (nI l) z_6.2.1 z_6.2.2.1 z_6.2.2.2.1 z_6.2.2.2.2.1 z_6.2.2.2.2.2 (nI im) (nI ns) (nI nv))) = Option.bind (fX5_must F tp (nI l) (nI b) (nI e) so' va' 0 1) (fun z => gF F tp it (nI l) z.1 z.2.1 z.2.2.1 z.2.2.2.1 z.2.2.2.2 (nI im) (nI ns) (nI nv)) := by
          intro K
          unfold fX5_takesWord
          simp only [v2, oSome, bAss, i10, ↓reduceIte]
        have rN : fX5_readItem F tp it (nI l) (nI b) (nI e) so' va' 0 (nI im) (nI ns) (nI nv) = Option.bind (fX5_must F tp (nI l) (nI b) (nI e) so' va' 0 1) (fun z => gF F tp it (nI l) z.1 z.2.1 z.2.2.1 z.2.2.2.1 z.2.2.2.2 (nI im) (nI ns) (nI nv)) := by
          rw [rN, w2, oSome, if_pos rfl]
          exact tw _
        rcases rdF hFu h hT (show im < 120 by omega) hE hA hR (nI ns) (nI nv) with ⟨pl2, it2, nw2, so2, va2, so2', va2', b2, e2, g1, g2, g3, g4, g5, g6, g7⟩ | ⟨it2, so2, va2, so2', va2', b2, e2, im2, g1, g2, g3⟩
        · left
          refine ⟨pl2, sy, sh, it2, nw2, ns, nv, so2, va2, so2', va2', b2, e2, ?_, ?_, g3, by omega, g5, g6, g7⟩
          · simp only [fX3_readInto_11, c0, kk, w1, v1, g1, oSome, i10, ↓reduceIte]
          · rw [rN, g2]
        · right
          refine ⟨pl, sy, sh, so2, nI b2, nI e2, va2, nI ns, nI nv, it2, b2, nI e2, so2', va2', im2, nI ns, nI nv, ?_, ?_, g3⟩
          · simp only [fX3_readInto_11, c0, kk, w1, v1, g1, oSome, i10, ↓reduceIte]
          · rw [rN, g2]
      · subst r1
        right
        refine ⟨pl, sy, sh, so, nI b, nI e, va, nI ns, nI nv, it, b, nI e, so', va', nI im, nI ns, nI nv, ?_, ?_, by omega⟩
        · simp only [fX3_readInto_11, c0, kk, w1, v1, oSome, ↓reduceIte]
        · simp only [rN, w2, fX5_takesWord, v2, must0, oSome, ↓reduceIte]
end BD
section MN
variable {bs tp : Nat → Int32} {l F : Nat} {d : Nat} {sp nw0 : Nat → Int32} {zz : Int32}
theorem mainL (hFu : 300 ≤ F) (h : TB bs tp l) (K : (Nat → Int32) → Int32 → Int32 → Int32 → Int32 → Int32 → Int32 → Int32 → Int32 → Option (Int32 × (Nat → Int32) × (Nat → Int32) × Int32 × Int32 × Int32 × Int32 × Int32 × Int32 × Int32 × Int32 × Int32)) :
    ∀ (c n m im b e ns nv : Nat) (so va so' va' : Int32) (pl sy sh it nwX : Nat → Int32), l ≤ b + c → c < n → c < m → TKR bs l so va so' va' b e → 2 * im ≤ b → EI pl sp sy sh ns nv d → APP nw0 it im nwX → RW nwX pl sp sy sh ns nv d zz →
    (∃ q pl2 sy2 sh2 it2 nw2 ns2 nv2 so2 be2 en2 va2 b2 e2 va2', fX3_readInto_11 F bs (nI l) n (nI (im + 1)) pl sy sh so (nI b) (nI e) va (nI ns) (nI nv) = some (nI q, pl2, sy2, sh2, so2, be2, en2, va2, nI ns2, nI nv2) ∧ Option.bind (fX5_readItem F tp it (nI l) (nI b) (nI e) so' va' 0 (nI im) (nI ns) (nI nv)) (fun z_3 => fX5_text_43 F K tp (nI l) m z_3.1 z_3.2.1 z_3.2.2.1 z_3.2.2.2.1 z_3.2.2.2.2.1 z_3.2.2.2.2.2.1 z_3.2.2.2.2.2.2.1 z_3.2.2.2.2.2.2.2.1 z_3.2.2.2.2.2.2.2.2) = K it2 (nI b2) (nI e2) 0 va2' 0 (nI q) (nI ns2) (nI nv2) ∧ e2 ≤ l ∧ q ≤ 120 ∧ EI pl2 sp sy2 sh2 ns2 nv2 d ∧ APP nw0 it2 q nw2 ∧ RW nw2 pl2 sp sy2 sh2 ns2 nv2 d zz)
    ∨ (∃ pl2 sy2 sh2 so2 be2 en2 va2 sc2 nc2 it2 b2 e2' so2' va2' iw2 im2 st2 ht2, fX3_readInto_11 F bs (nI l) n (nI (im + 1)) pl sy sh so (nI b) (nI e) va (nI ns) (nI nv) = some ((-1) - nI b2, pl2, sy2, sh2, so2, be2, en2, va2, sc2, nc2) ∧ Option.bind (fX5_readItem F tp it (nI l) (nI b) (nI e) so' va' 0 (nI im) (nI ns) (nI nv)) (fun z_3 => fX5_text_43 F K tp (nI l) m z_3.1 z_3.2.1 z_3.2.2.1 z_3.2.2.2.1 z_3.2.2.2.2.1 z_3.2.2.2.2.2.1 z_3.2.2.2.2.2.2.1 z_3.2.2.2.2.2.2.2.1 z_3.2.2.2.2.2.2.2.2) = K it2 (nI b2) e2' so2' va2' iw2 im2 st2 ht2 ∧ b2 ≤ l ∧ (iw2 = 1 ∨ (iw2 = 0 ∧ ¬ so2' = 0))) := by
  have hl := h.1
  intro c
  induction c with
  | zero =>
    intro n m im b e ns nv so va so' va' pl sy sh it nwX h1 h2 h3 hT him hE hA hR
    obtain ⟨n, rfl⟩ : ∃ q, n = q + 1 := ⟨n - 1, by omega⟩
    obtain ⟨m, rfl⟩ : ∃ q, m = q + 1 := ⟨m - 1, by omega⟩
    rcases bodyL hFu h hT him hE hA hR n with ⟨pl2, sy2, sh2, it2, nw2, ns2, nv2, so2, va2, so2', va2', b2, e2, g1, g2, g3, g4, g5, g6, g7⟩ | ⟨pl2, sy2, sh2, so2, be2, en2, va2, sc2, nc2, it2, b2, e2', so2', va2', im2, st2, ht2, g1, g2, g3⟩
    · exfalso
      have := g3.1
      have := g3.2.1
      omega
    · right
      refine ⟨pl2, sy2, sh2, so2, be2, en2, va2, sc2, nc2, it2, b2, e2', so2', va2', 1, im2, st2, ht2, g1, ?_, g3, Or.inl rfl⟩
      simp only [g2, oSome, fX5_text_43, i10, ↓reduceIte]
  | succ c ih =>
    intro n m im b e ns nv so va so' va' pl sy sh it nwX h1 h2 h3 hT him hE hA hR
    obtain ⟨n, rfl⟩ : ∃ q, n = q + 1 := ⟨n - 1, by omega⟩
    obtain ⟨m, rfl⟩ : ∃ q, m = q + 1 := ⟨m - 1, by omega⟩
    have hbl : b ≤ l := Nat.le_trans hT.1 hT.2.1
    rcases bodyL hFu h hT him hE hA hR n with ⟨pl2, sy2, sh2, it2, nw2, ns2, nv2, so2, va2, so2', va2', b2, e2, g1, g2, g3, g4, g5, g6, g7⟩ | ⟨pl2, sy2, sh2, so2, be2, en2, va2, sc2, nc2, it2, b2, e2', so2', va2', im2, st2, ht2, g1, g2, g3⟩
    · have q1 := g3.1
      have q2 := g3.2.1
      rcases g3.2.2 with ⟨a1, a2, _⟩ | ⟨a1, a2, _⟩ | ⟨a1, a2, _⟩ | ⟨a1, a2, a3, a4⟩ | ⟨a1, a2, a3, a4⟩
      · subst a1 a2
        left
        refine ⟨im + 1, pl2, sy2, sh2, it2, nw2, ns2, nv2, 0, nI b2, nI e2, va2, b2, e2, va2', ?_, ?_, q2, by omega, g5, g6, g7⟩
        · rw [g1, if_pos rfl]
        · simp only [g2, oSome, fX5_text_43, show ¬ (0 : Int32) = 3 by decide, ↓reduceIte]
      · subst a1 a2
        right
        refine ⟨pl2, sy2, sh2, 1, nI b2, nI e2, va2, nI ns2, nI nv2, it2, b2, nI e2, 1, va2', 0, nI (im + 1), nI ns2, nI nv2, ?_, ?_, by omega, Or.inr ⟨rfl, by decide⟩⟩
        · rw [g1, if_neg (by decide), if_neg (by decide)]
        · simp only [g2, oSome, fX5_text_43, show ¬ (1 : Int32) = 3 by decide, ↓reduceIte]
      · subst a1 a2
        right
        refine ⟨pl2, sy2, sh2, 2, nI b2, nI e2, va2, nI ns2, nI nv2, it2, b2, nI e2, 2, va2', 0, nI (im + 1), nI ns2, nI nv2, ?_, ?_, by omega, Or.inr ⟨rfl, by decide⟩⟩
        · rw [g1, if_neg (by decide), if_neg (by decide)]
        · simp only [g2, oSome, fX5_text_43, show ¬ (2 : Int32) = 3 by decide, ↓reduceIte]
      · subst a1 a2
        obtain ⟨so3, va3, so3', va3', b3, e3, p1, p2, p3, p4⟩ := advS hFu h g3
        have t1 : tp b2 = 59 := by rw [(h.2 b2 (by omega)).1]; exact a3
        have e1 : fX3_readInto_11 F bs (nI l) (n + 1) (nI (im + 1)) pl sy sh so (nI b) (nI e) va (nI ns) (nI nv) = fX3_readInto_11 F bs (nI l) n (nI (im + 1 + 1)) pl2 sy2 sh2 so3 (nI b3) (nI e3) va3 (nI ns2) (nI nv2) := by
          rw [g1, if_neg (by decide), if_pos rfl, p1, oSome, nI_1]
        have e2 : Option.bind (fX5_readItem F tp it (nI l) (nI b) (nI e) so' va' 0 (nI im) (nI ns) (nI nv)) (fun z_3 => fX5_text_43 F K tp (nI l) (m + 1) z_3.1 z_3.2.1 z_3.2.2.1 z_3.2.2.2.1 z_3.2.2.2.2.1 z_3.2.2.2.2.2.1 z_3.2.2.2.2.2.2.1 z_3.2.2.2.2.2.2.2.1 z_3.2.2.2.2.2.2.2.2) = Option.bind (fX5_readItem F tp it2 (nI l) (nI b3) (nI e3) so3' va3' 0 (nI (im + 1)) (nI ns2) (nI nv2)) (fun z_3 => fX5_text_43 F K tp (nI l) m z_3.1 z_3.2.1 z_3.2.2.1 z_3.2.2.2.1 z_3.2.2.2.2.1 z_3.2.2.2.2.2.1 z_3.2.2.2.2.2.2.1 z_3.2.2.2.2.2.2.2.1 z_3.2.2.2.2.2.2.2.2) := by
          rw [g2, oSome]
          dsimp only
          rw [fX5_text_43, if_pos rfl, if_pos rfl, if_pos (show ¬ (nI b2 < 0 ∨ 120 ≤ (nI b2).toNatClampNeg) from nI_in (by omega) (by decide)), nI_clamp (by omega), if_pos t1, p2, oSome]
        rw [e1, e2]
        exact ih n m (im + 1) b3 e3 ns2 nv2 so3 va3 so3' va3' pl2 sy2 sh2 it2 nw2 (by omega) (by omega) (by omega) p3 (by omega) g5 g6 g7
      · subst a1 a2
        have t1 : ¬ tp b2 = 59 := by rw [(h.2 b2 (by omega)).1]; exact a3
        right
        refine ⟨pl2, sy2, sh2, 4, nI b2, nI e2, va2, nI ns2, nI nv2, it2, b2, nI e2, 3, va2', 0, nI (im + 1), nI ns2, nI nv2, ?_, ?_, by omega, Or.inr ⟨rfl, by decide⟩⟩
        · rw [g1, if_neg (by decide), if_neg (by decide)]
        · rw [g2, oSome]
          dsimp only
          rw [fX5_text_43, if_pos rfl, if_pos rfl, if_pos (show ¬ (nI b2 < 0 ∨ 120 ≤ (nI b2).toNatClampNeg) from nI_in (by omega) (by decide)), nI_clamp (by omega), if_neg t1]
    · right
      refine ⟨pl2, sy2, sh2, so2, be2, en2, va2, sc2, nc2, it2, b2, e2', so2', va2', 1, im2, st2, ht2, g1, ?_, g3, Or.inl rfl⟩
      simp only [g2, oSome, fX5_text_43, i10, ↓reduceIte]
end MN
theorem neg121 : ∀ b, b < 121 → (-1 : Int32) - nI b < 0 := by decide
section OP
variable {ppl psp psy psh kpl ksp ksy ksh bs bt sz nm fd : Nat → Int32} {ik psc pnc pdy pzz ksc knc kdy kzz ln : Int32} {nw kp fm tp wd mz mn : Nat → Int32} {mi td : Int32}
theorem op_text {F : Nat} (hFu : 300 ≤ F) (h : AG ppl psp psy psh kpl ksp ksy ksh bs bt sz nm fd ik psc pnc pdy pzz ksc knc kdy kzz ln nw kp fm tp wd mz mn mi td) (tpl tsp tsy tsh it : Nat → Int32) (tsc tnc tdy tzz so be en va bg eg sg vg iw im st ht : Int32) :
    ∃ r ppl' psp' psy' psh' tpl' tsp' tsy' tsh' psc' pnc' pdy' pzz' tsc' tnc' tdy' tzz' ln' so' be' en' va' nw' it' td' bg' eg' sg' vg' iw' im' st' ht', fX4_text F ppl psp psy psh tpl tsp tsy tsh bs psc pnc pdy pzz tsc tnc tdy tzz ln so be en va = some (r, ppl', psp', psy', psh', tpl', tsp', tsy', tsh', psc', pnc', pdy', pzz', tsc', tnc', tdy', tzz', ln', so', be', en', va') ∧ fX5_text F nw tp it td bg eg sg vg iw im st ht = some (r, nw', it', td', bg', eg', sg', vg', iw', im', st', ht') ∧ AG ppl' psp' psy' psh' kpl ksp ksy ksh bs bt sz nm fd ik psc' pnc' pdy' pzz' ksc knc kdy kzz ln' nw' kp fm tp wd mz mn mi td' := by
  obtain ⟨⟨ns, nv, d, es, en1, ed, hE, hR⟩, hK, hF, ⟨n, t1, t2, t3, t4⟩, hS⟩ := h
  have hB : TB bs tp n := ⟨t1, t4⟩
  subst t2 t3 es en1 ed
  have hT0 : TP bs tp 0 0 := ⟨0, by omega, rfl, rfl, fun i hi => absurd hi (Nat.not_lt_zero i)⟩
  obtain ⟨so1, va1, so1', va1', b1, e1, g1, g2, g3, g4⟩ := adv hFu hB (Nat.zero_le _) so be va bg sg vg
  have g1 : fX3_advance F bs (nI n) so be 0 va = some (so1, nI b1, nI e1, va1) := g1
  have g2 : fX5_token F tp (nI n) bg 0 sg vg = some (nI b1, nI e1, so1', va1') := g2
  unfold fX5_text
  rw [g2, oSome]
  dsimp only
  rw [hR.2.1, hR.2.2.2.1]
  have hEt := hE.tr (tl := tpl) (tp := tsp) (ty := tsy) (th := tsh)
  have hRt := hR.tr (tl := tpl) (tp := tsp) (ty := tsy) (th := tsh)
  have hA0 : APP nw it 0 nw := rfl
  have em := mainL (sp := va_cpy psp tsp 0 0 10) hFu hB (fun it__13 bg__14 en__15 so__16 va__17 iw__18 im__19 st__20 ht__21 => (if so__16 = 0 then Option.bind (fX5_must F tp (nI n) bg__14 en__15 so__16 va__17 iw__18 1) (fun z_29 => (if z_29.2.2.2.2 = 0 then fX5_text_121 it__13 0 z_29.1 z_29.2.1 z_29.2.2.1 z_29.2.2.2.1 z_29.2.2.2.2 im__19 st__20 ht__21 F 0 nw else some ((-1) - z_29.1, nw, it__13, 0, z_29.1, z_29.2.1, z_29.2.2.1, z_29.2.2.2.1, z_29.2.2.2.2, im__19, st__20, ht__21))) else Option.bind (fX5_must F tp (nI n) bg__14 en__15 so__16 va__17 iw__18 0) (fun z_23 => (if z_23.2.2.2.2 = 0 then fX5_text_121 it__13 0 z_23.1 z_23.2.1 z_23.2.2.1 z_23.2.2.2.1 z_23.2.2.2.2 im__19 st__20 ht__21 F 0 nw else some ((-1) - z_23.1, nw, it__13, 0, z_23.1, z_23.2.1, z_23.2.2.1, z_23.2.2.2.1, z_23.2.2.2.2, im__19, st__20, ht__21))))) n F F 0 b1 e1 ns nv so1 va1 so1' va1' (va_cpy ppl tpl 0 0 6) (va_cpy psy tsy 0 0 40) (va_cpy psh tsh 0 0 24) it nw (by omega) (by omega) (by omega) g3 (by omega) hEt hA0 hRt
  have ec : ∀ x, fX3_readInto_11 F bs (nI n) F (nI (0 + 1)) (va_cpy ppl tpl 0 0 6) (va_cpy psy tsy 0 0 40) (va_cpy psh tsh 0 0 24) so1 (nI b1) (nI e1) va1 (nI ns) (nI nv) = some x → fX4_text F ppl psp psy psh tpl tsp tsy tsh bs (nI ns) (nI nv) (nI d) pzz tsc tnc tdy tzz (nI n) so be en va = (if x.1 < 0 then some (x.1, ppl, psp, psy, psh, x.2.1, va_cpy psp tsp 0 0 10, x.2.2.1, x.2.2.2.1, nI ns, nI nv, nI d, pzz, x.2.2.2.2.2.2.2.2.1, x.2.2.2.2.2.2.2.2.2, nI d, pzz, 0, x.2.2.2.2.1, x.2.2.2.2.2.1, x.2.2.2.2.2.2.1, x.2.2.2.2.2.2.2.1) else some (x.1, va_cpy x.2.1 ppl 0 0 6, va_cpy (va_cpy psp tsp 0 0 10) psp 0 0 10, va_cpy x.2.2.1 psy 0 0 40, va_cpy x.2.2.2.1 psh 0 0 24, x.2.1, va_cpy psp tsp 0 0 10, x.2.2.1, x.2.2.2.1, x.2.2.2.2.2.2.2.2.1, x.2.2.2.2.2.2.2.2.2, nI d, pzz, x.2.2.2.2.2.2.2.2.1, x.2.2.2.2.2.2.2.2.2, nI d, pzz, 0, x.2.2.2.2.1, x.2.2.2.2.2.1, x.2.2.2.2.2.2.1, x.2.2.2.2.2.2.2.1)) := by
    intro x hx
    have hq : fX3_readInto F bs (va_cpy ppl tpl 0 0 6) (va_cpy psy tsy 0 0 40) (va_cpy psh tsh 0 0 24) (nI n) so be en va (nI ns) (nI nv) = some x := by
      unfold fX3_readInto
      rw [g1, oSome]
      exact hx
    unfold fX4_text
    show Option.bind (fX3_readInto F bs (va_cpy ppl tpl 0 0 6) (va_cpy psy tsy 0 0 40) (va_cpy psh tsh 0 0 24) (nI n) so be en va (nI ns) (nI nv)) _ = _
    rw [hq, oSome]
    rfl
  rcases em with ⟨q, pl2, sy2, sh2, it2, nw2, ns2, nv2, so2, be2, en2, va2, b2, e2, va2', m1, m2, m3, m4, m5, m6, m7⟩ | ⟨pl2, sy2, sh2, so2, be2, en2, va2, sc2, nc2, it2, b2, e2', so2', va2', iw2, im2, st2, ht2, m1, m2, m3, m4⟩
  · have c1 := ec _ m1
    rw [if_neg (nI_nlt0 (by omega))] at c1
    rw [c1]
    obtain ⟨so5, va5, so5', va5', b5, e5, _, y2, _, _⟩ := adv hFu hB m3 0 0 0 (nI b2) 0 va2'
    refine ⟨_, _, _, _, _, _, _, _, _, _, _, _, _, _, _, _, _, _, _, _, _, _, nw2, it2, 0, nI b5, nI e5, so5', va5', 0, nI q, nI ns2, nI nv2, rfl, ?_, ⟨ns2, nv2, d, rfl, rfl, rfl, m5.tr, m7.tr⟩, hK, hF, hT0, hS⟩
    refine Eq.trans m2 ?_
    have y3 : fX5_must F tp (nI n) (nI b2) (nI e2) 0 va2' 0 1 = some (nI b5, nI e5, so5', va5', 0) := by
      unfold fX5_must
      rw [if_pos rfl, if_neg i10, y2, oSome]
    dsimp only
    rw [if_pos rfl, y3, oSome]
    dsimp only
    rw [if_pos rfl]
    exact appL m4 m6 0 (nI b5) (nI e5) so5' va5' 0 (nI ns2) (nI nv2) q F 0 nw (by omega) (by omega) rfl
  · have c1 := ec _ m1
    rw [if_pos (neg121 b2 (by omega))] at c1
    rw [c1]
    refine ⟨_, _, _, _, _, _, _, _, _, _, _, _, _, _, _, _, _, _, _, _, _, _, nw, it2, 0, nI b2, e2', so2', va2', 1, im2, st2, ht2, rfl, ?_, ⟨ns, nv, d, rfl, rfl, rfl, hE, hR⟩, hK, hF, hT0, hS⟩
    refine Eq.trans m2 ?_
    dsimp only
    rcases m4 with m4 | ⟨m4, m5⟩
    · subst m4
      rw [mustB, mustB, oSome]
      dsimp only
      rw [if_neg i10, ite_self]
    · subst m4
      rw [if_neg m5, must0, oSome]
      dsimp only
      rw [if_neg i10]
end OP
