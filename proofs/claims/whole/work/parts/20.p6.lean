/-! PURE, sixth part: calls without days -/
theorem hs_ex {ns : Nat} {x : Int32} (hns : ns ≤ 8) (h : ¬ fX0_hasSaying (nI ns) x = 0) : ∃ k, k < ns ∧ x = nI k := by
  unfold fX0_hasSaying at h
  cases ns with
  | zero =>
    have h2 : 0 ≤ x ∧ x ≤ nI 0 - 1 := Classical.byContradiction fun q => h (wi_iff.mpr q)
    have h3 := Int32.le_iff_toInt_le.mp h2.1
    have h4 := Int32.le_iff_toInt_le.mp h2.2
    rw [show (nI 0 - 1).toInt = -1 from by decide] at h4
    rw [show (0 : Int32).toInt = 0 from by decide] at h3
    omega
  | succ ns =>
    rw [nI_pred] at h
    obtain ⟨k, h1, h2⟩ := wi_ex (n := ns) rfl (by omega) h
    exact ⟨k, by omega, h2⟩
theorem hv_eq (nc x : Int32) : fX0_hasShip nc x = fX0_hasSaying nc x := rfl
theorem m_isSay {nw : Nat → Int32} {sc x : Int32} (e : nw 1 = sc) : fX5_isSaying nw x = fX0_hasSaying sc x := by rw [← e]; rfl
theorem m_isShip {nw : Nat → Int32} {nc x : Int32} (e : nw 3 = nc) : fX5_isShip nw x = fX0_hasSaying nc x := by rw [← e]; rfl
theorem RW.gen {nw nw' pl sp sy sh pl' sp' sy' sh' : Nat → Int32} {ns nv d ns' nv' d' : Nat} {zz zz' : Int32} (g0 : nw' 0 = nI d') (g1 : nw' 1 = nI ns') (g2 : nw' 2 = zz') (g3 : nw' 3 = nI nv') (gp : ∀ i, i < 6 → nw' (4 + i) = pl' i) (gs : ∀ i, i < 10 → nw' (10 + i) = sp' i) (gS : RowS nw' sy') (gH : RowH nw' sh') : RW nw' pl' sp' sy' sh' ns' nv' d' zz' := ⟨g0, g1, g2, g3, gp, gs, gS, gH⟩
theorem RW.setS {nw pl sp sy sh : Nat → Int32} {ns nv d j : Nat} {zz v : Int32} (R : RW nw pl sp sy sh ns nv d zz) (hj : j < 40) : RW (upd nw (20 + j) v) pl sp (upd sy j v) sh ns nv d zz := by
  obtain ⟨r0, r1, r2, r3, rp, rs, rS, rH⟩ := R
  exact ⟨by rw [updN (by omega)]; exact r0, by rw [updN (by omega)]; exact r1, by rw [updN (by omega)]; exact r2, by rw [updN (by omega)]; exact r3, fun i hi => by rw [updN (by omega)]; exact rp i hi, fun i hi => by rw [updN (by omega)]; exact rs i hi, rS.upd v, rH.off fun i hi => updN (by omega)⟩
theorem RW.setH {nw pl sp sy sh : Nat → Int32} {ns nv d j : Nat} {zz v : Int32} (R : RW nw pl sp sy sh ns nv d zz) : RW (upd nw (60 + j) v) pl sp sy (upd sh j v) ns nv d zz := by
  obtain ⟨r0, r1, r2, r3, rp, rs, rS, rH⟩ := R
  exact ⟨by rw [updN (by omega)]; exact r0, by rw [updN (by omega)]; exact r1, by rw [updN (by omega)]; exact r2, by rw [updN (by omega)]; exact r3, fun i hi => by rw [updN (by omega)]; exact rp i hi, fun i hi => by rw [updN (by omega)]; exact rs i hi, rS.off fun i h1 h2 => updN (by omega), rH.upd v⟩
theorem RW.setP {nw pl sp sy sh : Nat → Int32} {ns nv d j : Nat} {zz v : Int32} (R : RW nw pl sp sy sh ns nv d zz) (hj : j < 10) : RW (upd nw (10 + j) v) pl (upd sp j v) sy sh ns nv d zz := by
  obtain ⟨r0, r1, r2, r3, rp, rs, rS, rH⟩ := R
  refine ⟨by rw [updN (by omega)]; exact r0, by rw [updN (by omega)]; exact r1, by rw [updN (by omega)]; exact r2, by rw [updN (by omega)]; exact r3, fun i hi => by rw [updN (by omega)]; exact rp i hi, fun i hi => ?_, rS.off fun i h1 h2 => updN (by omega), rH.off fun i hi => updN (by omega)⟩
  by_cases e : i = j
  · subst e; rw [updS, updS]
  · rw [updN (by omega), updN e]; exact rs i hi
theorem RW.setZ {nw pl sp sy sh : Nat → Int32} {ns nv d : Nat} {zz v : Int32} (R : RW nw pl sp sy sh ns nv d zz) : RW (upd nw 2 v) pl sp sy sh ns nv d v := by
  obtain ⟨r0, r1, r2, r3, rp, rs, rS, rH⟩ := R
  exact ⟨by rw [updN (by omega)]; exact r0, by rw [updN (by omega)]; exact r1, updS, by rw [updN (by omega)]; exact r3, fun i hi => by rw [updN (by omega)]; exact rp i hi, fun i hi => by rw [updN (by omega)]; exact rs i hi, rS.off fun i h1 h2 => updN (by omega), rH.off fun i hi => updN (by omega)⟩
theorem RW.setN {nw pl sp sy sh : Nat → Int32} {ns nv d ns' : Nat} {zz : Int32} (R : RW nw pl sp sy sh ns nv d zz) : RW (upd nw 1 (nI ns')) pl sp sy sh ns' nv d zz := by
  obtain ⟨r0, r1, r2, r3, rp, rs, rS, rH⟩ := R
  exact ⟨by rw [updN (by omega)]; exact r0, updS, by rw [updN (by omega)]; exact r2, by rw [updN (by omega)]; exact r3, fun i hi => by rw [updN (by omega)]; exact rp i hi, fun i hi => by rw [updN (by omega)]; exact rs i hi, rS.off fun i h1 h2 => updN (by omega), rH.off fun i hi => updN (by omega)⟩
theorem RW.setV {nw pl sp sy sh : Nat → Int32} {ns nv d nv' : Nat} {zz : Int32} (R : RW nw pl sp sy sh ns nv d zz) : RW (upd nw 3 (nI nv')) pl sp sy sh ns nv' d zz := by
  obtain ⟨r0, r1, r2, r3, rp, rs, rS, rH⟩ := R
  exact ⟨by rw [updN (by omega)]; exact r0, by rw [updN (by omega)]; exact r1, by rw [updN (by omega)]; exact r2, updS, fun i hi => by rw [updN (by omega)]; exact rp i hi, fun i hi => by rw [updN (by omega)]; exact rs i hi, rS.off fun i h1 h2 => updN (by omega), rH.off fun i hi => updN (by omega)⟩
/-- what a field of a saying, of a ship may hold -/
def sMax (f : Nat) : Nat := if f = 0 then 6 else if f = 1 then 15 else if f = 2 then 99 else if f = 3 then 1 else 9999
theorem SayOK.set {sy : Nat → Int32} {k j f : Nat} {v : Int32} (h : SayOK sy k) (hf : f < 5) (hv : ex (sMax f) v) : SayOK (upd sy (5 * j + f) v) k := by
  obtain ⟨h0, h1, h2, h3, h4⟩ := h
  by_cases e : k = j
  · subst e
    rcases (show f = 0 ∨ f = 1 ∨ f = 2 ∨ f = 3 ∨ f = 4 by omega) with rfl | rfl | rfl | rfl | rfl
    · refine ⟨?_, ?_, ?_, ?_, ?_⟩
      · exact (updS (f := sy) (i := 5 * k)).symm ▸ hv
      · rw [updN (by omega)]; exact h1
      · rw [updN (by omega)]; exact h2
      · rw [updN (by omega)]; exact h3
      · rw [updN (by omega)]; exact h4
    · refine ⟨?_, ?_, ?_, ?_, ?_⟩
      · rw [updN (by omega)]; exact h0
      · rw [updS]; exact hv
      · rw [updN (by omega)]; exact h2
      · rw [updN (by omega)]; exact h3
      · rw [updN (by omega)]; exact h4
    · refine ⟨?_, ?_, ?_, ?_, ?_⟩
      · rw [updN (by omega)]; exact h0
      · rw [updN (by omega)]; exact h1
      · rw [updS]; exact hv
      · rw [updN (by omega)]; exact h3
      · rw [updN (by omega)]; exact h4
    · refine ⟨?_, ?_, ?_, ?_, ?_⟩
      · rw [updN (by omega)]; exact h0
      · rw [updN (by omega)]; exact h1
      · rw [updN (by omega)]; exact h2
      · rw [updS]; exact hv
      · rw [updN (by omega)]; exact h4
    · refine ⟨?_, ?_, ?_, ?_, ?_⟩
      · rw [updN (by omega)]; exact h0
      · rw [updN (by omega)]; exact h1
      · rw [updN (by omega)]; exact h2
      · rw [updN (by omega)]; exact h3
      · rw [updS]; exact hv
  · refine ⟨?_, ?_, ?_, ?_, ?_⟩
    · rw [updN (by omega)]; exact h0
    · rw [updN (by omega)]; exact h1
    · rw [updN (by omega)]; exact h2
    · rw [updN (by omega)]; exact h3
    · rw [updN (by omega)]; exact h4
def hOK (f : Nat) (v : Int32) : Prop := if f = 0 then ex 15 v else if f = 1 then ex 99 v else if f = 2 then (∃ k, 1 ≤ k ∧ k ≤ 5 ∧ v = nI k) else ex 9999 v
theorem ShipOK.set {sh : Nat → Int32} {k j f : Nat} {v : Int32} (h : ShipOK sh k) (hf : f < 4) (hv : hOK f v) : ShipOK (upd sh (4 * j + f) v) k := by
  obtain ⟨h0, h1, h2, h3⟩ := h
  by_cases e : k = j
  · subst e
    rcases (show f = 0 ∨ f = 1 ∨ f = 2 ∨ f = 3 by omega) with rfl | rfl | rfl | rfl
    · refine ⟨?_, ?_, ?_, ?_⟩
      · exact (updS (f := sh) (i := 4 * k)).symm ▸ hv
      · rw [updN (by omega)]; exact h1
      · rw [updN (by omega)]; exact h2
      · rw [updN (by omega)]; exact h3
    · refine ⟨?_, ?_, ?_, ?_⟩
      · rw [updN (by omega)]; exact h0
      · rw [updS]; exact hv
      · rw [updN (by omega)]; exact h2
      · rw [updN (by omega)]; exact h3
    · refine ⟨?_, ?_, ?_, ?_⟩
      · rw [updN (by omega)]; exact h0
      · rw [updN (by omega)]; exact h1
      · rw [updS]; exact hv
      · rw [updN (by omega)]; exact h3
    · refine ⟨?_, ?_, ?_, ?_⟩
      · rw [updN (by omega)]; exact h0
      · rw [updN (by omega)]; exact h1
      · rw [updN (by omega)]; exact h2
      · rw [updS]; exact hv
  · refine ⟨?_, ?_, ?_, ?_⟩
    · rw [updN (by omega)]; exact h0
    · rw [updN (by omega)]; exact h1
    · rw [updN (by omega)]; exact h2
    · rw [updN (by omega)]; exact h3
theorem EI.setS {pl sp sy sh : Nat → Int32} {ns nv d j f : Nat} {v : Int32} (h : EI pl sp sy sh ns nv d) (hf : f < 5) (hv : ex (sMax f) v) : EI pl sp (upd sy (5 * j + f) v) sh ns nv d :=
  ⟨h.1, h.2.1, h.2.2.1, h.2.2.2.1, h.2.2.2.2.1, fun k hk => (h.2.2.2.2.2.1 k hk).set hf hv, h.2.2.2.2.2.2⟩
theorem EI.setH {pl sp sy sh : Nat → Int32} {ns nv d j f : Nat} {v : Int32} (h : EI pl sp sy sh ns nv d) (hf : f < 4) (hv : hOK f v) : EI pl sp sy (upd sh (4 * j + f) v) ns nv d :=
  ⟨h.1, h.2.1, h.2.2.1, h.2.2.2.1, h.2.2.2.2.1, h.2.2.2.2.2.1, fun k hk => (h.2.2.2.2.2.2 k hk).set hf hv⟩
theorem EI.setP {pl sp sy sh : Nat → Int32} {ns nv d j : Nat} {v : Int32} (h : EI pl sp sy sh ns nv d) (hv : v = -1 ∨ ∃ k, k < ns ∧ v = nI k) : EI pl (upd sp j v) sy sh ns nv d := by
  obtain ⟨h1, h2, h3, h4, h5, h6⟩ := h
  refine ⟨h1, h2, h3, h4, fun i hi => ?_, h6⟩
  by_cases e : i = j
  · subst e; rw [updS]; exact hv
  · rw [updN e]; exact h5 i hi
/-- a new saying, a new ship -/
def addS (sy : Nat → Int32) (n : Nat) (a b c : Int32) : Nat → Int32 := upd (upd (upd (upd (upd sy (5 * n) a) (5 * n + 1) c) (5 * n + 2) b) (5 * n + 3) 0) (5 * n + 4) 0
def addH (sh : Nat → Int32) (n : Nat) (a b c : Int32) : Nat → Int32 := upd (upd (upd (upd sh (4 * n) a) (4 * n + 1) b) (4 * n + 2) c) (4 * n + 3) 0
theorem sPut0 {sy : Nat → Int32} {k : Nat} {v : Int32} (hk : k < 8) : fX0_setOfSaying sy (nI k) 0 v = upd sy (5 * k) v := sPut (f := 0) hk (by decide)
theorem sPut1 {sy : Nat → Int32} {k : Nat} {v : Int32} (hk : k < 8) : fX0_setOfSaying sy (nI k) 1 v = upd sy (5 * k + 1) v := sPut (f := 1) hk (by decide)
theorem hPut1 {sh : Nat → Int32} {k : Nat} {v : Int32} (hk : k < 6) : fX0_setOfShip sh (nI k) 1 v = upd sh (4 * k + 1) v := hPut (f := 1) hk (by decide)
theorem hPut2 {sh : Nat → Int32} {k : Nat} {v : Int32} (hk : k < 6) : fX0_setOfShip sh (nI k) 2 v = upd sh (4 * k + 2) v := hPut (f := 2) hk (by decide)
theorem cAdd {sy : Nat → Int32} {n : Nat} (a b c : Int32) (hn : n < 8) : fX0_addSaying sy (nI n) a b c = (nI n, addS sy n a b c, nI (n + 1)) := by
  unfold fX0_addSaying addS
  rw [sPut0 hn, sPut1 hn, sPut2 hn, sPut3 hn, sPut4 hn, nI_1]
theorem cAddH {sh : Nat → Int32} {n : Nat} (a b c : Int32) (hn : n < 6) : fX0_addShip sh (nI n) a b c = (nI n, addH sh n a b c, nI (n + 1)) := by
  unfold fX0_addShip addH
  rw [hPut0 hn, hPut1 hn, hPut2 hn, hPut3 hn, nI_1]
theorem addS_ok {sy : Nat → Int32} {n k : Nat} {a b c : Int32} (ha : ex 6 a) (hb : ex 99 b) (hc : ex 15 c) (h : k < n → SayOK sy k) (hk : k < n + 1) : SayOK (addS sy n a b c) k := by
  unfold addS
  by_cases e : k = n
  · subst e
    refine ⟨?_, ?_, ?_, ?_, ?_⟩
    · rw [updN (by omega), updN (by omega), updN (by omega), updN (by omega), updS]; exact ha
    · rw [updN (by omega), updN (by omega), updN (by omega), updS]; exact hc
    · rw [updN (by omega), updN (by omega), updS]; exact hb
    · rw [updN (by omega), updS]; exact ⟨0, by decide, rfl⟩
    · rw [updS]; exact ⟨0, by decide, rfl⟩
  · obtain ⟨h0, h1, h2, h3, h4⟩ := h (by omega)
    refine ⟨?_, ?_, ?_, ?_, ?_⟩
    · rw [updN (by omega), updN (by omega), updN (by omega), updN (by omega), updN (by omega)]; exact h0
    · rw [updN (by omega), updN (by omega), updN (by omega), updN (by omega), updN (by omega)]; exact h1
    · rw [updN (by omega), updN (by omega), updN (by omega), updN (by omega), updN (by omega)]; exact h2
    · rw [updN (by omega), updN (by omega), updN (by omega), updN (by omega), updN (by omega)]; exact h3
    · rw [updN (by omega), updN (by omega), updN (by omega), updN (by omega), updN (by omega)]; exact h4
theorem addH_ok {sh : Nat → Int32} {n k : Nat} {a b c : Int32} (ha : ex 15 a) (hb : ex 99 b) (hc : ∃ k, 1 ≤ k ∧ k ≤ 5 ∧ c = nI k) (h : k < n → ShipOK sh k) (hk : k < n + 1) : ShipOK (addH sh n a b c) k := by
  unfold addH
  by_cases e : k = n
  · subst e
    refine ⟨?_, ?_, ?_, ?_⟩
    · rw [updN (by omega), updN (by omega), updN (by omega), updS]; exact ha
    · rw [updN (by omega), updN (by omega), updS]; exact hb
    · rw [updN (by omega), updS]; exact hc
    · rw [updS]; exact ⟨0, by decide, rfl⟩
  · obtain ⟨h0, h1, h2, h3⟩ := h (by omega)
    refine ⟨?_, ?_, ?_, ?_⟩
    · rw [updN (by omega), updN (by omega), updN (by omega), updN (by omega)]; exact h0
    · rw [updN (by omega), updN (by omega), updN (by omega), updN (by omega)]; exact h1
    · rw [updN (by omega), updN (by omega), updN (by omega), updN (by omega)]; exact h2
    · rw [updN (by omega), updN (by omega), updN (by omega), updN (by omega)]; exact h3
theorem at5_0 (k : Nat) : fX5_sayingAt (nI k) 0 = nI (20 + 5 * k) := at5 k 0
theorem at5_1 (k : Nat) : fX5_sayingAt (nI k) 1 = nI (20 + (5 * k + 1)) := at5 k 1
theorem at4_1 (k : Nat) : fX5_shipAt (nI k) 1 = nI (60 + (4 * k + 1)) := at4 k 1
theorem at4_2 (k : Nat) : fX5_shipAt (nI k) 2 = nI (60 + (4 * k + 2)) := at4 k 2
theorem mComes {nw pl sp sy sh : Nat → Int32} {ns nv d : Nat} {zz : Int32} (R : RW nw pl sp sy sh ns nv d zz) (hn : ns < 8) (a b c : Int32) : ∃ nw', fX5_comes nw a b c = some (nI ns, nw') ∧ RW nw' pl sp (addS sy ns a b c) sh (ns + 1) nv d zz := by
  unfold fX5_comes
  rw [R.2.1, at5_0, at5_1, at5_2, at5_3, at5_4, if_pos (in84 (by omega)), if_pos (in84 (by omega)), if_pos (in84 (by omega)), if_pos (in84 (by omega)), if_pos (in84 (by omega)), nI_clamp (by omega), nI_clamp (by omega), nI_clamp (by omega), nI_clamp (by omega), nI_clamp (by omega)]
  refine ⟨_, rfl, ?_⟩
  rw [updN (show 1 ≠ 20 + (5 * ns + 4) by omega), updN (show 1 ≠ 20 + (5 * ns + 3) by omega), updN (show 1 ≠ 20 + (5 * ns + 2) by omega), updN (show 1 ≠ 20 + (5 * ns + 1) by omega), updN (show 1 ≠ 20 + 5 * ns by omega), R.2.1, nI_1]
  exact (((((R.setS (by omega)).setS (by omega)).setS (by omega)).setS (by omega)).setS (by omega)).setN
theorem mSails {nw pl sp sy sh : Nat → Int32} {ns nv d : Nat} {zz : Int32} (R : RW nw pl sp sy sh ns nv d zz) (hn : nv < 6) (a c : Int32) : ∃ nw', fX5_sails nw a c = some (nI nv, nw') ∧ RW nw' pl sp sy (addH sh nv a 30 c) ns (nv + 1) d zz := by
  unfold fX5_sails
  rw [R.2.2.2.1, at4_0, at4_1, at4_2, at4_3, if_pos (in84 (by omega)), if_pos (in84 (by omega)), if_pos (in84 (by omega)), if_pos (in84 (by omega)), nI_clamp (by omega), nI_clamp (by omega), nI_clamp (by omega), nI_clamp (by omega)]
  refine ⟨_, rfl, ?_⟩
  rw [updN (show 3 ≠ 60 + (4 * nv + 3) by omega), updN (show 3 ≠ 60 + (4 * nv + 2) by omega), updN (show 3 ≠ 60 + (4 * nv + 1) by omega), updN (show 3 ≠ 60 + 4 * nv by omega), R.2.2.2.1, nI_1]
  exact (R.setH.setH.setH.setH).setV
theorem EI.addS {pl sp sy sh : Nat → Int32} {ns nv d : Nat} {a b c : Int32} (h : EI pl sp sy sh ns nv d) (hn : ns < 8) (ha : ex 6 a) (hb : ex 99 b) (hc : ex 15 c) : EI pl sp (addS sy ns a b c) sh (ns + 1) nv d :=
  ⟨by omega, h.2.1, h.2.2.1, h.2.2.2.1, fun i hi => (h.2.2.2.2.1 i hi).imp id (fun ⟨k, q1, q2⟩ => ⟨k, by omega, q2⟩), fun k hk => addS_ok ha hb hc (h.2.2.2.2.2.1 k) hk, h.2.2.2.2.2.2⟩
theorem EI.addH {pl sp sy sh : Nat → Int32} {ns nv d : Nat} {a b c : Int32} (h : EI pl sp sy sh ns nv d) (hn : nv < 6) (ha : ex 15 a) (hb : ex 99 b) (hc : ∃ k, 1 ≤ k ∧ k ≤ 5 ∧ c = nI k) : EI pl sp sy (addH sh nv a b c) ns (nv + 1) d :=
  ⟨h.1, by omega, h.2.2.1, h.2.2.2.1, h.2.2.2.2.1, h.2.2.2.2.2.1, fun k hk => addH_ok ha hb hc (h.2.2.2.2.2.2 k) hk⟩
