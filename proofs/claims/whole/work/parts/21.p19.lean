/-! PURE, nineteenth part: an item read on both sides -/
def gS (F : Nat) (tp it : Nat → Int32) (td bg en so va iw im st v1 : Int32) : Option ((Nat → Int32) × Int32 × Int32 × Int32 × Int32 × Int32 × Int32 × Int32) :=
  Option.bind (if 8 ≤ st then fX5_must F tp td bg en so va iw 0 else fX5_must F tp td bg en so va iw 1) (fun z2 => Option.bind (fX5_number F tp td z2.1 z2.2.1 z2.2.2.1 z2.2.2.2.1 z2.2.2.2.2 0 99) (fun z4 => Option.bind (optM F tp td z4.2.1 z4.2.2.1 z4.2.2.2.1 z4.2.2.2.2.1 z4.2.2.2.2.2 9 0 15 0) (fun z6 => Option.bind (optM F tp td z6.2.1 z6.2.2.1 z6.2.2.2.1 z6.2.2.2.2.1 z6.2.2.2.2.2 10 0 9999 0) (fun z9 => Option.bind (fX5_takesWord F tp td z9.2.1 z9.2.2.1 z9.2.2.2.1 z9.2.2.2.2.1 z9.2.2.2.2.2 11) (fun z12 => Option.bind (if z12.1 = 0 then fX5_addItem it im v1 z4.1 z6.1 z9.1 0 else fX5_addItem it im v1 z4.1 z6.1 z9.1 1) (fun z15 => some (z15.1, z12.2.1, z12.2.2.1, z12.2.2.2.1, z12.2.2.2.2.1, z12.2.2.2.2.2, z15.2, st + 1)))))))
theorem gS_eq (F : Nat) (tp it : Nat → Int32) (td bg en so va iw im st v1 : Int32) : fX5_readSaying F tp it td bg en so va iw im st v1 = gS F tp it td bg en so va iw im st v1 := by
  unfold fX5_readSaying gS optM
  simp only [bIte, bAss, oSome]
def gH (F : Nat) (tp it : Nat → Int32) (td bg en so va iw im ht : Int32) : Option ((Nat → Int32) × Int32 × Int32 × Int32 × Int32 × Int32 × Int32 × Int32) :=
  Option.bind (if 6 ≤ ht then fX5_must F tp td bg en so va iw 0 else fX5_must F tp td bg en so va iw 1) (fun z2 => Option.bind (optM F tp td z2.1 z2.2.1 z2.2.2.1 z2.2.2.2.1 z2.2.2.2.2 9 0 15 0) (fun z4 => Option.bind (optM F tp td z4.2.1 z4.2.2.1 z4.2.2.2.1 z4.2.2.2.2.1 z4.2.2.2.2.2 12 0 99 30) (fun z7 => Option.bind (optM F tp td z7.2.1 z7.2.2.1 z7.2.2.2.1 z7.2.2.2.2.1 z7.2.2.2.2.2 13 1 5 2) (fun z10 => Option.bind (fX5_addItem it im 10 z4.1 z7.1 z10.1 0) (fun z13 => some (z13.1, z10.2.1, z10.2.2.1, z10.2.2.2.1, z10.2.2.2.2.1, z10.2.2.2.2.2, z13.2, ht + 1))))))
theorem gH_eq (F : Nat) (tp it : Nat → Int32) (td bg en so va iw im ht : Int32) : fX5_readShip F tp it td bg en so va iw im ht = gH F tp it td bg en so va iw im ht := by
  unfold fX5_readShip gH optM
  simp only [bIte, bAss, oSome]
theorem opt_ex {v hi : Int32} {n : Nat} (hb : hi = nI n) (hn : n < 2 ^ 31) (h : v = 0 ∨ ¬ fX4_within v 0 hi = 0) : ex n v := by
  rcases h with h | h
  · exact ⟨0, Nat.zero_le _, h⟩
  · exact wi_ex hb hn h
theorem ex_nm1 {v : Int32} {n : Nat} (hn : n < 2 ^ 31) (h : ex n v) : ¬ v = -1 := by
  obtain ⟨k, hk, rfl⟩ := h
  exact nI_nm1 (by omega)
theorem add_0 {sy : Nat → Int32} {n : Nat} {a b c s : Int32} : upd (upd (addS sy n a b c) (5 * n + 4) s) (5 * n + 3) 0 = upd (addS sy n a b c) (5 * n + 4) s := by
  funext i
  by_cases e : i = 5 * n + 3
  · subst e
    unfold addS
    rw [updS, updN (by omega), updN (by omega), updS]
  · rw [updN e]
section RI
variable {bs tp : Nat → Int32} {l F : Nat} {so va so' va' : Int32} {b e im k ns nv d : Nat} {pl sp sy sh it nw0 nwX : Nat → Int32} {zz : Int32}
theorem oS0 {a b c : Int32} (h : ns < 8) : fX0_addSaying_o0 sy (nI ns) a b c = nI ns := by
  unfold fX0_addSaying_o0; rw [cAdd a b c h]
theorem oS1 {a b c : Int32} (h : ns < 8) : fX0_addSaying_o1 sy (nI ns) a b c = addS sy ns a b c := by
  unfold fX0_addSaying_o1; rw [cAdd a b c h]
theorem oS2 {a b c : Int32} (h : ns < 8) : fX0_addSaying_o2 sy (nI ns) a b c = nI (ns + 1) := by
  unfold fX0_addSaying_o2; rw [cAdd a b c h]
theorem oH1 {a b c : Int32} (h : nv < 6) : fX0_addShip_o1 sh (nI nv) a b c = addH sh nv a b c := by
  unfold fX0_addShip_o1; rw [cAddH a b c h]
theorem oH2 {a b c : Int32} (h : nv < 6) : fX0_addShip_o2 sh (nI nv) a b c = nI (nv + 1) := by
  unfold fX0_addShip_o2; rw [cAddH a b c h]
theorem rdS (hFu : 300 ≤ F) (h : TB bs tp l) (hT : TKR bs l so va so' va' b e) (him : im < 120) (hk : k < 7) (hE : EI pl sp sy sh ns nv d) (hA : APP nw0 it im nwX) (hR : RW nwX pl sp sy sh ns nv d zz) :
    (∃ sy2 it2 nw2 so2 va2 so2' va2' b2 e2, fX3_readSaying F bs sy (nI l) so (nI b) (nI e) va (nI ns) (nI k) = some (1, sy2, so2, nI b2, nI e2, va2, nI (ns + 1)) ∧ fX5_readSaying F tp it (nI l) (nI b) (nI e) so' va' 0 (nI im) (nI ns) (nI k) = some (it2, nI b2, nI e2, so2', va2', 0, nI (im + 1), nI (ns + 1)) ∧ TKR bs l so2 va2 so2' va2' b2 e2 ∧ e ≤ b2 ∧ EI pl sp sy2 sh (ns + 1) nv d ∧ APP nw0 it2 (im + 1) nw2 ∧ RW nw2 pl sp sy2 sh (ns + 1) nv d zz)
    ∨ (∃ it2 so2 va2 so2' va2' b2 e2 im2 st2, fX3_readSaying F bs sy (nI l) so (nI b) (nI e) va (nI ns) (nI k) = some (0, sy, so2, nI b2, nI e2, va2, nI ns) ∧ fX5_readSaying F tp it (nI l) (nI b) (nI e) so' va' 0 (nI im) (nI ns) (nI k) = some (it2, nI b2, nI e2, so2', va2', 1, im2, st2) ∧ b2 ≤ l) := by
  rw [gS_eq]
  unfold fX3_readSaying gS
  have hns := hE.1
  by_cases h8 : ns < 8
  · have c1 : nI ns < 8 := nI_lt (b := 8) h8 (by decide)
    have c2 : ¬ (8 : Int32) ≤ nI ns := nI_ge (b := 8) h8 (by decide)
    obtain ⟨so2, va2, so2', va2', b2, e2, g1, g2, g3, g4⟩ := advS hFu h hT
    rcases numS hFu h g3 0 99 with ⟨so3, va3, so3', va3', b3, e3, k1, k2, k3, k4, k5⟩ | ⟨k1, k2⟩
    · have x1 : ex 99 va2 := wi_ex rfl (by decide) k5
      have y1 := ex_nm1 (by decide) x1
      have q2 := g3.1
      rcases optS hFu h k3 (i := 9) (by decide) 0 15 0 with ⟨v4, so4, va4, so4', va4', b4, e4, m1, m2, m3, m4, m5⟩ | ⟨v4, so4, va4, so4', va4', b4, e4, m1, m2, m3⟩
      · have x2 : ex 15 v4 := opt_ex rfl (by decide) m5
        have y2 := ex_nm1 (by decide) x2
        rcases optS hFu h m3 (i := 10) (by decide) 0 9999 0 with ⟨v5, so5, va5, so5', va5', b5, e5, n1, n2, n3, n4, n5⟩ | ⟨v5, so5, va5, so5', va5', b5, e5, n1, n2, n3⟩
        · have x3 : ex 9999 v5 := opt_ex rfl (by decide) n5
          have y3 := ex_nm1 (by decide) x3
          have hE2 : EI pl sp (upd (addS sy ns (nI k) va2 v4) (5 * ns + 4) v5) sh (ns + 1) nv d := (hE.addS h8 ⟨k, by omega, rfl⟩ x1 x2).setS (j := ns) (f := 4) (by decide) x3
          obtain ⟨r, w1, w2, w3⟩ := isW hFu h (i := 11) (by decide) n3
          left
          rcases w3 with ⟨r1, _⟩ | ⟨r1, _⟩
          · subst r1
            obtain ⟨so6, va6, so6', va6', b6, e6, p1, p2, p3, p4⟩ := advS hFu h n3
            obtain ⟨nw2, t1, t2⟩ := toldS (it := it) (a := va2) (b := v4) (c := v5) (f := 1) hR h8 him hk
            have q5 := n3.1
            refine ⟨upd (upd (addS sy ns (nI k) va2 v4) (5 * ns + 4) v5) (5 * ns + 3) 1, put5 it im (nI k) va2 v4 v5 1, nw2, so6, va6, so6', va6', b6, e6, ?_, ?_, p3, by omega, hE2.setS (j := ns) (f := 3) (by decide) ⟨1, by decide, rfl⟩, ⟨nwX, APP.ext im nwX (by omega) (fun i hi => (put5_lt hi).symm) hA, t1⟩, t2⟩
            · simp only [c1, g1, k1, m1, n1, w1, p1, y1, y2, y3, i10, oS0 h8, oS1 h8, oS2 h8, sPut4 h8, sPut3 h8, oSome, ↓reduceIte]
            · simp only [fX5_takesWord, c2, g2, k2, m2, n2, w2, p2, i10, addI him, nI_1, oSome, ↓reduceIte]
          · subst r1
            obtain ⟨nw2, t1, t2⟩ := toldS (it := it) (a := va2) (b := v4) (c := v5) (f := 0) hR h8 him hk
            rw [add_0] at t2
            refine ⟨upd (addS sy ns (nI k) va2 v4) (5 * ns + 4) v5, put5 it im (nI k) va2 v4 v5 0, nw2, so5, va5, so5', va5', b5, e5, ?_, ?_, n3, by omega, hE2, ⟨nwX, APP.ext im nwX (by omega) (fun i hi => (put5_lt hi).symm) hA, t1⟩, t2⟩
            · simp only [c1, g1, k1, m1, n1, w1, y1, y2, y3, oS0 h8, oS1 h8, oS2 h8, sPut4 h8, sPut3 h8, oSome, ↓reduceIte]
            · simp only [fX5_takesWord, c2, g2, k2, m2, n2, w2, addI him, nI_1, oSome, ↓reduceIte]
        · right
          refine ⟨put5 it im (nI k) va2 v4 v5 0, so5, va5, so5', va5', b5, e5, nI (im + 1), nI (ns + 1), ?_, ?_, n3⟩
          rotate_right
          · simp only [c2, g2, k2, m2, n2, optB, takB, addI him, nI_1, oSome, ↓reduceIte]
          · simp only [c1, g1, k1, m1, n1, y1, y2, oSome, ↓reduceIte]
      · right
        refine ⟨put5 it im (nI k) va2 v4 0 0, so4, va4, so4', va4', b4, e4, nI (im + 1), nI (ns + 1), ?_, ?_, m3⟩
        rotate_right
        · simp only [c2, g2, k2, m2, optB, takB, addI him, nI_1, oSome, ↓reduceIte]
        · simp only [c1, g1, k1, m1, y1, oSome, ↓reduceIte]
    · right
      refine ⟨put5 it im (nI k) va2' 0 0 0, so2, va2, so2', va2', b2, e2, nI (im + 1), nI (ns + 1), ?_, ?_, Nat.le_trans g3.1 g3.2.1⟩
      rotate_right
      · simp only [c2, g2, k2, optB, takB, addI him, nI_1, oSome, ↓reduceIte]
      · simp only [c1, g1, k1, oSome, ↓reduceIte]
  · obtain rfl : ns = 8 := by omega
    have c1 : ¬ nI 8 < 8 := by decide
    have c2 : (8 : Int32) ≤ nI 8 := by decide
    right
    refine ⟨put5 it im (nI k) va' 0 0 0, so, va, so', va', b, e, nI (im + 1), nI (8 + 1), ?_, ?_, Nat.le_trans hT.1 hT.2.1⟩
    rotate_right
    · simp only [c2, must0, numB, optB, takB, addI him, nI_1, oSome, ↓reduceIte]
    · simp only [c1, ↓reduceIte]
theorem rdH (hFu : 300 ≤ F) (h : TB bs tp l) (hT : TKR bs l so va so' va' b e) (him : im < 120) (hE : EI pl sp sy sh ns nv d) (hA : APP nw0 it im nwX) (hR : RW nwX pl sp sy sh ns nv d zz) :
    (∃ sh2 it2 nw2 so2 va2 so2' va2' b2 e2, fX3_readShip F bs sh (nI l) so (nI b) (nI e) va (nI nv) = some (1, sh2, so2, nI b2, nI e2, va2, nI (nv + 1)) ∧ fX5_readShip F tp it (nI l) (nI b) (nI e) so' va' 0 (nI im) (nI nv) = some (it2, nI b2, nI e2, so2', va2', 0, nI (im + 1), nI (nv + 1)) ∧ TKR bs l so2 va2 so2' va2' b2 e2 ∧ e ≤ b2 ∧ EI pl sp sy sh2 ns (nv + 1) d ∧ APP nw0 it2 (im + 1) nw2 ∧ RW nw2 pl sp sy sh2 ns (nv + 1) d zz)
    ∨ (∃ it2 so2 va2 so2' va2' b2 e2 im2 st2, fX3_readShip F bs sh (nI l) so (nI b) (nI e) va (nI nv) = some (0, sh, so2, nI b2, nI e2, va2, nI nv) ∧ fX5_readShip F tp it (nI l) (nI b) (nI e) so' va' 0 (nI im) (nI nv) = some (it2, nI b2, nI e2, so2', va2', 1, im2, st2) ∧ b2 ≤ l) := by
  rw [gH_eq]
  unfold fX3_readShip gH
  have hnv := hE.2.1
  by_cases h8 : nv < 6
  · have c1 : nI nv < 6 := nI_lt (b := 6) h8 (by decide)
    have c2 : ¬ (6 : Int32) ≤ nI nv := nI_ge (b := 6) h8 (by decide)
    obtain ⟨so2, va2, so2', va2', b2, e2, g1, g2, g3, g4⟩ := advS hFu h hT
    rcases optS hFu h g3 (i := 9) (by decide) 0 15 0 with ⟨v4, so4, va4, so4', va4', b4, e4, m1, m2, m3, m4, m5⟩ | ⟨v4, so4, va4, so4', va4', b4, e4, m1, m2, m3⟩
    · have x2 : ex 15 v4 := opt_ex rfl (by decide) m5
      have y2 := ex_nm1 (by decide) x2
      rcases optS hFu h m3 (i := 12) (by decide) 0 99 30 with ⟨v5, so5, va5, so5', va5', b5, e5, n1, n2, n3, n4, n5⟩ | ⟨v5, so5, va5, so5', va5', b5, e5, n1, n2, n3⟩
      · have x3 : ex 99 v5 := by
          rcases n5 with n5 | n5
          · exact ⟨30, by decide, n5⟩
          · exact wi_ex rfl (by decide) n5
        have y3 := ex_nm1 (by decide) x3
        rcases optS hFu h n3 (i := 13) (by decide) 1 5 2 with ⟨v6, so6, va6, so6', va6', b6, e6, p1, p2, p3, p4, p5⟩ | ⟨v6, so6, va6, so6', va6', b6, e6, p1, p2, p3⟩
        · have x4 : ∃ k, 1 ≤ k ∧ k ≤ 5 ∧ v6 = nI k := by
            rcases p5 with p5 | p5
            · exact ⟨2, by decide, by decide, p5⟩
            · exact wi_ex1 p5
          have y4 : ¬ v6 = -1 := by
            obtain ⟨u, _, u2, rfl⟩ := x4
            exact nI_nm1 (by omega)
          left
          obtain ⟨nw2, t1, t2⟩ := toldH (it := it) (a := v4) (b := v5) (c := v6) (f := 0) hR h8 him
          refine ⟨addH sh nv v4 v5 v6, put5 it im 10 v4 v5 v6 0, nw2, so6, va6, so6', va6', b6, e6, ?_, ?_, p3, by omega, hE.addH h8 x2 x3 x4, ⟨nwX, APP.ext im nwX (by omega) (fun i hi => (put5_lt hi).symm) hA, t1⟩, t2⟩
          · simp only [c1, g1, m1, n1, p1, y2, y3, y4, oH1 h8, oH2 h8, oSome, ↓reduceIte]
          · simp only [c2, g2, m2, n2, p2, addI him, nI_1, oSome, ↓reduceIte]
        · right
          refine ⟨put5 it im 10 v4 v5 v6 0, so6, va6, so6', va6', b6, e6, nI (im + 1), nI (nv + 1), ?_, ?_, p3⟩
          rotate_right
          · simp only [c2, g2, m2, n2, p2, addI him, nI_1, oSome, ↓reduceIte]
          · simp only [c1, g1, m1, n1, p1, y2, y3, oSome, ↓reduceIte]
      · right
        refine ⟨put5 it im 10 v4 v5 2 0, so5, va5, so5', va5', b5, e5, nI (im + 1), nI (nv + 1), ?_, ?_, n3⟩
        rotate_right
        · simp only [c2, g2, m2, n2, optB, addI him, nI_1, oSome, ↓reduceIte]
        · simp only [c1, g1, m1, n1, y2, oSome, ↓reduceIte]
    · right
      refine ⟨put5 it im 10 v4 30 2 0, so4, va4, so4', va4', b4, e4, nI (im + 1), nI (nv + 1), ?_, ?_, m3⟩
      rotate_right
      · simp only [c2, g2, m2, optB, addI him, nI_1, oSome, ↓reduceIte]
      · simp only [c1, g1, m1, oSome, ↓reduceIte]
  · obtain rfl : nv = 6 := by omega
    have c1 : ¬ nI 6 < 6 := by decide
    have c2 : (6 : Int32) ≤ nI 6 := by decide
    right
    refine ⟨put5 it im 10 0 30 2 0, so, va, so', va', b, e, nI (im + 1), nI (6 + 1), ?_, ?_, Nat.le_trans hT.1 hT.2.1⟩
    rotate_right
    · simp only [c2, must0, optB, addI him, nI_1, oSome, ↓reduceIte]
    · simp only [c1, ↓reduceIte]
/-- the reference's end of an item that begins with 'finish' -/
def gF (F : Nat) (tp it : Nat → Int32) (td bg en so va iw im st ht : Int32) : Option ((Nat → Int32) × Int32 × Int32 × Int32 × Int32 × Int32 × Int32 × Int32 × Int32) :=
  Option.bind (fX5_number F tp td bg en so va iw 0 5) (fun z_11 => Option.bind (fX5_number F tp td z_11.2.1 z_11.2.2.1 z_11.2.2.2.1 z_11.2.2.2.2.1 z_11.2.2.2.2.2 0 8) (fun z_13 => Option.bind (fX5_addItem it im 11 z_11.1 z_13.1 0 0) (fun z_15 => some (z_15.1, z_13.2.1, z_13.2.2.1, z_13.2.2.2.1, z_13.2.2.2.2.1, z_13.2.2.2.2.2, z_15.2, st, ht))))
theorem rdF (hFu : 300 ≤ F) (h : TB bs tp l) (hT : TKR bs l so va so' va' b e) (him : im < 120) (hE : EI pl sp sy sh ns nv d) (hA : APP nw0 it im nwX) (hR : RW nwX pl sp sy sh ns nv d zz) (st ht : Int32) :
    (∃ pl2 it2 nw2 so2 va2 so2' va2' b2 e2, fX3_readFinish F bs pl (nI l) so (nI b) (nI e) va = some (1, pl2, so2, nI b2, nI e2, va2) ∧ Option.bind (fX5_must F tp (nI l) (nI b) (nI e) so' va' 0 1) (fun z => gF F tp it (nI l) z.1 z.2.1 z.2.2.1 z.2.2.2.1 z.2.2.2.2 (nI im) st ht) = some (it2, nI b2, nI e2, so2', va2', 0, nI (im + 1), st, ht) ∧ TKR bs l so2 va2 so2' va2' b2 e2 ∧ e ≤ b2 ∧ EI pl2 sp sy sh ns nv d ∧ APP nw0 it2 (im + 1) nw2 ∧ RW nw2 pl2 sp sy sh ns nv d zz)
    ∨ (∃ it2 so2 va2 so2' va2' b2 e2 im2, fX3_readFinish F bs pl (nI l) so (nI b) (nI e) va = some (0, pl, so2, nI b2, nI e2, va2) ∧ Option.bind (fX5_must F tp (nI l) (nI b) (nI e) so' va' 0 1) (fun z => gF F tp it (nI l) z.1 z.2.1 z.2.2.1 z.2.2.2.1 z.2.2.2.2 (nI im) st ht) = some (it2, nI b2, nI e2, so2', va2', 1, im2, st, ht) ∧ b2 ≤ l) := by
  unfold fX3_readFinish gF
  obtain ⟨so2, va2, so2', va2', b2, e2, g1, g2, g3, g4⟩ := advS hFu h hT
  rcases numS hFu h g3 0 5 with ⟨so3, va3, so3', va3', b3, e3, k1, k2, k3, k4, k5⟩ | ⟨k1, k2⟩
  · obtain ⟨i, hi, rfl⟩ := wi_ex (n := 5) rfl (by decide) k5
    have y1 : ¬ nI i = -1 := nI_nm1 (by omega)
    have q2 := g3.1
    rcases numS hFu h k3 0 8 with ⟨so4, va4, so4', va4', b4, e4, m1, m2, m3, m4, m5⟩ | ⟨m1, m2⟩
    · obtain ⟨v, hv, rfl⟩ := wi_ex (n := 8) rfl (by decide) m5
      have y2 : ¬ nI v = -1 := nI_nm1 (by omega)
      have q3 := k3.1
      left
      obtain ⟨nw2, t1, t2⟩ := toldF (it := it) (b := nI v) (c := 0) (f := 0) hR (show i < 6 by omega) him
      refine ⟨upd pl i (nI v), put5 it im 11 (nI i) (nI v) 0 0, nw2, so4, va4, so4', va4', b4, e4, ?_, ?_, m3, by omega, hE.set hv, ⟨nwX, APP.ext im nwX (by omega) (fun i hi => (put5_lt hi).symm) hA, t1⟩, t2⟩
      · have sp1 : fX0_setPlace pl (nI i) (nI v) = upd pl i (nI v) := put_at (by omega) (by decide)
        simp only [g1, k1, m1, y1, y2, sp1, oSome, ↓reduceIte]
      · simp only [g2, k2, m2, addI him, nI_1, oSome, ↓reduceIte]
    · right
      refine ⟨put5 it im 11 (nI i) va3' 0 0, so3, va3, so3', va3', b3, e3, nI (im + 1), ?_, ?_, Nat.le_trans k3.1 k3.2.1⟩
      rotate_right
      · simp only [g2, k2, m2, addI him, nI_1, oSome, ↓reduceIte]
      · simp only [g1, k1, m1, y1, oSome, ↓reduceIte]
  · right
    refine ⟨put5 it im 11 va2' va2' 0 0, so2, va2, so2', va2', b2, e2, nI (im + 1), ?_, ?_, Nat.le_trans g3.1 g3.2.1⟩
    rotate_right
    · simp only [g2, k2, numB, addI him, nI_1, oSome, ↓reduceIte]
    · simp only [g1, k1, oSome, ↓reduceIte]
end RI
