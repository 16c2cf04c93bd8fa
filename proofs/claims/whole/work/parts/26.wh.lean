/-! THE LAW, from its entry; the claim -/
theorem ag_start : AG (fFill 6 (fun _ => 0) 8) (fFill 10 (fun _ => 0) (-1)) (fun _ => 0) (fun _ => 0) (fFill 6 (fun _ => 0) 8) (fFill 10 (fun _ => 0) (-1)) (fun _ => 0) (fun _ => 0) (fun _ => 0) (fun _ => 0) (fun _ => 0) (fun _ => 0) (fun _ => 0) 0 0 0 0 1 0 0 0 1 0 iNow (fun _ => 0) (fun _ => 0) (fun _ => 0) (fun _ => 0) (fun _ => 0) (fun _ => 0) 0 0 := by
  refine ⟨⟨0, 0, 0, nI_0.symm, nI_0.symm, nI_0.symm, ⟨by decide, by decide, by decide, ?_, ?_, ?_, ?_⟩, ⟨by decide, by decide, by decide, by decide, ?_, ?_, ?_, ?_⟩⟩, ⟨rfl, Or.inl rfl⟩, ⟨by decide, fun i hi => rfl⟩, ⟨0, by decide, nI_0.symm, nI_0.symm, fun i hi => absurd hi (Nat.not_lt_zero i)⟩, ⟨?_, fun i hi => rfl⟩⟩
  · exact fun i hi => ⟨8, by decide, (if_pos hi).trans (li 8)⟩
  · exact fun i hi => Or.inl (if_pos hi)
  · exact fun k hk => absurd hk (Nat.not_lt_zero k)
  · exact fun k hk => absurd hk (Nat.not_lt_zero k)
  · decide +kernel
  · decide +kernel
  · unfold RowS
    decide +kernel
  · unfold RowH
    decide +kernel
  · exact fun s hs => ⟨rfl, rfl, Or.inl rfl, ⟨0, by decide, nI_0.symm⟩, fun _ => rfl⟩
set_option maxHeartbeats 8000000 in
set_option maxRecDepth 100000 in
theorem whole_start {p : Program} {e : Env} {s : State} {m : MethodId} {below : List Frame} {meth : Method} {c : Code} (l : Launch) (hflags : l.flags = flags0) {b L : Nat} {xs : Nat → Int32} (hL : L ≤ 3072) (C0 : lw_At p s m meth c b L xs) : W p l e room_1 s m #[Value.ref b] below meth c s.heap [] 0 0 (lw_Z below #[Value.ref b] s) (entryFrame m ([Value.ref b] : List Value).toArray 4) := by
  obtain ⟨hx, hb, hr, hml, hown, htb, hX, hbl, hlk, hgv⟩ := id C0
  have hAs : ∀ a : Nat, a < s.heap.size → ¬ lA s a := fun a h => Nat.not_le.mpr h
  obtain ⟨cs, hCS⟩ := cst_start (A := lA s) htb hgv hAs
  obtain ⟨D, cI, cS, hE⟩ := ev_start htb
  have hAO : va_AO "java/lang/String" s := va_AO.of (htb (Cond.arrayOver (FieldType.object "java/lang/String")) (List.mem_of_getElem? (i := 796) (by decide +kernel)))
  have hts : ∀ w ∈ wsL_law, w.before #[Value.ref b] s = true := fun w h => htb w (wsL_law_in w h)
  have C1 : CX p s m #[Value.ref b] meth c RL cL_law 4 (some .boolean) wsL_law D cI cS := ⟨hx, hb, hr, hml, hown, hts, hlk, hE⟩
  have hA : ∀ q : Nat, s.heap.size ≤ q → lA s q := fun _ h => h
  have hS : va_S (lA s) s.heap s.heap [] := va_S.rf
  have hP : va_P D vwCl [] s.heap := vp0
  have hD : va_D (lA s) [] := ⟨fun i j p q h => by simp at h, fun k q h => by simp at h⟩
  have hl := lv_entry ([.ref b]) (n := 4) (Nat.le_of_ble_eq_true rfl)
  rw [lg_entry_eq]
  generalize (lg_sl ([.ref b]) ++ List.replicate (4 - (lg_sl ([.ref b])).length) Slot.unset).toArray = ls at hl ⊢
  have hl : lv_has ls 4 [(0, .ref b)] := hl
  refine va_new (ci := 3) (fs := [.null, .null, .null, .int 0, .null, .null, .null]) (C := RX4) (T := TX4) (N := 7) hx hb htb wi_wsX40 tyX4 tyX4_ok hown (hts _ (List.mem_of_getElem? (i := 0) rfl)) (hts _ (List.mem_of_getElem? (i := 1) rfl)) (hts _ (List.mem_of_getElem? (i := 2) rfl)) hE.1 hP hD hS hA rfl (fun j hj => by rcases (show j = 0 ∨ j = 1 ∨ j = 2 ∨ j = 3 ∨ j = 4 ∨ j = 5 ∨ j = 6 by omega) with rfl | rfl | rfl | rfl | rfl | rfl | rfl <;> rfl) (Nat.le_of_ble_eq_true rfl) (Nat.le_of_ble_eq_true rfl) dL_law_0 (fun q0 H hP hD hS => ?_)
  have hP : va_P D vwCl [(q0, .inr (3, [.null, .null, .null, .int 0, .null, .null, .null]))] H := hP
  have hD : va_D (lA s) [(q0, .inr (3, [.null, .null, .null, .int 0, .null, .null, .null]))] := hD
  refine W.widen (k := 1) (n := 7) (Nat.le_of_ble_eq_true rfl) (Nat.le_of_ble_eq_true rfl) ?_
  refine lv_dup hx hb dL_law_3 rfl ?_
  have hFc : ∀ x, zA q0 H.size x → lA s x := fun x hz => hz.elim (fun e9 => e9 ▸ hD.2 0 _ rfl) (fun e9 => hA x (Nat.le_trans hS.1 e9))
  refine va_callv (va_runI (As := []) (rest := [.ref q0]) ⟨hx, hb, hml, hown, hts⟩ (tX4_init l D cI cS q0 H.size) (cwI 0 hts gL_law_X4_init rfl rfl rfl (hts _ (List.mem_of_getElem? (i := 2) rfl)) (hts _ (List.mem_of_getElem? (i := 6) rfl)) (hts _ (List.mem_of_getElem? (i := 7) rfl)) rfl pdX4_init ⟨Nat.le_of_ble_eq_true rfl, Nat.le_of_ble_eq_true rfl⟩) ⟨PZ.blind (fun _ _ _ _ q => q), fun U hU hW => ⟨rfl, hE.warm hW, by rw [hU], by rw [hU]; exact hP⟩⟩ rfl rfl hl.1 rfl (lv_room (Nat.le_of_ble_eq_true rfl)) dL_law_4 ⟨Nat.le_of_ble_eq_true rfl, Nat.le_of_ble_eq_true rfl⟩) hS (fun x _ h => hFc x h) hFc (fun u2 t H1 locs1 ht hvm hw hB hz1 hk1 hS => ?_)
  obtain ⟨a1, a2, a3, a4, a5, a6, a7, a8, a9, a10, a11, a12, a13, a14, a15, a16, a17, a18, a19, a20, a21, a22, hP4, hD4⟩ := hB
  rw [ht] at hP4
  have hD4 : va_D (lA s) (wX4 cI cS q0 a1 a2 a3 a4 a5 a6 a7 a8 a9 a10 a11 a12 a13 a14 a15 a16 a17 a18 a19 a20 a21 a22 (fFill 6 (fun _ => 0) 8) (fFill 10 (fun _ => 0) (-1)) (fun _ => 0) (fun _ => 0) (fFill 6 (fun _ => 0) 8) (fFill 10 (fun _ => 0) (-1)) (fun _ => 0) (fun _ => 0) (fFill 6 (fun _ => 0) 8) (fFill 10 (fun _ => 0) (-1)) (fun _ => 0) (fun _ => 0) (fun _ => 0) (fun _ => 0) (fun _ => 0) (fun _ => 0) (fun _ => 0) 0 0 0 0 1 0 0 0 1 0 0 0 1 0 0 0 0 0) := hD4.weaken (fun _ _ _ h => hFc _ h)
  clear hP hD hFc hk1 hz1
  generalize H1 = H at hP4 hS ⊢
  refine W.widen (k := 23) (n := 575) (Nat.le_of_ble_eq_true rfl) (Nat.le_of_ble_eq_true rfl) ?_
  refine lv_astore_n (lv' := [(1, .ref q0), (0, .ref b)]) hx hb dL_law_7 rfl hl (by decide) rfl (fun ls hl => ?_)
  refine va_new (ci := 4) (fs := [.null, .null, .null, .int 0, .null, .null, .int 0, .int 0, .int 0, .int 0, .int 0, .int 0, .null, .null, .int 0, .int 0, .int 0, .null, .null, .null, .null]) (C := RX5) (T := TX5) (N := 21) hx hb htb wi_wsX50 tyX5 tyX5_ok hown (hts _ (List.mem_of_getElem? (i := 3) rfl)) (hts _ (List.mem_of_getElem? (i := 4) rfl)) (hts _ (List.mem_of_getElem? (i := 5) rfl)) hE.1 hP4 hD4 hS hA rfl (fun j hj => by rcases (show j = 0 ∨ j = 1 ∨ j = 2 ∨ j = 3 ∨ j = 4 ∨ j = 5 ∨ j = 6 ∨ j = 7 ∨ j = 8 ∨ j = 9 ∨ j = 10 ∨ j = 11 ∨ j = 12 ∨ j = 13 ∨ j = 14 ∨ j = 15 ∨ j = 16 ∨ j = 17 ∨ j = 18 ∨ j = 19 ∨ j = 20 by omega) with rfl | rfl | rfl | rfl | rfl | rfl | rfl | rfl | rfl | rfl | rfl | rfl | rfl | rfl | rfl | rfl | rfl | rfl | rfl | rfl | rfl <;> rfl) (Nat.le_of_ble_eq_true rfl) (Nat.le_of_ble_eq_true rfl) dL_law_8 (fun q1 H hP hD hS => ?_)
  have hDx := hD
  have hP5 := hP.sub (ws' := [(q1, .inr (4, [.null, .null, .null, .int 0, .null, .null, .int 0, .int 0, .int 0, .int 0, .int 0, .int 0, .null, .null, .int 0, .int 0, .int 0, .null, .null, .null, .null]))]) [23] rfl
  have hP4 := hP.sub (ws' := (wX4 cI cS q0 a1 a2 a3 a4 a5 a6 a7 a8 a9 a10 a11 a12 a13 a14 a15 a16 a17 a18 a19 a20 a21 a22 (fFill 6 (fun _ => 0) 8) (fFill 10 (fun _ => 0) (-1)) (fun _ => 0) (fun _ => 0) (fFill 6 (fun _ => 0) 8) (fFill 10 (fun _ => 0) (-1)) (fun _ => 0) (fun _ => 0) (fFill 6 (fun _ => 0) 8) (fFill 10 (fun _ => 0) (-1)) (fun _ => 0) (fun _ => 0) (fun _ => 0) (fun _ => 0) (fun _ => 0) (fun _ => 0) (fun _ => 0) 0 0 0 0 1 0 0 0 1 0 0 0 1 0 0 0 0 0)) [0, 1, 2, 3, 4, 5, 6, 7, 8, 9, 10, 11, 12, 13, 14, 15, 16, 17, 18, 19, 20, 21, 22] rfl
  refine W.widen (k := 24) (n := 596) (Nat.le_of_ble_eq_true rfl) (Nat.le_of_ble_eq_true rfl) ?_
  refine lv_dup hx hb dL_law_11 rfl ?_
  have hq1 : lA s q1 := hD.2 23 _ rfl
  have hFc : ∀ x, zA q1 H.size x → lA s x := fun x hz => hz.elim (fun e9 => e9 ▸ hq1) (fun e9 => hA x (Nat.le_trans hS.1 e9))
  refine va_callv (va_runI (As := []) (rest := [.ref q1]) ⟨hx, hb, hml, hown, hts⟩ (tX5_init l D cI cS cs q1 H.size) (cwI 0 hts gL_law_X5_init rfl rfl rfl (hts _ (List.mem_of_getElem? (i := 5) rfl)) (hts _ (List.mem_of_getElem? (i := 60) rfl)) (hts _ (List.mem_of_getElem? (i := 61) rfl)) rfl pdX5_init ⟨Nat.le_of_ble_eq_true rfl, Nat.le_of_ble_eq_true rfl⟩) ⟨PZ.blind (fun _ _ _ _ q => ⟨q.1, q.2.1, q.2.2.1.call, va_AO.moved (Vm.Alike.refl _) q.2.2.2⟩), fun U hU hW => ⟨rfl, hE.warm hW, by rw [hU], by rw [hU]; exact hP5, by rw [hU]; exact ((hCS.kept hS.2.1).narrow hFc).warm hW, va_AO.moved hW.alike hAO⟩⟩ rfl rfl hl.1 rfl (lv_room (Nat.le_of_ble_eq_true rfl)) dL_law_12 ⟨Nat.le_of_ble_eq_true rfl, Nat.le_of_ble_eq_true rfl⟩) hS (fun x _ h => hFc x h) hFc (fun u2 t H1 locs2 ht hvm hw hB hz1 hk1 hS => ?_)
  obtain ⟨e1, e2, e3, e4, e5, e6, e7, e8, e9, e10, e11, hP5, hD5z⟩ := hB
  rw [ht] at hP5
  have hD5 : va_D (lA s) (wX5 cI cS q1 e1 e2 e3 e4 e5 e6 e7 e8 e9 e10 e11 iNow (fun _ => 0) (fun _ => 0) (fun _ => 0) (fun _ => 0) (fun j => if j < 7 then some (cs.1 j) else none) (fun _ => 0) (fun _ => 0) (fun _ => 0) (fun _ => 0) (fun _ => 0) 0 0 0 0 0 0 0 0 0 0) := hD5z.weaken (fun _ _ _ h => hFc _ h)
  have hd4 : ∀ q, wA (wX4 cI cS q0 a1 a2 a3 a4 a5 a6 a7 a8 a9 a10 a11 a12 a13 a14 a15 a16 a17 a18 a19 a20 a21 a22 (fFill 6 (fun _ => 0) 8) (fFill 10 (fun _ => 0) (-1)) (fun _ => 0) (fun _ => 0) (fFill 6 (fun _ => 0) 8) (fFill 10 (fun _ => 0) (-1)) (fun _ => 0) (fun _ => 0) (fFill 6 (fun _ => 0) 8) (fFill 10 (fun _ => 0) (-1)) (fun _ => 0) (fun _ => 0) (fun _ => 0) (fun _ => 0) (fun _ => 0) (fun _ => 0) (fun _ => 0) 0 0 0 0 1 0 0 0 1 0 0 0 1 0 0 0 0 0) q → q < H.size ∧ ¬ q = q1 := by
    intro q h
    obtain ⟨k, e9, hk⟩ := h.of
    have hk8 := (List.getElem?_eq_some_iff.mp hk).1
    have hk9 : k < 23 := hk8
    refine ⟨(hP4 k _ hk).lt, fun e => ?_⟩
    have hz := hDx.1 k 23 (q, e9) _ ((List.getElem?_append_left hk8).trans hk) rfl e
    omega
  have hdis : ∀ q, wA (wX4 cI cS q0 a1 a2 a3 a4 a5 a6 a7 a8 a9 a10 a11 a12 a13 a14 a15 a16 a17 a18 a19 a20 a21 a22 (fFill 6 (fun _ => 0) 8) (fFill 10 (fun _ => 0) (-1)) (fun _ => 0) (fun _ => 0) (fFill 6 (fun _ => 0) 8) (fFill 10 (fun _ => 0) (-1)) (fun _ => 0) (fun _ => 0) (fFill 6 (fun _ => 0) 8) (fFill 10 (fun _ => 0) (-1)) (fun _ => 0) (fun _ => 0) (fun _ => 0) (fun _ => 0) (fun _ => 0) (fun _ => 0) (fun _ => 0) 0 0 0 0 1 0 0 0 1 0 0 0 1 0 0 0 0 0) q → ¬ wA (wX5 cI cS q1 e1 e2 e3 e4 e5 e6 e7 e8 e9 e10 e11 iNow (fun _ => 0) (fun _ => 0) (fun _ => 0) (fun _ => 0) (fun j => if j < 7 then some (cs.1 j) else none) (fun _ => 0) (fun _ => 0) (fun _ => 0) (fun _ => 0) (fun _ => 0) 0 0 0 0 0 0 0 0 0 0) q := by
    intro q h4 h5
    obtain ⟨g1, g2⟩ := hd4 q h4
    obtain ⟨k, e9, hk⟩ := h5.of
    rcases hD5z.2 k _ hk with g | g
    · exact g2 g
    · exact absurd g (Nat.not_le.mpr g1)
  have hP4 : va_P D vwCl (wX4 cI cS q0 a1 a2 a3 a4 a5 a6 a7 a8 a9 a10 a11 a12 a13 a14 a15 a16 a17 a18 a19 a20 a21 a22 (fFill 6 (fun _ => 0) 8) (fFill 10 (fun _ => 0) (-1)) (fun _ => 0) (fun _ => 0) (fFill 6 (fun _ => 0) 8) (fFill 10 (fun _ => 0) (-1)) (fun _ => 0) (fun _ => 0) (fFill 6 (fun _ => 0) 8) (fFill 10 (fun _ => 0) (-1)) (fun _ => 0) (fun _ => 0) (fun _ => 0) (fun _ => 0) (fun _ => 0) (fun _ => 0) (fun _ => 0) 0 0 0 0 1 0 0 0 1 0 0 0 1 0 0 0 0 0) H1 := hP4.kept fun k q hq => hk1 q.1 (hP4 k q hq).lt (fun h => h.elim (fun e => (hd4 q.1 (wA.at hq)).2 e) (fun e => absurd e (Nat.not_le.mpr (hd4 q.1 (wA.at hq)).1)))
  refine W.widen (k := 35) (n := 1791) (Nat.le_of_ble_eq_true rfl) (Nat.le_of_ble_eq_true rfl) ?_
  refine lv_astore_n (lv' := [(2, .ref q1), (1, .ref q0), (0, .ref b)]) hx hb dL_law_15 rfl hl (by decide) rfl (fun ls hl => ?_)
  refine lv_iconst (v := 0) hx hb dL_law_16 (by decide) ?_
  refine lv_istore_n (lv' := [(3, .int 0), (2, .ref q1), (1, .ref q0), (0, .ref b)]) hx hb dL_law_17 rfl hl (by decide) rfl (fun ls hl => ?_)
  exact lLoop 300 (Nat.le_refl 300) C1 hX hbl hCS hL hr (L + 1) 0 _ _ ls (Nat.zero_le L) (by omega) (lv_sub hl [3, 2, 1, 0] rfl) hS (LI.mk hP4 hP5 hD4 hD5 hdis (fun k hk => if_pos hk) ag_start)
-- ===== what follows is the skeleton's end =====
set_option maxHeartbeats 4000000 in
theorem lw_walk (l : Launch) (hflags : l.flags = flags0) (b : Addr) (xs : List Int32) : MetFree l x (headSpec (Jvm.Cond.code x code maxLocals ret :: tables_1) room_1) (lw_P b xs) (fun _ _ _ _ _ => True) lw_Q := by
  refine MetFree.of_bodyS (code := code) (maxLocals := maxLocals) (ret := ret) (by decide) ?_ ?_
  · intro args s m h hn
    obtain ⟨meth, c, h1, h2, h3, h4, h5, h6, -, -⟩ := Cond.code_spec hn (atoms_spec (ws := Jvm.Cond.code x code maxLocals ret :: tables_1) h _ List.mem_cons_self)
    exact ⟨meth, c, h1, h2, h3, h4, h5, h6⟩
  · intro p e s m args below meth c s₁ B hml0 hP _
    obtain ⟨rfl, hx, hbd, hgv⟩ := hP
    obtain ⟨scr, harrAt, hlist, hof, hsmall⟩ := hx
    obtain ⟨hcb, hkn, -, -⟩ := State.arrayAt?_spec harrAt
    have hown : s.vm.findClass R_law = some m.cls := findClass_of_methodNamed B.named
    have hts0 : ∀ c ∈ (Jvm.Cond.code x code maxLocals ret :: tables_1), c.before #[Value.ref b] s = true := atoms_spec (ws := Jvm.Cond.code x code maxLocals ret :: tables_1) B.pre
    have hts : ∀ w ∈ lw_tbl, w.before #[Value.ref b] s = true := k2_hts_sels lw_privs (fun w hw => hts0 w (List.mem_cons_of_mem _ hw)) lw_privs_ok
    have hml : c.maxLocals = 4 := B.maxLocals_eq (hts0 _ List.mem_cons_self)
    have X₀ : Stand p l e room_1 s m #[Value.ref b] below meth c s₁ [] 0 0 := Stand.of_body B
    have hh0 : s₁.heap = s.heap := by rw [B.state]; rfl
    have hsz : scr.slots.size = xs.length := by rw [← Array.length_toList, hlist, List.length_map]
    have hval : ∀ j : Nat, j < xs.length → scr.slots[j]? = some (.int (xs.getD j 0)) := fun j hj => by
      rw [← Array.getElem?_toList, hlist]
      simp [hj]
    have hbl : b < s.heap.size := (Array.getElem?_eq_some_iff.mp hcb).1
    have hX : va_X b xs.length (fun j => xs.getD j 0) s s.heap := ⟨scr, hcb, hof, hkn, hsz, hval⟩
    have K : W p l e room_1 s m #[Value.ref b] below meth c s₁.heap [] 0 0 (lw_Z below #[Value.ref b] s) (entryFrame m ([Value.ref b] : List Value).toArray 4) := by
      rw [hh0]
      exact whole_start l hflags hbd ⟨B.exec, B.bytes, B.returns, hml, hown, hts, hX, hbl, B.notSynchronized, hgv⟩
    obtain ⟨t, a1, o, b1, b2, b3⟩ := K s₁ rfl X₀
    exact ⟨t, o, a1, b1, b2, b3⟩
theorem lw_pre_spec {args : Array Value} {s : State} (h : (Jvm.Cond.and given_1 narrow_1).before args s = true) (hr : rest_1_c.before args s = true) : ∃ (b : Addr) (xs : List Int32), lw_P b xs args s := by
  have hs := flat_of_before _ h
  have hq := flat_of_before _ hr
  have hc : (Cond.count 1).before args s = true := hs _ (by decide +kernel)
  have harr : (Cond.arrayOf (.arg 0) .int).before args s = true := hs _ (by decide +kernel)
  have hle : (Cond.le (.length (.arg 0)) (.int 3072)).before args s = true := hs _ (by decide +kernel)
  have hlen : (Cond.isInt (.length (.arg 0))).before args s = true := hq _ (by decide +kernel)
  have hall : (Cond.all (.arg 0) (.isInt (.elem (.arg 0) (.index 0)))).before args s = true := hq _ (by decide +kernel)
  obtain ⟨b, xs, hb, hx⟩ := State.ints_of_pre rfl harr hlen hall
  have hsm : xs.length < 2 ^ 31 := hx.choose_spec.2.2.2
  have hev : (Term.length (.arg 0)).eval args s none [] s = some (.int xs.length.toInt32) := hx.length_eval hb
  have hv := Cond.le_ints hev (show (Term.int 3072).eval args s none [] s = some (.int 3072) from rfl)
  have hd : xs.length.toInt32 ≤ 3072 := by
    simpa [Cond.before, Cond.holds, hv] using hle
  have hN : xs.length ≤ 3072 := (Int32.ofNat_le_ofNat hsm (by decide)).mp (show Int32.ofNat xs.length ≤ Int32.ofNat 3072 from hd)
  exact ⟨b, xs, Cond.one_arg hc (show args[0]? = some (.ref b) from hb), hx, hN, h⟩
theorem lw_comes (l : Launch) (hflags : l.flags = flags0) : Comes l x (Jvm.Cond.code x code maxLocals ret :: tables_1) room_1 (fun tb e args s => Calls_1 tb e args s ∧ rest_1 tb e args s ∧ Pre_1 tb e args s)
    (fun _ _ args s o t => lw_Q args s o t) := by
  intro p e ha hc hk s m args below hf hfit hheap happ hpre
  obtain ⟨b, xs, hP⟩ := lw_pre_spec hpre.2.2 hpre.2.1
  obtain ⟨k, o, h1, h2, h3, hQ⟩ := lw_walk l hflags b xs p e ha hc hk s m args below hf ((Spec.applies_iff_loose hf).mp happ).1 hP trivial
  exact ⟨k, o, h1, h2, h3, hQ⟩
theorem lw_frame {s t : State} {o : Outcome} {args : Array Value} (h : Framed s o t [] 35 1791) :
    Framed s o t (fieldLocs frame_1_writes args s ++ arrayLocs frame_1_arrays args s ++ staticLocs frame_1_statics s) 35 1791 := h
theorem lw_limb (L : Cond) (hL : ∀ (args : Array Value) (s t : State), L.after args s (.returned (some (.int 1))) t = true) :
    ArmFor flags0 classFile x code maxLocals ret World_1 tables_1 room_1 Calls_1 rest_1 Pre_1
      (fun tb e a s o t => postC L tb e a s o t ∧ Framed s o t (fieldLocs frame_1_writes a s ++ arrayLocs frame_1_arrays a s ++ staticLocs frame_1_statics s) 35 1791) := by
  intro l hflags _ _ p e ha hc hk s m args below hf hfit hheap happ hpre
  obtain ⟨k, o, h1, h2, h3, rfl, hF⟩ := lw_comes l hflags p e ha hc hk s m args below hf hfit hheap happ hpre
  exact ⟨k, _, h1, h2, h3, hL args s _, lw_frame hF⟩
theorem i_vc : Claimed_1_1 ∧ Claimed_1_2 := ⟨lw_limb limb_1_1 (fun args s t => by simp [limb_1_1, Cond.after, Cond.holds, Cond.value]), lw_limb limb_1_2 (fun args s t => Cond.after_iff.mpr (by
  first | (rw [show limb_1_2 = Cond.eq .result (.int 1) from rfl, Cond.eq_ints (x := 1) (y := 1) rfl rfl]; simp; done) | (simp [limb_1_2, Cond.value, Term.eval]; done)))⟩
