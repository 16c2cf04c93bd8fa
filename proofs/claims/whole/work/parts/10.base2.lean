/-! BASE, second part: a finding's place, methods that answer an object -/
theorem in_wi {x k : Int32} {n : Nat} (hk : k.toInt + 1 = (n : Int)) (h : ¬ fX4_within x 0 k = 0) : vp_in x n := by
  unfold fX4_within at h
  split at h
  · exact absurd rfl h
  · next h1 =>
    split at h
    · exact absurd rfl h
    · next h2 =>
      rw [vp_in_iff]
      have h3 := Int32.le_iff_toInt_le.mp (Int32.not_lt.mp h1)
      have h4 := Int32.le_iff_toInt_le.mp (Int32.not_lt.mp h2)
      have h5 : (0 : Int32).toInt = 0 := by decide
      rw [h5] at h3
      exact ⟨h3, by omega⟩
def qA (D : va_G) (wc wc' : va_W) (ra : Nat) : Array Value → State → Outcome → State → Prop := va_Qr (fun (_ : Unit) => True) (fun _ x t => x = ra ∧ va_P D vwCl wc' t.heap) (wA wc)
section ZA
variable {p : Program} {l : Launch} {e : Env} {R : Room} {s : State} {m : MethodId} {args : Array Value} {below : List Frame} {meth : Method} {c : Code} {H H0 : Heap} {locs : List Loc} {cells slots : Nat} {Q : State → Prop}
  {own : String} {cc : ByteArray} {nL : Nat} {rt : Option FieldType} {Ts : List Cond} {D : va_G} {cI cS : ClassId} {rest st0 : List Value} {pc : Nat} {ls : Array Slot}
theorem kMa {A : Nat → Prop} {ra : Nat} {a : Array Value} {wf wf' wc wc' : va_W} (isC : List Nat) (sel : List (Option Nat)) (hr : va_Run p l e R s m args below meth c H locs cells slots 0 0 (F0 m pc ls st0) rest (qA D wc wc' ra a) (wA wc)) (hP : va_P D vwCl wf H) (hD : va_D A wf) (hS : va_S A H0 H locs) (hC : isC.map (fun i => wf[i]?) = wc.map some) (hs : selOK sel isC wc'.length = true) (hj : wf' = wMix sel wf wc')
    (kk : ∀ (H1 : Heap) (locs1 : List Loc), va_P D vwCl wf' H1 → va_S A H0 H1 locs1 → W p l e R s m args below meth c H1 locs1 cells slots Q (F0 m (pc + 3) ls (.ref ra :: rest))) : W p l e R s m args below meth c H locs cells slots Q (F0 m pc ls st0) := by
  have hA : ∀ q, wA wc q → A q := fun q h => by obtain ⟨k, e, hk⟩ := (wA.sub isC hC h).of; exact hD.2 k _ hk
  refine va_callr hr hS (fun q _ h => hA q h) hA (fun u x t H1 locs1 ht hvm hw hB hz1 hk1 hS1 => ?_)
  obtain ⟨hx, hB⟩ := hB
  rw [hx]
  exact kk H1 locs1 (wJoin hP hD isC sel hC hk1 (by rw [← ht]; exact hB) hs hj) hS1
theorem eMa {ra : Nat} {wc wc' w2 : va_W} {n : String} (C0 : CX p s m args meth c own cc nL (some (.object n)) Ts D cI cS) (hP : va_P D vwCl w2 H) (hS : va_S (wA wc) s.heap H locs) (hw : w2 = wc') (hdg : decode cc pc = .ok (.areturn, 1)) : W p l e R s m args below meth c H locs cells slots (MQ below (qA D wc wc' ra) args s cells slots (wA wc)) (F0 m pc ls [.ref ra]) := by
  obtain ⟨hx, hb, hr, hml, hown, hts, hlk, hE⟩ := C0
  subst hw
  exact W.aret hx hb hr (Or.inl ⟨n, rfl⟩) (Or.inr ⟨ra, rfl⟩) (fun t ht _ => ⟨⟨(), ra, rfl, trivial, rfl, by rw [ht]; exact hP⟩, hS.F ht⟩) hS.2.2 hdg hlk
end ZA
theorem zpX0_couldAllLand_2 (sh : Nat → Int32) (nc v1 : Int32) : ∀ (n : Nat) (v2 z : Int32), fX0_couldAllLand_2 sh nc v1 n v2 = some z → narrow .boolean (.int z) = .int z := by
  intro n
  induction n with
  | zero => intro v2 z h; cases (show none = some z from h)
  | succ n ih =>
    intro v2 z h
    rw [fX0_couldAllLand_2] at h
    (repeat' split at h) <;> first | exact ih _ _ h | (cases h; rfl)
theorem zpX0_couldAllLand {F : Nat} {sh : Nat → Int32} {nc v1 z : Int32} (h : fX0_couldAllLand F sh nc v1 = some z) : narrow .boolean (.int z) = .int z := zpX0_couldAllLand_2 sh nc v1 F 0 z h
