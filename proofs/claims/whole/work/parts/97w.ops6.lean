/-! THE LAW, CALL BY CALL: undoing, notes. -/
set_option maxRecDepth 100000 in
set_option maxHeartbeats 4000000 in
theorem v290_487 {X : Cst} {d : Nat} {a : Nat} {a1 : Nat} {a2 : Nat} {x3 : Int32} {h : AH} {Q : Post}
  (w : hs h a1 = (0, 10) ∧ Ex X PG d 108 0 [some (.ref a1)] [] h (fun v1 h2 => ∃ r3, v1 = some (.int r3) ∧
      hs h2 a2 = (0, 11) ∧ Ex X PG d 229 0 [some (.ref a2), none] [] h2 (fun v4 h5 => ∃ r6, v4 = some (.int r6) ∧
        ((r3 = r6 →
          Ex X PG (d + 1) 290 18 [some (.retAddr a), some (.ref a1), some (.ref a2), some (.int (x3 + 6))] [] h5 Q) ∧
        (¬ (r3 = r6) →
          ((0 : Int32) = 0 ∨ (0 : Int32) = 1) ∧ Q (some (.int 0)) h5))))) :
    Ex X PG (d + 1) 290 487 [some (.retAddr a), some (.ref a1), some (.ref a2), some (.int x3)] [] h Q := wpx_ok (cut := [18]) 7 d 290 487 _ _ _ _ w
set_option maxHeartbeats 4000000 in
theorem op487 : OpP 487 := by
  intro X d x3 h Q N hX hd hN hx I K
  obtain ⟨pl, rp, iq, pl0, mk, qu, ln, pq0, co, ne, be, lp, n, Rs, a1, a2, a3, a4, a5, a6, a7, a8⟩ := id I
  have C := a1.1.1
  have P := a1.2.1.1
  have KP := a1.2.1.2.1.1
  have R := a4.1
  have W := a4.2.1
  have wb := W.1
  unfold WFb at wb
  obtain ⟨V, v1, v2⟩ := id a5
  have hu := v1.2.1
  refine v290_487 ⟨ls0 C, ?_⟩
  refine m108 C P KP (by omega) v1 (fun j j0 j1 => by have := (v2 j j0 j1).2.1 2 (by omega) (by omega); omega) (fun z0 => ⟨_, rfl, ls256 C, ?_⟩) (fun nz h1 F1 B1 w1 => ⟨_, rfl, ls256 (F1.C C), ?_⟩)
  · exact m229 C (by omega) hu (fun _ => ⟨_, rfl, fun _ => K _ (I.up (by omega)), fun z => absurd rfl z⟩) (fun y => absurd z0 y)
  have s1 : aI h1 266 = aI h 266 := F1.a 266 (by omega)
  have f27 : fI h1 256 27 = fI h 256 27 := F1.f 256 27 (by omega)
  have b70 : aI h1 270 = aI h 270 := F1.a 270 (by omega)
  refine m229 (F1.C C) (by omega) (by rw [f27]; exact hu) (fun z0 => absurd (f27.symm.trans z0) nz) (fun _ h2 y2 => ?_)
  obtain ⟨F2, e27, s2⟩ := y2
  rw [f27] at e27 s2 ⊢
  rw [s1, b70] at s2
  refine ⟨_, rfl, fun _ => K _ ?_, fun z => absurd rfl z⟩
  generalize eu : fI h 256 27 = u at *
  have ps := v2 (u - 1) (by omega) (by omega)
  have lt : ∀ k : Int, 0 ≤ k → k < 34 → mix 34 (shf (aI h 270) (34 * (u - 1))) (aI h 266) k = V (u - 1) k := fun k k0 k1 => by rw [mix_lt (by omega) (by omega), shf_k (by omega)]; exact (ps.1 k k0 k1).symm
  have ge : ∀ k : Int, 34 ≤ k → k < 2147483648 → mix 34 (shf (aI h 270) (34 * (u - 1))) (aI h 266) k = aI h 266 k := fun k k0 k1 => mix_ge (by omega)
  generalize mix 34 (shf (aI h 270) (34 * (u - 1))) (aI h 266) = S' at *
  obtain ⟨q1, q2, q3, q4, q5⟩ := ps.2
  have pq : ∀ p w : Int, 0 ≤ p → p < aI h 266 2 → 0 ≤ w → w < 6 → pS S' p w = pS (V (u - 1)) p w := fun p w p0 p1 w0 w1 => lt _ (by omega) (by omega)
  have st : Stat (aI h 266) S' := ⟨fun k k0 k1 => by rw [lt k k0 (by omega)]; exact q1 k k0 k1, by rw [lt 4 (by omega) (by omega)]; exact q2, by rw [lt 5 (by omega) (by omega)]; exact q3, fun k k0 k1 => ge k k0 (by omega), fun k k0 k1 => ge k (by omega) (by omega), fun p p0 p1 => by rw [pq p 2 p0 p1 (by omega) (by omega)]; exact (q5 p p0 p1).1⟩
  have nt : ∀ k : Int, 84 ≤ k → k < 115 → S' k = aI h 266 k := fun k k0 k1 => ge k (by omega) (by omega)
  have W' : WF N S' := st.wf W (by rw [lt 3 (by omega) (by omega)]; exact q4) nt (fun p p0 p1 => by
    rw [pq p 0 p0 p1 (by omega) (by omega), pq p 1 p0 p1 (by omega) (by omega), pq p 3 p0 p1 (by omega) (by omega), pq p 4 p0 p1 (by omega) (by omega), pq p 5 p0 p1 (by omega) (by omega)]
    exact (q5 p p0 p1).2)
  have F12 : Fr (fun c k => (64 ≤ c ∧ c ≤ 69) ∨ (c = 0 ∧ (k = 14 ∨ k = 15)) ∨ c = 266 ∨ (c = 256 ∧ k = 27)) h h2 := (F1.mo (fun c k z => by omega)).tr (F2.mo (fun c k z => by omega))
  have sm : ∀ c k, (fun c k => (64 ≤ c ∧ c ≤ 69) ∨ (c = 0 ∧ (k = 14 ∨ k = 15)) ∨ c = 266 ∨ (c = 256 ∧ k = 27)) c k → SmC c := fun c k z => by unfold SmC; omega
  refine Inv.mk F12 sm (fun k z => by omega) a1 a7 a8 (a2.fr F12 (fun c k z => by omega)) (a3.fr F12 (fun c k z => by omega)) ?_ ?_ ((a6.fr F12 (fun c k z => ⟨by omega, by omega, (a1.im (k := k) (sm c k z)).2.1⟩)).up (by omega))
  · refine ⟨?_, by rw [s2]; exact W'.up (by omega), by rw [F12.f 52 2 (fun z => by omega), F12.f 256 21 (fun z => by omega)]; exact a4.2.2.1, by rw [F12.f 52 3 (fun z => by omega), F12.f 256 22 (fun z => by omega)]; exact a4.2.2.2⟩
    rw [s2]
    refine CS.to R W F12 (fun c k z => (a1.im (k := k) (sm c k z)).1) (fun c k z => by omega) st nt ?_
    exact WorldRep.fr (WorldRep.eqv w1 (by have := q1 2 (by omega) (by omega); omega) (fun k k0 k1 => lt k k0 k1)) F2 (fun c k z => by omega)
  · refine ⟨V, ?_, fun j j0 j1 => ?_⟩
    · rw [e27]; exact CP.fr B1 F2 (fun c k z => by omega)
    · rw [e27] at j1
      have b := v2 j j0 (by omega)
      rw [F12.a 270 (fun k z => by omega), s2]
      exact ⟨b.1, (b.2.st st).up (by omega)⟩
set_option maxRecDepth 100000 in
set_option maxHeartbeats 4000000 in
theorem v290_757 {X : Cst} {d : Nat} {a : Nat} {a1 : Nat} {a2 : Nat} {x3 : Int32} {h : AH} {Q : Post}
  (w : a = SCR ∧ ix (x3 + 1) X.1.1 ∧ a = SCR ∧ ix (x3 + 2) X.1.1 ∧ a = SCR ∧ ix (x3 + 3) X.1.1 ∧ hs h a1 = (0, 10) ∧ Ex X PG d 150 0 [some (.ref a1), some (.int (X.1.2 (Int32.toNatClampNeg (x3 + 1)))), some (.int (X.1.2 (Int32.toNatClampNeg (x3 + 2)))), some (.int (X.1.2 (Int32.toNatClampNeg (x3 + 3))))] [] h (fun v1 h2 => ∃ r3, v1 = some (.int r3) ∧
      a = SCR ∧ ix (x3 + 1) X.1.1 ∧ a = SCR ∧ ix (x3 + 2) X.1.1 ∧ a = SCR ∧ ix (x3 + 3) X.1.1 ∧ hs h2 a2 = (0, 11) ∧ Ex X PG d 275 0 [some (.ref a2), some (.int (X.1.2 (Int32.toNatClampNeg (x3 + 1)))), some (.int (X.1.2 (Int32.toNatClampNeg (x3 + 2)))), some (.int (X.1.2 (Int32.toNatClampNeg (x3 + 3)))), none] [] h2 (fun v4 h5 => ∃ r6, v4 = some (.int r6) ∧
        ((r3 = r6 →
          Ex X PG (d + 1) 290 18 [some (.retAddr a), some (.ref a1), some (.ref a2), some (.int (x3 + 6))] [] h5 Q) ∧
        (¬ (r3 = r6) →
          ((0 : Int32) = 0 ∨ (0 : Int32) = 1) ∧ Q (some (.int 0)) h5))))) :
    Ex X PG (d + 1) 290 757 [some (.retAddr a), some (.ref a1), some (.ref a2), some (.int x3)] [] h Q := wpx_ok (cut := [18]) 37 d 290 757 _ _ _ _ w
set_option maxHeartbeats 4000000 in
theorem op757 : OpP 757 := by
  intro X d x3 h Q N hX hd hN hx I K
  obtain ⟨i1, i2, i3, i4, i5⟩ := hx
  obtain ⟨pl, rp, iq, pl0, mk, qu, ln, pq0, co, ne, be, lp, n, Rs, a1, a2, a3, a4, a5, a6, a7, a8⟩ := id I
  have C := a1.1.1
  have P := a1.2.1.1
  have KP := a1.2.1.2.1.1
  have R := a4.1
  have W := a4.2.1
  have W9 : WF 999 (aI h 266) := W.up (by omega)
  have wb := W.1
  unfold WFb at wb
  have wn' := W.2.2.2.2.2.1
  have fin : ∀ (S' : Int → Int) (h1 h2 : AH), Fr TNo h h1 → Fr (fun c _ => c = 266) h1 h2 → CS h1 pl S' → aI h2 266 = S' → (∀ k : Int, 0 ≤ k → k < 123 → (k < 84 ∨ 115 ≤ k) → S' k = aI h 266 k) → WFn S' → Inv h2 (N + 1) := by
    intro S' h1 h2 F1 F2 R1 s2 e wn2
    have st : Stat (aI h 266) S' := Stat.nt e (by omega)
    have F12 : Fr (fun c k => TNo c k ∨ c = 266) h h2 := (F1.mo (fun c k z => Or.inl z)).tr (F2.mo (fun c k z => Or.inr z))
    have sm : ∀ c k, (fun c k => TNo c k ∨ c = 266) c k → SmC c := fun c k z => by unfold SmC; unfold TNo at z; omega
    refine Inv.mk F12 sm (fun k z => by unfold TNo at z; omega) a1 a7 a8 (a2.fr F12 (fun c k z => by unfold TNo at z; omega)) (a3.fr F12 (fun c k z => by unfold TNo at z; omega)) ?_ ?_ ((a6.fr F12 (fun c k z => ⟨by unfold TNo at z; omega, by unfold TNo at z; omega, (a1.im (k := k) (sm c k z)).2.1⟩)).up (by omega))
    · refine ⟨?_, by rw [s2]; exact (W.nt e wn2).up (by omega), by rw [F12.f 52 2 (fun z => by unfold TNo at z; omega), F12.f 256 21 (fun z => by unfold TNo at z; omega)]; exact a4.2.2.1, by rw [F12.f 52 3 (fun z => by unfold TNo at z; omega), F12.f 256 22 (fun z => by unfold TNo at z; omega)]; exact a4.2.2.2⟩
      rw [s2]
      refine CS.frk R1 F2 (fun c k z => by omega) (fun c k z => ?_)
      exact (a1.im (c := c) (k := k) (by unfold SmC; omega)).1
    · obtain ⟨V, v1, v2⟩ := id a5
      refine ⟨V, ?_, fun j j0 j1 => ?_⟩
      · rw [F12.f 256 27 (fun z => by unfold TNo at z; omega)]; exact CP.fr v1 F12 (fun c k z => by unfold TNo at z; omega)
      · rw [F12.f 256 27 (fun z => by unfold TNo at z; omega)] at j1
        have b := v2 j j0 j1
        rw [F12.a 270 (fun k z => by unfold TNo at z; omega), s2]
        exact ⟨b.1, (b.2.st st).up (by omega)⟩
  obtain ⟨p, g1, e1⟩ := asJ (X.1.2 (Int32.toNatClampNeg (x3 + 1)))
  obtain ⟨w, g2, e2⟩ := asJ (X.1.2 (Int32.toNatClampNeg (x3 + 2)))
  obtain ⟨m, g3, e3⟩ := asJ (X.1.2 (Int32.toNatClampNeg (x3 + 3)))
  refine v290_757 ?_
  rw [e1, e2, e3]
  refine ⟨rfl, i1, rfl, i2, rfl, i3, ls0 C, ?_⟩
  unfold WFn at wn'
  refine m150 C P KP (by omega) R W9 g1 g2 g3 (fun en h1 F1 R1 => ⟨_, rfl, rfl, i1, rfl, i2, rfl, i3, ls256 (F1.C C), ?_⟩) (fun nn no => ⟨_, rfl, rfl, i1, rfl, i2, rfl, i3, ls256 C, ?_⟩) (fun nn yes h1 F1 R1 => ⟨_, rfl, rfl, i1, rfl, i2, rfl, i3, ls256 (F1.C C), ?_⟩)
  · have s1 : aI h1 266 = aI h 266 := F1.a 266 (by unfold TNo; omega)
    refine m275 (F1.C C) (by omega) (by rw [s1]; exact W9) g1 g2 g3 (fun _ h2 F2 s2 => ⟨_, rfl, fun _ => K _ ?_, fun z => absurd rfl z⟩) (fun q => absurd en q) (fun q => absurd en q)
    rw [s1] at s2
    refine fin _ h1 h2 F1 F2 R1 s2 (fun k k0 k1 o => uu_ne (by omega) (by omega) (by omega)) ?_
    unfold WFn
    rw [uu_eq]
    exact ⟨by omega, by omega, fun k k0 k1 => by omega⟩
  · exact m275 C (by omega) W9 g1 g2 g3 (fun q => absurd q nn) (fun _ _ => ⟨_, rfl, fun _ => K _ (I.up (by omega)), fun z => absurd rfl z⟩) (fun _ y => absurd y no)
  · have s1 : aI h1 266 = aI h 266 := F1.a 266 (by unfold TNo; omega)
    refine m275 (F1.C C) (by omega) (by rw [s1]; exact W9) g1 g2 g3 (fun q => absurd q nn) (fun _ no => absurd (by rw [s1]; exact yes) no) (fun _ _ h2 F2 s2 => ?_)
    rw [s1] at s2 ⊢
    refine ⟨_, rfl, fun _ => K _ ?_, fun z => absurd rfl z⟩
    have y := yes
    unfold notP at y
    refine fin _ h1 h2 F1 F2 R1 s2 (fun k k0 k1 o => not_k (by omega) (by omega) o) ?_
    unfold WFn
    rw [not_114, not_k (k := 2) (by omega) (by omega) (by omega), not_k (k := 0) (by omega) (by omega) (by omega)]
    refine ⟨by omega, by omega, fun k k0 k1 => ?_⟩
    have n0 := not_n (S := aI h 266) (n := p) (p := w) (r := m) (j := k) (i := 0) (by omega) (by omega) (by omega)
    have n1 := not_n (S := aI h 266) (n := p) (p := w) (r := m) (j := k) (i := 1) (by omega) (by omega) (by omega)
    have n2 := not_n (S := aI h 266) (n := p) (p := w) (r := m) (j := k) (i := 2) (by omega) (by omega) (by omega)
    rw [Int.add_zero] at n0
    rw [n0, n1, n2]
    by_cases q : k = aI h 266 114
    · rw [if_pos q, if_pos q, if_pos q, if_pos rfl, if_neg (by decide), if_pos rfl, if_neg (by decide), if_neg (by decide)]
      omega
    · rw [if_neg q, if_neg q, if_neg q]
      exact wn'.2.2 k k0 (by omega)
