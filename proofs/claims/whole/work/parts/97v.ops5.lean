/-! THE LAW, CALL BY CALL: moments, aims, sendings. -/
set_option maxRecDepth 100000 in
set_option maxHeartbeats 4000000 in
theorem v290_398 {X : Cst} {d : Nat} {a : Nat} {a1 : Nat} {a2 : Nat} {x3 : Int32} {h : AH} {Q : Post}
  (w : hs h a1 = (0, 10) ∧ Ex X PG d 85 0 [some (.ref a1)] [] h (fun v1 h2 => ∃ r3, v1 = some (.int r3) ∧
      hs h2 a2 = (0, 11) ∧ Ex X PG d 230 0 [some (.ref a2)] [] h2 (fun v4 h5 => ∃ r6, v4 = some (.int r6) ∧
        ((r3 = r6 →
          Ex X PG (d + 1) 290 18 [some (.retAddr a), some (.ref a1), some (.ref a2), some (.int (x3 + 6))] [] h5 Q) ∧
        (¬ (r3 = r6) →
          ((0 : Int32) = 0 ∨ (0 : Int32) = 1) ∧ Q (some (.int 0)) h5))))) :
    Ex X PG (d + 1) 290 398 [some (.retAddr a), some (.ref a1), some (.ref a2), some (.int x3)] [] h Q := wpx_ok (cut := [18]) 7 d 290 398 _ _ _ _ w
set_option maxHeartbeats 4000000 in
theorem op398 : OpP 398 := by
  intro X d x3 h Q N hX hd hN hx I K
  obtain ⟨i1, i2, i3, i4, i5⟩ := hx
  obtain ⟨pl, rp, iq, pl0, mk, qu, ln, pq0, co, ne, be, lp, n, Rs, a1, a2, a3, a4, a5, a6, a7, a8⟩ := id I
  have C := a1.1.1
  have P := a1.2.1.1
  have KP := a1.2.1.2.1.1
  have R := a4.1
  have W := a4.2.1
  have W9 : WF 999 (aI h 266) := W.up (by omega)
  have wb := W.1
  unfold WFb at wb
  refine v290_398 ?_
  refine ⟨ls0 C, ?_⟩
  obtain ⟨V, v1, v2⟩ := id a5
  have hu := v1.2.1
  refine m85 C P KP (by omega) R (W.up (by omega)) v1 a3.1 a4.2.2.1.1 a4.2.2.1.2 (fun no => ⟨_, rfl, ls256 C, ?_⟩) (fun yes h1 F1 B1 w1 => ⟨_, rfl, ls256 (F1.C C), ?_⟩)
  · exact m230 C (by omega) W9 rfl (a3.2.2 _ a4.2.2.1.2.1 a4.2.2.1.2.2) hu (fun _ => ⟨_, rfl, fun _ => K _ (I.up (by omega)), fun z => absurd rfl z⟩) (fun y => absurd y.1 no)
  · have s1 : aI h1 266 = aI h 266 := F1.a 266 (by unfold TMo; omega)
    have f27 : fI h1 256 27 = fI h 256 27 := F1.f 256 27 (by unfold TMo; omega)
    have f21 : fI h1 256 21 = fI h 256 21 := F1.f 256 21 (by unfold TMo; omega)
    have b70 : aI h1 270 = aI h 270 := F1.a 270 (by unfold TMo; omega)
    have W1 : WF 999 (aI h1 266) := by rw [s1]; exact W9
    have C1 := F1.C C
    refine m230 C1 (by omega) W1 f21 ((a3.2.2 _ a4.2.2.1.2.1 a4.2.2.1.2.2).fr F1 (fun c k z => by unfold TMo at z; omega)) (by rw [f27]; exact hu) (fun no => absurd (by rw [s1]; exact ⟨yes, by omega⟩) no) (fun _ h2 F2 pu s2 => ?_)
    rw [s1]
    refine ⟨_, rfl, fun _ => K _ ?_, fun z => absurd rfl z⟩
    have F12 : Fr (fun c k => TMo c k ∨ TK c k) h h2 := (F1.mo (fun c k z => Or.inl z)).tr (F2.mo (fun c k z => Or.inr z))
    have sm : ∀ c k, (fun c k => TMo c k ∨ TK c k) c k → SmC c := fun c k z => by unfold SmC; unfold TMo TK TP at z; omega
    rw [s1] at s2
    rw [f27, b70, s1] at pu
    have st : Stat (aI h 266) (mo1 (fI h 256 21) Rs (aI h 266)) := Stat.mo1E W
    have nt : ∀ k : Int, 84 ≤ k → k < 115 → mo1 (fI h 256 21) Rs (aI h 266) k = aI h 266 k := fun k k0 k1 => mo1_k W (Or.inr (by omega))
    refine Inv.mk F12 sm (fun k z => by unfold TMo TK TP at z; omega) a1 a7 a8 (a2.fr F12 (fun c k z => by unfold TMo TK TP at z; omega)) (a3.fr F12 (fun c k z => by unfold TMo TK TP at z; omega)) ?_ ?_ ((a6.fr F12 (fun c k z => ⟨by unfold TMo TK TP at z; omega, by unfold TMo TK TP at z; omega, (a1.im (k := k) (sm c k z)).2.1⟩)).up (by omega))
    · refine ⟨?_, by rw [s2]; exact mo1_WF W, by rw [F12.f 52 2 (fun z => by unfold TMo TK TP at z; omega), F12.f 256 21 (fun z => by unfold TMo TK TP at z; omega)]; exact a4.2.2.1, by rw [F12.f 52 3 (fun z => by unfold TMo TK TP at z; omega), F12.f 256 22 (fun z => by unfold TMo TK TP at z; omega)]; exact a4.2.2.2⟩
      rw [s2]
      refine CS.to R W F12 (fun c k z => (a1.im (k := k) (sm c k z)).1) (fun c k z => by unfold TMo TK TP at z; omega) st nt ?_
      exact WorldRep.fr w1 F2 (fun c k z => by unfold TK TP at z; omega)
    · refine pa_push (M := N + 1) ?_ hu pu (fun j j0 j1 => v2 j j0 j1) W st s2 (by omega)
      exact CP.fr B1 F2 (fun c k z => by unfold TK TP at z; omega)
set_option maxRecDepth 100000 in
set_option maxHeartbeats 4000000 in
theorem v290_411 {X : Cst} {d : Nat} {a : Nat} {a1 : Nat} {a2 : Nat} {x3 : Int32} {h : AH} {Q : Post}
  (w : a = SCR ∧ ix (x3 + 1) X.1.1 ∧ a = SCR ∧ ix (x3 + 2) X.1.1 ∧ hs h a1 = (0, 10) ∧ Ex X PG d 106 0 [some (.ref a1), some (.int (X.1.2 (Int32.toNatClampNeg (x3 + 1)))), some (.int (X.1.2 (Int32.toNatClampNeg (x3 + 2)))), none] [] h (fun v1 h2 => ∃ r3, v1 = some (.int r3) ∧
      a = SCR ∧ ix (x3 + 1) X.1.1 ∧ a = SCR ∧ ix (x3 + 2) X.1.1 ∧ hs h2 a2 = (0, 11) ∧ Ex X PG d 248 0 [some (.ref a2), some (.int (X.1.2 (Int32.toNatClampNeg (x3 + 1)))), some (.int (X.1.2 (Int32.toNatClampNeg (x3 + 2)))), none] [] h2 (fun v4 h5 => ∃ r6, v4 = some (.int r6) ∧
        ((r3 = r6 →
          Ex X PG (d + 1) 290 18 [some (.retAddr a), some (.ref a1), some (.ref a2), some (.int (x3 + 6))] [] h5 Q) ∧
        (¬ (r3 = r6) →
          ((0 : Int32) = 0 ∨ (0 : Int32) = 1) ∧ Q (some (.int 0)) h5))))) :
    Ex X PG (d + 1) 290 411 [some (.retAddr a), some (.ref a1), some (.ref a2), some (.int x3)] [] h Q := wpx_ok (cut := [18]) 27 d 290 411 _ _ _ _ w
set_option maxHeartbeats 4000000 in
theorem op411 : OpP 411 := by
  intro X d x3 h Q N hX hd hN hx I K
  obtain ⟨i1, i2, i3, i4, i5⟩ := hx
  obtain ⟨pl, rp, iq, pl0, mk, qu, ln, pq0, co, ne, be, lp, n, Rs, a1, a2, a3, a4, a5, a6, a7, a8⟩ := id I
  have C := a1.1.1
  have P := a1.2.1.1
  have KP := a1.2.1.2.1.1
  have R := a4.1
  have W := a4.2.1
  have W9 : WF 999 (aI h 266) := W.up (by omega)
  have wb := W.1
  unfold WFb at wb
  obtain ⟨p, g1, e1⟩ := asJ (X.1.2 (Int32.toNatClampNeg (x3 + 1)))
  obtain ⟨w, g2, e2⟩ := asJ (X.1.2 (Int32.toNatClampNeg (x3 + 2)))
  refine v290_411 ?_
  rw [e1, e2]
  refine ⟨rfl, i1, rfl, i2, ls0 C, ?_⟩
  obtain ⟨V, v1, v2⟩ := id a5
  have hu := v1.2.1
  refine m106 C P KP (by omega) R W9 v1 g1 g2 (fun no => ⟨_, rfl, rfl, i1, rfl, i2, ls256 C, ?_⟩) (fun yes h1 F1 B1 w1 => ⟨_, rfl, rfl, i1, rfl, i2, ls256 (F1.C C), ?_⟩)
  · exact m248 C (by omega) W9 hu g1 g2 (fun _ => ⟨_, rfl, fun _ => K _ (I.up (by omega)), fun z => absurd rfl z⟩) (fun y => absurd y no)
  · have s1 : aI h1 266 = aI h 266 := F1.a 266 (by unfold TAc; omega)
    have f27 : fI h1 256 27 = fI h 256 27 := F1.f 256 27 (by unfold TAc; omega)
    have f21 : fI h1 256 21 = fI h 256 21 := F1.f 256 21 (by unfold TAc; omega)
    have b70 : aI h1 270 = aI h 270 := F1.a 270 (by unfold TAc; omega)
    have W1 : WF 999 (aI h1 266) := by rw [s1]; exact W9
    have C1 := F1.C C
    refine m248 C1 (by omega) W1 (by rw [f27]; exact hu) g1 g2 (fun no => absurd (by rw [s1]; exact yes) no) (fun _ h2 F2 pu s2 => ?_)
    rw [s1]
    refine ⟨_, rfl, fun _ => K _ ?_, fun z => absurd rfl z⟩
    have F12 : Fr (fun c k => TAc c k ∨ TA c k) h h2 := (F1.mo (fun c k z => Or.inl z)).tr (F2.mo (fun c k z => Or.inr z))
    have sm : ∀ c k, (fun c k => TAc c k ∨ TA c k) c k → SmC c := fun c k z => by unfold SmC; unfold TAc TA at z; omega
    rw [s1] at s2
    rw [f27, b70, s1] at pu
    have st : Stat (aI h 266) (uu_ (aI h 266) (10 + 6 * p + 1) w) := (WFp.aim W yes.1 yes.2.1).2
    have nt : ∀ k : Int, 84 ≤ k → k < 115 → uu_ (aI h 266) (10 + 6 * p + 1) w k = aI h 266 k := fun k k0 k1 => uu_ne (by omega) (by omega) (by omega)
    refine Inv.mk F12 sm (fun k z => by unfold TAc TA at z; omega) a1 a7 a8 (a2.fr F12 (fun c k z => by unfold TAc TA at z; omega)) (a3.fr F12 (fun c k z => by unfold TAc TA at z; omega)) ?_ ?_ ((a6.fr F12 (fun c k z => ⟨by unfold TAc TA at z; omega, by unfold TAc TA at z; omega, (a1.im (k := k) (sm c k z)).2.1⟩)).up (by omega))
    · refine ⟨?_, by rw [s2]; exact (WFp.aim W yes.1 yes.2.1).1.up (by omega), by rw [F12.f 52 2 (fun z => by unfold TAc TA at z; omega), F12.f 256 21 (fun z => by unfold TAc TA at z; omega)]; exact a4.2.2.1, by rw [F12.f 52 3 (fun z => by unfold TAc TA at z; omega), F12.f 256 22 (fun z => by unfold TAc TA at z; omega)]; exact a4.2.2.2⟩
      rw [s2]
      refine CS.to R W F12 (fun c k z => (a1.im (k := k) (sm c k z)).1) (fun c k z => by unfold TAc TA at z; omega) st nt ?_
      exact WorldRep.fr w1 F2 (fun c k z => by unfold TA at z; omega)
    · refine pa_push (M := N + 1) ?_ hu pu (fun j j0 j1 => v2 j j0 j1) W st s2 (by omega)
      exact CP.fr B1 F2 (fun c k z => by unfold TA at z; omega)
set_option maxRecDepth 100000 in
set_option maxHeartbeats 4000000 in
theorem v290_444 {X : Cst} {d : Nat} {a : Nat} {a1 : Nat} {a2 : Nat} {x3 : Int32} {h : AH} {Q : Post}
  (w : a = SCR ∧ ix (x3 + 1) X.1.1 ∧ a = SCR ∧ ix (x3 + 2) X.1.1 ∧ a = SCR ∧ ix (x3 + 3) X.1.1 ∧ hs h a1 = (0, 10) ∧ Ex X PG d 107 0 [some (.ref a1), some (.int (X.1.2 (Int32.toNatClampNeg (x3 + 1)))), some (.int (X.1.2 (Int32.toNatClampNeg (x3 + 2)))), some (.int (X.1.2 (Int32.toNatClampNeg (x3 + 3)))), none, none] [] h (fun v1 h2 => ∃ r3, v1 = some (.int r3) ∧
      a = SCR ∧ ix (x3 + 1) X.1.1 ∧ a = SCR ∧ ix (x3 + 2) X.1.1 ∧ a = SCR ∧ ix (x3 + 3) X.1.1 ∧ hs h2 a2 = (0, 11) ∧ Ex X PG d 249 0 [some (.ref a2), some (.int (X.1.2 (Int32.toNatClampNeg (x3 + 1)))), some (.int (X.1.2 (Int32.toNatClampNeg (x3 + 2)))), some (.int (X.1.2 (Int32.toNatClampNeg (x3 + 3))))] [] h2 (fun v4 h5 => ∃ r6, v4 = some (.int r6) ∧
        ((r3 = r6 →
          Ex X PG (d + 1) 290 18 [some (.retAddr a), some (.ref a1), some (.ref a2), some (.int (x3 + 6))] [] h5 Q) ∧
        (¬ (r3 = r6) →
          ((0 : Int32) = 0 ∨ (0 : Int32) = 1) ∧ Q (some (.int 0)) h5))))) :
    Ex X PG (d + 1) 290 444 [some (.retAddr a), some (.ref a1), some (.ref a2), some (.int x3)] [] h Q := wpx_ok (cut := [18]) 37 d 290 444 _ _ _ _ w
set_option maxHeartbeats 4000000 in
theorem op444 : OpP 444 := by
  intro X d x3 h Q N hX hd hN hx I K
  obtain ⟨i1, i2, i3, i4, i5⟩ := hx
  obtain ⟨pl, rp, iq, pl0, mk, qu, ln, pq0, co, ne, be, lp, n, Rs, a1, a2, a3, a4, a5, a6, a7, a8⟩ := id I
  have C := a1.1.1
  have P := a1.2.1.1
  have KP := a1.2.1.2.1.1
  have R := a4.1
  have W := a4.2.1
  have W9 : WF 999 (aI h 266) := W.up (by omega)
  have wb := W.1
  unfold WFb at wb
  obtain ⟨p, g1, e1⟩ := asJ (X.1.2 (Int32.toNatClampNeg (x3 + 1)))
  obtain ⟨w, g2, e2⟩ := asJ (X.1.2 (Int32.toNatClampNeg (x3 + 2)))
  obtain ⟨m, g3, e3⟩ := asJ (X.1.2 (Int32.toNatClampNeg (x3 + 3)))
  refine v290_444 ?_
  rw [e1, e2, e3]
  refine ⟨rfl, i1, rfl, i2, rfl, i3, ls0 C, ?_⟩
  obtain ⟨V, v1, v2⟩ := id a5
  have hu := v1.2.1
  refine m107 C P KP (by omega) R W9 v1 g1 g2 g3 (fun no => ⟨_, rfl, rfl, i1, rfl, i2, rfl, i3, ls256 C, ?_⟩) (fun yes h1 F1 B1 w1 => ⟨_, rfl, rfl, i1, rfl, i2, rfl, i3, ls256 (F1.C C), ?_⟩)
  · exact m249 C (by omega) W9 hu g1 g2 g3 (fun _ => ⟨_, rfl, fun _ => K _ (I.up (by omega)), fun z => absurd rfl z⟩) (fun y => absurd y no)
  · have s1 : aI h1 266 = aI h 266 := F1.a 266 (by unfold TAc; omega)
    have f27 : fI h1 256 27 = fI h 256 27 := F1.f 256 27 (by unfold TAc; omega)
    have f21 : fI h1 256 21 = fI h 256 21 := F1.f 256 21 (by unfold TAc; omega)
    have b70 : aI h1 270 = aI h 270 := F1.a 270 (by unfold TAc; omega)
    have W1 : WF 999 (aI h1 266) := by rw [s1]; exact W9
    have C1 := F1.C C
    refine m249 C1 (by omega) W1 (by rw [f27]; exact hu) g1 g2 g3 (fun no => absurd (by rw [s1]; exact yes) no) (fun _ h2 F2 pu s2 => ?_)
    refine ⟨_, rfl, fun _ => K _ ?_, fun z => absurd rfl z⟩
    have F12 : Fr (fun c k => TAc c k ∨ TA c k) h h2 := (F1.mo (fun c k z => Or.inl z)).tr (F2.mo (fun c k z => Or.inr z))
    have sm : ∀ c k, (fun c k => TAc c k ∨ TA c k) c k → SmC c := fun c k z => by unfold SmC; unfold TAc TA at z; omega
    rw [s1] at s2
    rw [f27, b70, s1] at pu
    have st : Stat (aI h 266) (sndS (aI h 266) p w m) := (snd_WF W yes).2.1
    have nt : ∀ k : Int, 84 ≤ k → k < 115 → sndS (aI h 266) p w m k = aI h 266 k := fun k k0 k1 => (snd_WF W yes).2.2 k (Or.inr (by omega))
    refine Inv.mk F12 sm (fun k z => by unfold TAc TA at z; omega) a1 a7 a8 (a2.fr F12 (fun c k z => by unfold TAc TA at z; omega)) (a3.fr F12 (fun c k z => by unfold TAc TA at z; omega)) ?_ ?_ ((a6.fr F12 (fun c k z => ⟨by unfold TAc TA at z; omega, by unfold TAc TA at z; omega, (a1.im (k := k) (sm c k z)).2.1⟩)).up (by omega))
    · refine ⟨?_, by rw [s2]; exact (snd_WF W yes).1, by rw [F12.f 52 2 (fun z => by unfold TAc TA at z; omega), F12.f 256 21 (fun z => by unfold TAc TA at z; omega)]; exact a4.2.2.1, by rw [F12.f 52 3 (fun z => by unfold TAc TA at z; omega), F12.f 256 22 (fun z => by unfold TAc TA at z; omega)]; exact a4.2.2.2⟩
      rw [s2]
      refine CS.to R W F12 (fun c k z => (a1.im (k := k) (sm c k z)).1) (fun c k z => by unfold TAc TA at z; omega) st nt ?_
      exact WorldRep.fr w1 F2 (fun c k z => by unfold TA at z; omega)
    · refine pa_push (M := N + 1) ?_ hu pu (fun j j0 j1 => v2 j j0 j1) W st s2 (by omega)
      exact CP.fr B1 F2 (fun c k z => by unfold TA at z; omega)
