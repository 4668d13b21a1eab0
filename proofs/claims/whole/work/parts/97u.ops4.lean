/-! THE LAW, CALL BY CALL: what is fed, forced, sown, noted, done and undone. -/
theorem WF.nt {N : Int} {S S' : Int → Int} (W : WF N S) (e : ∀ k : Int, 0 ≤ k → k < 123 → (k < 84 ∨ 115 ≤ k) → S' k = S k) (wn' : WFn S') : WF N S' := by
  have b := W.1
  unfold WFb at b
  obtain ⟨-, wp, wf, wdd, wu, -, wt⟩ := W
  have e0 := e 0 (by omega) (by omega) (by omega)
  have e1 := e 1 (by omega) (by omega) (by omega)
  have e2 := e 2 (by omega) (by omega) (by omega)
  have ed : ∀ d, 0 ≤ d → d < S 1 → nr S' d = nr S d ∧ fr S' d = fr S d ∧ wn S' d = wn S d := fun d d0 d1 => ⟨e _ (by omega) (by omega) (by omega), e _ (by omega) (by omega) (by omega), e _ (by omega) (by omega) (by omega)⟩
  refine ⟨?_, fun p p0 p1 => ?_, fun r r0 r1 => by rw [e _ (by omega) (by omega) (by omega)]; exact wf r r0 r1, fun d d0 d1 => ?_, fun d d' d0 d1 d2 d3 x y => ?_, wn', fun p p0 p1 => ?_⟩
  · unfold WFb
    rw [e0, e1, e2, e 3 (by omega) (by omega) (by omega), e 4 (by omega) (by omega) (by omega), e 5 (by omega) (by omega) (by omega)]
    exact b
  · rw [e2] at p1
    have q : ∀ w, 0 ≤ w → w < 6 → pS S' p w = pS S p w := fun w w0 w1 => e _ (by omega) (by omega) (by omega)
    rw [e0, q 0 (by omega) (by omega), q 1 (by omega) (by omega), q 2 (by omega) (by omega), q 3 (by omega) (by omega), q 4 (by omega) (by omega), q 5 (by omega) (by omega)]
    exact wp p p0 p1
  · rw [e1] at d1
    have a := wdd d d0 d1
    obtain ⟨x1, x2, x3⟩ := ed d d0 d1
    rw [x1, x2, x3, e0, e (34 + nr S d) (by omega) (by omega) (by omega), e (34 + fr S d) (by omega) (by omega) (by omega)]
    exact a
  · rw [e1] at d1 d3
    rw [(ed d d0 d1).1, (ed d' d2 d3).1] at x
    rw [(ed d d0 d1).2.1, (ed d' d2 d3).2.1] at y
    exact wu d d' d0 d1 d2 d3 x y
  · rw [e2] at p1
    rw [e0, e _ (by omega) (by omega) (by omega), e _ (by omega) (by omega) (by omega)]
    exact wt p p0 p1
theorem Stat.nt {S S' : Int → Int} (e : ∀ k : Int, 0 ≤ k → k < 123 → (k < 84 ∨ 115 ≤ k) → S' k = S k) (h2 : S 2 ≤ 4) : Stat S S' := ⟨fun k k0 k1 => e k k0 (by omega) (by omega), e 4 (by omega) (by omega) (by omega), e 5 (by omega) (by omega) (by omega), fun k k0 k1 => e k (by omega) (by omega) (by omega), fun k k0 k1 => e k (by omega) (by omega) (by omega), fun p p0 p1 => e _ (by omega) (by omega) (by omega)⟩
theorem CS.frk {T : Nat → Nat → Prop} {h h' : AH} {pl : Nat} {S : Int → Int} (R : CS h pl S) (F : Fr T h h') (t : ∀ c k, T c k → (c < 64 ∨ 72 < c) ∧ ¬ (c = 52 ∧ k = 4)) (np : ∀ c k, T c k → c < pl ∨ pl + 10 < c) : CS h' pl S := by
  refine ⟨R.1, R.2.1.fr F np, R.2.2.1.fr F (fun c k z => by have := (t c k z).1; omega), by rw [F.f 52 4 (fun z => (t _ _ z).2 ⟨rfl, rfl⟩)]; exact R.2.2.2.1, fun k k0 k1 => ?_⟩
  rw [F.a 70 (fun k z => by have := (t _ _ z).1; omega), F.a 71 (fun k z => by have := (t _ _ z).1; omega), F.a 72 (fun k z => by have := (t _ _ z).1; omega)]
  exact R.2.2.2.2 k k0 k1
set_option maxRecDepth 100000 in
set_option maxHeartbeats 4000000 in
theorem v290_164 {X : Cst} {d : Nat} {a : Nat} {a1 : Nat} {a2 : Nat} {x3 : Int32} {h : AH} {Q : Post}
  (w : a = SCR ∧ ix (x3 + 1) X.1.1 ∧ a = SCR ∧ ix (x3 + 2) X.1.1 ∧ a = SCR ∧ ix (x3 + 3) X.1.1 ∧ a = SCR ∧ ix (x3 + 4) X.1.1 ∧ a = SCR ∧ ix (x3 + 5) X.1.1 ∧ hs h a1 = (0, 10) ∧ Ex X PG d 17 0 [some (.ref a1), some (.int (X.1.2 (Int32.toNatClampNeg (x3 + 1)))), some (.int (X.1.2 (Int32.toNatClampNeg (x3 + 2)))), some (.int (X.1.2 (Int32.toNatClampNeg (x3 + 3)))), some (.int (X.1.2 (Int32.toNatClampNeg (x3 + 4)))), some (.int (X.1.2 (Int32.toNatClampNeg (x3 + 5))))] [] h (fun v1 h2 => ∃ r3, v1 = some (.int r3) ∧
      a = SCR ∧ ix (x3 + 1) X.1.1 ∧ a = SCR ∧ ix (x3 + 2) X.1.1 ∧ a = SCR ∧ ix (x3 + 3) X.1.1 ∧ a = SCR ∧ ix (x3 + 4) X.1.1 ∧ a = SCR ∧ ix (x3 + 5) X.1.1 ∧ hs h2 a2 = (0, 11) ∧ Ex X PG d 169 0 [some (.ref a2), some (.int (X.1.2 (Int32.toNatClampNeg (x3 + 1)))), some (.int (X.1.2 (Int32.toNatClampNeg (x3 + 2)))), some (.int (X.1.2 (Int32.toNatClampNeg (x3 + 3)))), some (.int (X.1.2 (Int32.toNatClampNeg (x3 + 4)))), some (.int (X.1.2 (Int32.toNatClampNeg (x3 + 5))))] [] h2 (fun v4 h5 => ∃ r6, v4 = some (.int r6) ∧
        ((r3 = r6 →
          Ex X PG (d + 1) 290 18 [some (.retAddr a), some (.ref a1), some (.ref a2), some (.int (x3 + 6))] [] h5 Q) ∧
        (¬ (r3 = r6) →
          ((0 : Int32) = 0 ∨ (0 : Int32) = 1) ∧ Q (some (.int 0)) h5))))) :
    Ex X PG (d + 1) 290 164 [some (.retAddr a), some (.ref a1), some (.ref a2), some (.int x3)] [] h Q := wpx_ok (cut := [18]) 57 d 290 164 _ _ _ _ w
set_option maxHeartbeats 4000000 in
theorem op164 : OpP 164 := by
  intro X d x3 h Q N hX hd hN hx I K
  obtain ⟨i1, i2, i3, i4, i5⟩ := hx
  obtain ⟨pl, rp, iq, pl0, mk, qu, ln, pq0, co, ne, be, lp, n, Rs, a1, a2, a3, a4, a5, a6, a7, a8⟩ := id I
  have C := a1.1.1
  have P := a1.2.1.1
  have KP := a1.2.1.2.1.1
  have R := a4.1
  have W := a4.2.1
  have W9 : WF 999 (aI h 266) := W.up (by omega)
  obtain ⟨p, g1, e1⟩ := asJ (X.1.2 (Int32.toNatClampNeg (x3 + 1)))
  obtain ⟨w, g2, e2⟩ := asJ (X.1.2 (Int32.toNatClampNeg (x3 + 2)))
  obtain ⟨m, g3, e3⟩ := asJ (X.1.2 (Int32.toNatClampNeg (x3 + 3)))
  obtain ⟨z, g4, e4⟩ := asJ (X.1.2 (Int32.toNatClampNeg (x3 + 4)))
  obtain ⟨y, g5, e5⟩ := asJ (X.1.2 (Int32.toNatClampNeg (x3 + 5)))
  refine v290_164 ?_
  rw [e1, e2, e3, e4, e5]
  refine ⟨rfl, i1, rfl, i2, rfl, i3, rfl, i4, rfl, i5, ls0 C, ?_⟩
  obtain ⟨t1, t2, t3, t4⟩ := a2
  refine m17 C KP P (by omega) rfl t4 (fun no => ⟨_, rfl, rfl, i1, rfl, i2, rfl, i3, rfl, i4, rfl, i5, ls256 C, ?_⟩) (fun yes h1 F1 l1 b1 => ⟨_, rfl, rfl, i1, rfl, i2, rfl, i3, rfl, i4, rfl, i5, ls256 (F1.C C), ?_⟩)
  · exact m169 C (by omega) t3 t4 (fun _ => ⟨_, rfl, fun _ => K _ (I.up (by omega)), fun z => absurd rfl z⟩) (fun y => absurd y no)
  · refine m169 (F1.C C) (by omega) ((F1.f 256 1 (by omega)).trans t3) t4 (fun no => absurd yes no) (fun _ h2 F2 l2 b2 => ⟨_, rfl, fun _ => K _ ?_, fun z => absurd rfl z⟩)
    have F12 : Fr (fun c k => c = 2 ∨ c = 257 ∨ (c = 1 ∧ k = 1) ∨ (c = 256 ∧ k = 1)) h h2 := (F1.mo (fun c k z => by omega)).tr (F2.mo (fun c k z => by omega))
    have sm : ∀ c k, (fun c k => c = 2 ∨ c = 257 ∨ (c = 1 ∧ k = 1) ∨ (c = 256 ∧ k = 1)) c k → SmC c := fun c k z => by unfold SmC; omega
    have b1' : aI h2 2 = put20 (aI h 2) (fI h 1 1) p w m z y := by rw [F2.a 2 (by omega)]; exact b1
    have l1' : fI h2 1 1 = fI h 1 1 + 20 := by rw [F2.f 1 1 (by omega)]; exact l1
    rw [F1.a 257 (by omega), t1] at b2
    refine Inv.mk F12 sm (by omega) a1 a7 a8 ?_ (a3.fr F12 (fun c k z => by omega)) ((a4.fr F12 (fun c k z => ⟨by omega, (a1.im (k := k) (sm c k z)).1, by omega, by omega⟩)).up (by omega)) ((a5.fr F12 (fun c k z => by omega)).up (by omega)) ((a6.fr F12 (fun c k z => ⟨by omega, by omega, (a1.im (k := k) (sm c k z)).2.1⟩)).up (by omega))
    exact ⟨by rw [b2, b1'], by rw [b1']; exact t2.put20 (by omega), by rw [l2, l1'], by rw [l1']; omega, by rw [l1']; omega⟩
set_option maxRecDepth 100000 in
set_option maxHeartbeats 4000000 in
theorem v290_227 {X : Cst} {d : Nat} {a : Nat} {a1 : Nat} {a2 : Nat} {x3 : Int32} {h : AH} {Q : Post}
  (w : a = SCR ∧ ix (x3 + 1) X.1.1 ∧ hs h a1 = (0, 10) ∧ Ex X PG d 19 0 [some (.ref a1), some (.int (X.1.2 (Int32.toNatClampNeg (x3 + 1))))] [] h (fun v1 h2 => ∃ r3, v1 = some (.int r3) ∧
      a = SCR ∧ ix (x3 + 1) X.1.1 ∧ hs h2 a2 = (0, 11) ∧ Ex X PG d 171 0 [some (.ref a2), some (.int (X.1.2 (Int32.toNatClampNeg (x3 + 1))))] [] h2 (fun v4 h5 => ∃ r6, v4 = some (.int r6) ∧
        ((r3 = r6 →
          Ex X PG (d + 1) 290 18 [some (.retAddr a), some (.ref a1), some (.ref a2), some (.int (x3 + 6))] [] h5 Q) ∧
        (¬ (r3 = r6) →
          ((0 : Int32) = 0 ∨ (0 : Int32) = 1) ∧ Q (some (.int 0)) h5))))) :
    Ex X PG (d + 1) 290 227 [some (.retAddr a), some (.ref a1), some (.ref a2), some (.int x3)] [] h Q := wpx_ok (cut := [18]) 17 d 290 227 _ _ _ _ w
set_option maxHeartbeats 4000000 in
theorem op227 : OpP 227 := by
  intro X d x3 h Q N hX hd hN hx I K
  obtain ⟨i1, i2, i3, i4, i5⟩ := hx
  obtain ⟨pl, rp, iq, pl0, mk, qu, ln, pq0, co, ne, be, lp, n, Rs, a1, a2, a3, a4, a5, a6, a7, a8⟩ := id I
  have C := a1.1.1
  have P := a1.2.1.1
  have KP := a1.2.1.2.1.1
  have R := a4.1
  have W := a4.2.1
  have W9 : WF 999 (aI h 266) := W.up (by omega)
  obtain ⟨p, g1, e1⟩ := asJ (X.1.2 (Int32.toNatClampNeg (x3 + 1)))
  refine v290_227 ?_
  rw [e1]
  refine ⟨rfl, i1, ls0 C, ?_⟩
  obtain ⟨t1, t2, t3, t4⟩ := a2
  refine m19 C KP P (by omega) g1 (fun no => ⟨_, rfl, rfl, i1, ls256 C, ?_⟩) (fun yes => ⟨_, rfl, rfl, i1, ls256 (Lay_SH SH.rf.wF C), ?_⟩)
  · exact m171 C (by omega) g1 (fun _ => ⟨_, rfl, fun _ => K _ (I.up (by omega)), fun z => absurd rfl z⟩) (fun y => absurd (by rw [t3] at y; exact y) no)
  · refine m171 (Lay_SH SH.rf.wF C) (by omega) g1 (fun no => absurd (by rw [fI_wF_ne (by decide), t3]; exact yes) no) (fun _ => ⟨_, rfl, fun _ => K _ ?_, fun z => absurd rfl z⟩)
    have F12 : Fr (fun c k => (c = 1 ∧ k = 1) ∨ (c = 256 ∧ k = 1)) h (wF (wF h 1 1 p) 256 1 p) := (Fr.rf.wF (Or.inl ⟨rfl, rfl⟩)).wF (Or.inr ⟨rfl, rfl⟩)
    have sm : ∀ c k, (fun c k => (c = 1 ∧ k = 1) ∨ (c = 256 ∧ k = 1)) c k → SmC c := fun c k z => by unfold SmC; omega
    refine Inv.mk F12 sm (by omega) a1 a7 a8 ?_ (a3.fr F12 (fun c k z => by omega)) ((a4.fr F12 (fun c k z => ⟨by omega, (a1.im (k := k) (sm c k z)).1, by omega, by omega⟩)).up (by omega)) ((a5.fr F12 (fun c k z => by omega)).up (by omega)) ((a6.fr F12 (fun c k z => ⟨by omega, by omega, (a1.im (k := k) (sm c k z)).2.1⟩)).up (by omega))
    have q1 : fI (wF (wF h 1 1 p) 256 1 p) 1 1 = p := by rw [fI_wF_ne (by decide), fI_wF_eq g1]
    exact ⟨by rw [F12.a 257 (by omega), F12.a 2 (by omega)]; exact t1, by rw [F12.a 2 (by omega)]; exact t2, by rw [q1, fI_wF_eq g1], by rw [q1]; omega, by rw [q1]; omega⟩
set_option maxRecDepth 100000 in
set_option maxHeartbeats 4000000 in
theorem v290_276 {X : Cst} {d : Nat} {a : Nat} {a1 : Nat} {a2 : Nat} {x3 : Int32} {h : AH} {Q : Post}
  (w : a = SCR ∧ ix (x3 + 1) X.1.1 ∧ hs h a1 = (0, 10) ∧ Ex X PG d 73 0 [some (.ref a1), some (.int (X.1.2 (Int32.toNatClampNeg (x3 + 1)))), none] [] h (fun v1 h2 => ∃ r3, v1 = some (.int r3) ∧
      a = SCR ∧ ix (x3 + 1) X.1.1 ∧ hs h2 a2 = (0, 11) ∧ Ex X PG d 210 0 [some (.ref a2), some (.int (X.1.2 (Int32.toNatClampNeg (x3 + 1)))), none] [] h2 (fun v4 h5 => ∃ r6, v4 = some (.int r6) ∧
        ((r3 = r6 →
          Ex X PG (d + 1) 290 18 [some (.retAddr a), some (.ref a1), some (.ref a2), some (.int (x3 + 6))] [] h5 Q) ∧
        (¬ (r3 = r6) →
          ((0 : Int32) = 0 ∨ (0 : Int32) = 1) ∧ Q (some (.int 0)) h5))))) :
    Ex X PG (d + 1) 290 276 [some (.retAddr a), some (.ref a1), some (.ref a2), some (.int x3)] [] h Q := wpx_ok (cut := [18]) 17 d 290 276 _ _ _ _ w
set_option maxHeartbeats 4000000 in
theorem op276 : OpP 276 := by
  intro X d x3 h Q N hX hd hN hx I K
  obtain ⟨i1, i2, i3, i4, i5⟩ := hx
  obtain ⟨pl, rp, iq, pl0, mk, qu, ln, pq0, co, ne, be, lp, n, Rs, a1, a2, a3, a4, a5, a6, a7, a8⟩ := id I
  have C := a1.1.1
  have P := a1.2.1.1
  have KP := a1.2.1.2.1.1
  have R := a4.1
  have W := a4.2.1
  have W9 : WF 999 (aI h 266) := W.up (by omega)
  obtain ⟨p, g1, e1⟩ := asJ (X.1.2 (Int32.toNatClampNeg (x3 + 1)))
  refine v290_276 ?_
  rw [e1]
  refine ⟨rfl, i1, ls0 C, ?_⟩
  obtain ⟨u1, u2, u3⟩ := id a3
  obtain ⟨q1, q2, q3⟩ := a4.2.2.1
  have n0 := u1.2.1
  refine m73 C P KP (by omega) g1 (fun no => ⟨_, rfl, rfl, i1, ls256 C, ?_⟩) (fun yes => ⟨_, rfl, rfl, i1, ls256 (Lay_SH SH.rf.wF C), ?_⟩) (by rw [u1.1]; exact n0.1)
  · exact m210 C (by omega) g1 (fun _ => ⟨_, rfl, fun _ => K _ (I.up (by omega)), fun z => absurd rfl z⟩) (fun y => absurd (by rw [u2] at y; rw [u1.1]; exact y) no)
  · rw [u1.1] at yes
    rw [q1, show fI h 256 21 = fI (wF h 52 2 p) 256 21 from (congrFun (fI_wF_ne (by decide)) 21).symm]
    refine m210 (Lay_SH SH.rf.wF C) (by omega) g1 (fun no => absurd (by rw [fI_wF_ne (by decide), u2]; exact yes) no) (fun _ => ⟨_, rfl, fun _ => K _ ?_, fun z => absurd rfl z⟩)
    have F12 : Fr (fun c k => (c = 52 ∧ k = 2) ∨ (c = 256 ∧ k = 21)) h (wF (wF h 52 2 p) 256 21 p) := (Fr.rf.wF (Or.inl ⟨rfl, rfl⟩)).wF (Or.inr ⟨rfl, rfl⟩)
    have sm : ∀ c k, (fun c k => (c = 52 ∧ k = 2) ∨ (c = 256 ∧ k = 21)) c k → SmC c := fun c k z => by unfold SmC; omega
    refine Inv.mk F12 sm (by omega) a1 a7 a8 (a2.fr F12 (fun c k z => by omega)) (a3.fr F12 (fun c k z => by omega)) ?_ ((a5.fr F12 (fun c k z => by omega)).up (by omega)) ((a6.fr F12 (fun c k z => ⟨by omega, by omega, (a1.im (k := k) (sm c k z)).2.1⟩)).up (by omega))
    have q5 : fI (wF (wF h 52 2 p) 256 21 p) 52 2 = p := by rw [fI_wF_ne (by decide), fI_wF_eq g1]
    have q6 : aI (wF (wF h 52 2 p) 256 21 p) 266 = aI h 266 := F12.a 266 (by omega)
    refine ⟨?_, by rw [q6]; exact W.up (by omega), ⟨by rw [q5, fI_wF_eq g1], by rw [fI_wF_eq g1]; omega, by rw [fI_wF_eq g1]; omega⟩, by rw [F12.f 52 3 (by omega), F12.f 256 22 (by omega)]; exact a4.2.2.2⟩
    rw [q6]
    exact CS.frk R F12 (fun c k z => by omega) (fun c k z => (a1.im (k := k) (sm c k z)).1)
set_option maxRecDepth 100000 in
set_option maxHeartbeats 4000000 in
theorem v290_856 {X : Cst} {d : Nat} {a : Nat} {a1 : Nat} {a2 : Nat} {x3 : Int32} {h : AH} {Q : Post}
  (w : a = SCR ∧ ix (x3 + 1) X.1.1 ∧ hs h a1 = (0, 10) ∧ Ex X PG d 160 0 [some (.ref a1), some (.int (X.1.2 (Int32.toNatClampNeg (x3 + 1)))), none] [] h (fun v1 h2 => ∃ r3, v1 = some (.int r3) ∧
      a = SCR ∧ ix (x3 + 1) X.1.1 ∧ hs h2 a2 = (0, 11) ∧ Ex X PG d 282 0 [some (.ref a2), some (.int (X.1.2 (Int32.toNatClampNeg (x3 + 1)))), none] [] h2 (fun v4 h5 => ∃ r6, v4 = some (.int r6) ∧
        ((r3 = r6 →
          Ex X PG (d + 1) 290 18 [some (.retAddr a), some (.ref a1), some (.ref a2), some (.int (x3 + 6))] [] h5 Q) ∧
        (¬ (r3 = r6) →
          ((0 : Int32) = 0 ∨ (0 : Int32) = 1) ∧ Q (some (.int 0)) h5))))) :
    Ex X PG (d + 1) 290 856 [some (.retAddr a), some (.ref a1), some (.ref a2), some (.int x3)] [] h Q := wpx_ok (cut := [18]) 17 d 290 856 _ _ _ _ w
set_option maxHeartbeats 4000000 in
theorem op856 : OpP 856 := by
  intro X d x3 h Q N hX hd hN hx I K
  obtain ⟨i1, i2, i3, i4, i5⟩ := hx
  obtain ⟨pl, rp, iq, pl0, mk, qu, ln, pq0, co, ne, be, lp, n, Rs, a1, a2, a3, a4, a5, a6, a7, a8⟩ := id I
  have C := a1.1.1
  have P := a1.2.1.1
  have KP := a1.2.1.2.1.1
  have R := a4.1
  have W := a4.2.1
  have W9 : WF 999 (aI h 266) := W.up (by omega)
  obtain ⟨p, g1, e1⟩ := asJ (X.1.2 (Int32.toNatClampNeg (x3 + 1)))
  refine v290_856 ?_
  rw [e1]
  refine ⟨rfl, i1, ls0 C, ?_⟩
  obtain ⟨q1, q2⟩ := a4.2.2.2
  refine m160 C P KP (by omega) g1 (fun no => ⟨_, rfl, rfl, i1, ls256 C, ?_⟩) (fun yes => ⟨_, rfl, rfl, i1, ls256 (Lay_SH SH.rf.wF C), ?_⟩)
  · exact m282 C (by omega) g1 (fun _ => ⟨_, rfl, fun _ => K _ (I.up (by omega)), fun z => absurd rfl z⟩) (fun y => absurd y no)
  · rw [q1, show fI h 256 22 = fI (wF h 52 3 p) 256 22 from (congrFun (fI_wF_ne (by decide)) 22).symm]
    refine m282 (Lay_SH SH.rf.wF C) (by omega) g1 (fun no => absurd yes no) (fun _ => ⟨_, rfl, fun _ => K _ ?_, fun z => absurd rfl z⟩)
    have F12 : Fr (fun c k => (c = 52 ∧ k = 3) ∨ (c = 256 ∧ k = 22)) h (wF (wF h 52 3 p) 256 22 p) := (Fr.rf.wF (Or.inl ⟨rfl, rfl⟩)).wF (Or.inr ⟨rfl, rfl⟩)
    have sm : ∀ c k, (fun c k => (c = 52 ∧ k = 3) ∨ (c = 256 ∧ k = 22)) c k → SmC c := fun c k z => by unfold SmC; omega
    refine Inv.mk F12 sm (by omega) a1 a7 a8 (a2.fr F12 (fun c k z => by omega)) (a3.fr F12 (fun c k z => by omega)) ?_ ((a5.fr F12 (fun c k z => by omega)).up (by omega)) ((a6.fr F12 (fun c k z => ⟨by omega, by omega, (a1.im (k := k) (sm c k z)).2.1⟩)).up (by omega))
    have q5 : fI (wF (wF h 52 3 p) 256 22 p) 52 3 = p := by rw [fI_wF_ne (by decide), fI_wF_eq g1]
    have q6 : aI (wF (wF h 52 3 p) 256 22 p) 266 = aI h 266 := F12.a 266 (by omega)
    refine ⟨?_, by rw [q6]; exact W.up (by omega), by rw [F12.f 52 2 (by omega), F12.f 256 21 (by omega)]; exact a4.2.2.1, by rw [q5, fI_wF_eq g1], by rw [fI_wF_eq g1]; exact yes⟩
    rw [q6]
    exact CS.frk R F12 (fun c k z => by omega) (fun c k z => (a1.im (k := k) (sm c k z)).1)
