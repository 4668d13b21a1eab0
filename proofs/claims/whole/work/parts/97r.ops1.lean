/-! THE LAW, CALL BY CALL: what only looks. -/
theorem asJ (y : Int32) : ∃ a : Int, (-2147483648 ≤ a ∧ a < 2147483648) ∧ y = J a := ⟨y.toInt, ⟨Int32.le_toInt y, Int32.toInt_lt y⟩, (J_toInt y).symm⟩
def GoOn (X : Cst) (d : Nat) (x3 : Int32) (Q : Post) (N : Int) : Prop := ∀ h', Inv h' N → Ex X PG (d + 1) 290 18 [some (.retAddr SCR), some (.ref 0), some (.ref 256), some (.int (x3 + 6))] [] h' Q
def IxA (X : Cst) (x3 : Int32) : Prop := ix (x3 + 1) X.1.1 ∧ ix (x3 + 2) X.1.1 ∧ ix (x3 + 3) X.1.1 ∧ ix (x3 + 4) X.1.1 ∧ ix (x3 + 5) X.1.1
def OpP (pc : Nat) : Prop := ∀ (X : Cst) (d : Nat) (x3 : Int32) (h : AH) (Q : Post) (N : Int), X.2 = X2 → 40 ≤ d → 0 ≤ N ∧ N ≤ 600 → IxA X x3 → Inv h N → GoOn X d x3 Q (N + 1) → Ex X PG (d + 1) 290 pc [some (.retAddr SCR), some (.ref 0), some (.ref 256), some (.int x3)] [] h Q
/-- what the calls need of the invariant -/
theorem Inv.ge {h : AH} {N : Int} (I : Inv h N) (hN : N ≤ 600) : Lay h ∧ 281 ≤ hn h ∧ WF N (aI h 266) ∧ WF 999 (aI h 266) ∧ WF 998 (aI h 266) ∧ ∃ (pl : Nat), hR h 52 0 = some pl ∧ PlanAt h pl ∧ CS h pl (aI h 266) := by
  obtain ⟨pl, rp, iq, pl0, mk, qu, ln, pq0, co, ne, be, lp, n, Rs, a1, a2, a3, a4, a5, a6, a7, a8⟩ := I
  exact ⟨a1.1.1, a1.1.2, a4.2.1, a4.2.1.up (by omega), a4.2.1.up (by omega), pl, a1.2.1.1, a1.2.1.2.1.1, a4.1⟩
theorem Inv.ru {h : AH} {N : Int} (I : Inv h N) : ∃ (n : Int) (Rs : Int → Ru), CU h n Rs ∧ fI h 256 2 = n ∧ (0 ≤ n ∧ n ≤ 6) ∧ (∀ g : Int, -1 ≤ g → g < n → RefOK h g Rs) ∧ fI h 52 2 = fI h 256 21 ∧ (-1 ≤ fI h 256 21 ∧ fI h 256 21 < n) ∧ fI h 52 3 = fI h 256 22 ∧ 0 ≤ fI h 256 22 := by
  obtain ⟨pl, rp, iq, pl0, mk, qu, ln, pq0, co, ne, be, lp, n, Rs, a1, a2, a3, a4, a5, a6, a7, a8⟩ := I
  exact ⟨n, Rs, a3.1, a3.2.1, a3.1.2.1, a3.2.2, a4.2.2.1.1, a4.2.2.1.2, a4.2.2.2.1, a4.2.2.2.2⟩
theorem TR_f {c k : Nat} (z : TR c k) : TRf c k := Or.inl (Or.inl z)
theorem TRs_f {c k : Nat} (z : TRs c k) : TRf c k := Or.inl z
theorem Inv.r0 {h h' : AH} {N : Int} (I : Inv h N) (F : Fr TR h h') : Inv h' N := I.rf (F.mo (fun _ _ => TR_f)) (F.a 266 (by unfold TR; omega)) (F.f 256 21 (by unfold TR; omega))
theorem Inv.r1 {h h' : AH} {N : Int} (I : Inv h N) (F : Fr TRs h h') (e : aI h' 266 = aI h 266) : Inv h' N := I.rf (F.mo (fun _ _ => TRs_f)) e (F.f 256 21 (by unfold TRs TR; omega))
theorem fI_lt (h : AH) (c k : Nat) : fI h c k < 2147483648 := Int32.toInt_lt _
theorem Inv.tp {h : AH} {N : Int} (I : Inv h N) : aI h 257 = aI h 2 ∧ fI h 1 1 = fI h 256 1 ∧ (0 ≤ fI h 1 1 ∧ fI h 1 1 ≤ 400) ∧ fI h 0 14 = fI h 256 27 := by
  obtain ⟨pl, rp, iq, pl0, mk, qu, ln, pq0, co, ne, be, lp, n, Rs, a1, a2, a3, a4, a5, a6, a7, a8⟩ := I
  obtain ⟨V, b1, b2⟩ := a5
  exact ⟨a2.1, a2.2.2.1.symm, a2.2.2.2, b1.1⟩
set_option maxRecDepth 100000 in
set_option maxHeartbeats 4000000 in
theorem v290_299 {X : Cst} {d : Nat} {a : Nat} {a1 : Nat} {a2 : Nat} {x3 : Int32} {h : AH} {Q : Post}
  (w : a = SCR ∧ ix (x3 + 1) X.1.1 ∧ a = SCR ∧ ix (x3 + 2) X.1.1 ∧ hs h a1 = (0, 10) ∧ Ex X PG d 74 0 [some (.ref a1), some (.int (X.1.2 (Int32.toNatClampNeg (x3 + 1)))), some (.int (X.1.2 (Int32.toNatClampNeg (x3 + 2)))), none, none] [] h (fun v1 h2 => ∃ r3, v1 = some (.int r3) ∧
      a = SCR ∧ ix (x3 + 1) X.1.1 ∧ a = SCR ∧ ix (x3 + 2) X.1.1 ∧ hs h2 a2 = (0, 11) ∧ Ex X PG d 212 0 [some (.ref a2), some (.int (X.1.2 (Int32.toNatClampNeg (x3 + 1)))), some (.int (X.1.2 (Int32.toNatClampNeg (x3 + 2))))] [] h2 (fun v4 h5 => ∃ r6, v4 = some (.int r6) ∧
        ((r3 = r6 →
          Ex X PG (d + 1) 290 18 [some (.retAddr a), some (.ref a1), some (.ref a2), some (.int (x3 + 6))] [] h5 Q) ∧
        (¬ (r3 = r6) →
          ((0 : Int32) = 0 ∨ (0 : Int32) = 1) ∧ Q (some (.int 0)) h5))))) :
    Ex X PG (d + 1) 290 299 [some (.retAddr a), some (.ref a1), some (.ref a2), some (.int x3)] [] h Q := wpx_ok (cut := [18]) 27 d 290 299 _ _ _ _ w
theorem op299 : OpP 299 := by
  intro X d x3 h Q N hX hd hN hx I K
  obtain ⟨i1, i2, i3, i4, i5⟩ := hx
  obtain ⟨C, h281, W, W9, W8, pl, P, KP, R⟩ := I.ge hN.2
  obtain ⟨p, g1, e1⟩ := asJ (X.1.2 (Int32.toNatClampNeg (x3 + 1)))
  obtain ⟨w, g2, e2⟩ := asJ (X.1.2 (Int32.toNatClampNeg (x3 + 2)))
  refine v290_299 ?_
  rw [e1, e2]
  refine ⟨rfl, i1, rfl, i2, ls0 C, ?_⟩
  refine m74 C P KP (by omega) R W9 g1 g2 ⟨_, rfl, rfl, i1, rfl, i2, ls256 C, ?_⟩
  exact m212 C (by omega) W9 g1 g2 (fun h' F => ⟨_, rfl, fun _ => K _ ((I.r0 F).up (by omega)), fun z => absurd rfl z⟩)
set_option maxRecDepth 100000 in
set_option maxHeartbeats 4000000 in
theorem v290_332 {X : Cst} {d : Nat} {a : Nat} {a1 : Nat} {a2 : Nat} {x3 : Int32} {h : AH} {Q : Post}
  (w : a = SCR ∧ ix (x3 + 1) X.1.1 ∧ a = SCR ∧ ix (x3 + 2) X.1.1 ∧ hs h a1 = (0, 10) ∧ Ex X PG d 79 0 [some (.ref a1), some (.int (X.1.2 (Int32.toNatClampNeg (x3 + 1)))), some (.int (X.1.2 (Int32.toNatClampNeg (x3 + 2))))] [] h (fun v1 h2 => ∃ r3, v1 = some (.int r3) ∧
      a = SCR ∧ ix (x3 + 1) X.1.1 ∧ a = SCR ∧ ix (x3 + 2) X.1.1 ∧ hs h2 a2 = (0, 11) ∧ Ex X PG d 222 0 [some (.ref a2), some (.int (X.1.2 (Int32.toNatClampNeg (x3 + 1)))), some (.int (X.1.2 (Int32.toNatClampNeg (x3 + 2))))] [] h2 (fun v4 h5 => ∃ r6, v4 = some (.int r6) ∧
        ((r3 = r6 →
          Ex X PG (d + 1) 290 18 [some (.retAddr a), some (.ref a1), some (.ref a2), some (.int (x3 + 6))] [] h5 Q) ∧
        (¬ (r3 = r6) →
          ((0 : Int32) = 0 ∨ (0 : Int32) = 1) ∧ Q (some (.int 0)) h5))))) :
    Ex X PG (d + 1) 290 332 [some (.retAddr a), some (.ref a1), some (.ref a2), some (.int x3)] [] h Q := wpx_ok (cut := [18]) 27 d 290 332 _ _ _ _ w
theorem op332 : OpP 332 := by
  intro X d x3 h Q N hX hd hN hx I K
  obtain ⟨i1, i2, i3, i4, i5⟩ := hx
  obtain ⟨C, h281, W, W9, W8, pl, P, KP, R⟩ := I.ge hN.2
  obtain ⟨p, g1, e1⟩ := asJ (X.1.2 (Int32.toNatClampNeg (x3 + 1)))
  obtain ⟨w, g2, e2⟩ := asJ (X.1.2 (Int32.toNatClampNeg (x3 + 2)))
  refine v290_332 ?_
  rw [e1, e2]
  refine ⟨rfl, i1, rfl, i2, ls0 C, ?_⟩
  refine m79 C P KP (by omega) R W9 g1 g2 ⟨_, rfl, rfl, i1, rfl, i2, ls256 C, ?_⟩
  exact m222 C (by omega) W9 g1 g2 (fun h' F => ⟨_, rfl, fun _ => K _ ((I.r0 F).up (by omega)), fun z => absurd rfl z⟩)
set_option maxRecDepth 100000 in
set_option maxHeartbeats 4000000 in
theorem v290_365 {X : Cst} {d : Nat} {a : Nat} {a1 : Nat} {a2 : Nat} {x3 : Int32} {h : AH} {Q : Post}
  (w : a = SCR ∧ ix (x3 + 1) X.1.1 ∧ a = SCR ∧ ix (x3 + 2) X.1.1 ∧ hs h a1 = (0, 10) ∧ Ex X PG d 83 0 [some (.ref a1), some (.int (X.1.2 (Int32.toNatClampNeg (x3 + 1)))), some (.int (X.1.2 (Int32.toNatClampNeg (x3 + 2)))), none] [] h (fun v1 h2 => ∃ r3, v1 = some (.int r3) ∧
      a = SCR ∧ ix (x3 + 1) X.1.1 ∧ a = SCR ∧ ix (x3 + 2) X.1.1 ∧ hs h2 a2 = (0, 11) ∧ Ex X PG d 227 0 [some (.ref a2), some (.int (X.1.2 (Int32.toNatClampNeg (x3 + 1)))), some (.int (X.1.2 (Int32.toNatClampNeg (x3 + 2))))] [] h2 (fun v4 h5 => ∃ r6, v4 = some (.int r6) ∧
        ((r3 = r6 →
          Ex X PG (d + 1) 290 18 [some (.retAddr a), some (.ref a1), some (.ref a2), some (.int (x3 + 6))] [] h5 Q) ∧
        (¬ (r3 = r6) →
          ((0 : Int32) = 0 ∨ (0 : Int32) = 1) ∧ Q (some (.int 0)) h5))))) :
    Ex X PG (d + 1) 290 365 [some (.retAddr a), some (.ref a1), some (.ref a2), some (.int x3)] [] h Q := wpx_ok (cut := [18]) 27 d 290 365 _ _ _ _ w
theorem op365 : OpP 365 := by
  intro X d x3 h Q N hX hd hN hx I K
  obtain ⟨i1, i2, i3, i4, i5⟩ := hx
  obtain ⟨C, h281, W, W9, W8, pl, P, KP, R⟩ := I.ge hN.2
  obtain ⟨p, g1, e1⟩ := asJ (X.1.2 (Int32.toNatClampNeg (x3 + 1)))
  obtain ⟨w, g2, e2⟩ := asJ (X.1.2 (Int32.toNatClampNeg (x3 + 2)))
  refine v290_365 ?_
  rw [e1, e2]
  refine ⟨rfl, i1, rfl, i2, ls0 C, ?_⟩
  refine m83 C P KP (by omega) R W9 g1 g2 ⟨_, rfl, rfl, i1, rfl, i2, ls256 C, ?_⟩
  exact m227 C (by omega) W9 g1 g2 (fun h' F => ⟨_, rfl, fun _ => K _ ((I.r0 F).up (by omega)), fun z => absurd rfl z⟩)
set_option maxRecDepth 100000 in
set_option maxHeartbeats 4000000 in
theorem v290_734 {X : Cst} {d : Nat} {a : Nat} {a1 : Nat} {a2 : Nat} {x3 : Int32} {h : AH} {Q : Post}
  (w : a = SCR ∧ ix (x3 + 1) X.1.1 ∧ hs h a1 = (0, 10) ∧ Ex X PG d 148 0 [some (.ref a1), some (.int (X.1.2 (Int32.toNatClampNeg (x3 + 1)))), none, none, none, none, none] [] h (fun v1 h2 => ∃ r3, v1 = some (.int r3) ∧
      a = SCR ∧ ix (x3 + 1) X.1.1 ∧ hs h2 a2 = (0, 11) ∧ Ex X PG d 273 0 [some (.ref a2), some (.int (X.1.2 (Int32.toNatClampNeg (x3 + 1)))), none, none, none, none, none] [] h2 (fun v4 h5 => ∃ r6, v4 = some (.int r6) ∧
        ((r3 = r6 →
          Ex X PG (d + 1) 290 18 [some (.retAddr a), some (.ref a1), some (.ref a2), some (.int (x3 + 6))] [] h5 Q) ∧
        (¬ (r3 = r6) →
          ((0 : Int32) = 0 ∨ (0 : Int32) = 1) ∧ Q (some (.int 0)) h5))))) :
    Ex X PG (d + 1) 290 734 [some (.retAddr a), some (.ref a1), some (.ref a2), some (.int x3)] [] h Q := wpx_ok (cut := [18]) 17 d 290 734 _ _ _ _ w
theorem op734 : OpP 734 := by
  intro X d x3 h Q N hX hd hN hx I K
  obtain ⟨i1, i2, i3, i4, i5⟩ := hx
  obtain ⟨C, h281, W, W9, W8, pl, P, KP, R⟩ := I.ge hN.2
  obtain ⟨p, g1, e1⟩ := asJ (X.1.2 (Int32.toNatClampNeg (x3 + 1)))
  refine v290_734 ?_
  rw [e1]
  refine ⟨rfl, i1, ls0 C, ?_⟩
  refine m148 C P KP (by omega) R W9 g1 ⟨_, rfl, rfl, i1, ls256 C, ?_⟩
  exact m273 C (by omega) W9 g1 (fun h' F => ⟨_, rfl, fun _ => K _ ((I.r0 (F.mo (fun c k z => by unfold TR; omega))).up (by omega)), fun z => absurd rfl z⟩)
set_option maxRecDepth 100000 in
set_option maxHeartbeats 4000000 in
theorem v290_922 {X : Cst} {d : Nat} {a : Nat} {a1 : Nat} {a2 : Nat} {x3 : Int32} {h : AH} {Q : Post}
  (w : a = SCR ∧ ix (x3 + 1) X.1.1 ∧ hs h a1 = (0, 10) ∧ Ex X PG d 163 0 [some (.ref a1), some (.int (X.1.2 (Int32.toNatClampNeg (x3 + 1))))] [] h (fun v1 h2 => ∃ r3, v1 = some (.int r3) ∧
      a = SCR ∧ ix (x3 + 1) X.1.1 ∧ hs h2 a2 = (0, 11) ∧ Ex X PG d 287 0 [some (.ref a2), some (.int (X.1.2 (Int32.toNatClampNeg (x3 + 1))))] [] h2 (fun v4 h5 => ∃ r6, v4 = some (.int r6) ∧
        ((r3 = r6 →
          Ex X PG (d + 1) 290 18 [some (.retAddr a), some (.ref a1), some (.ref a2), some (.int (x3 + 6))] [] h5 Q) ∧
        (¬ (r3 = r6) →
          ((0 : Int32) = 0 ∨ (0 : Int32) = 1) ∧ Q (some (.int 0)) h5))))) :
    Ex X PG (d + 1) 290 922 [some (.retAddr a), some (.ref a1), some (.ref a2), some (.int x3)] [] h Q := wpx_ok (cut := [18]) 17 d 290 922 _ _ _ _ w
theorem op922 : OpP 922 := by
  intro X d x3 h Q N hX hd hN hx I K
  obtain ⟨i1, i2, i3, i4, i5⟩ := hx
  obtain ⟨C, h281, W, W9, W8, pl, P, KP, R⟩ := I.ge hN.2
  obtain ⟨p, g1, e1⟩ := asJ (X.1.2 (Int32.toNatClampNeg (x3 + 1)))
  refine v290_922 ?_
  rw [e1]
  refine ⟨rfl, i1, ls0 C, ?_⟩
  obtain ⟨n, Rs, U, en, hn6, RO, ef, hf, ex, hx⟩ := I.ru
  obtain ⟨t1, t2, t3, t4⟩ := I.tp
  refine m163 C P KP (by omega) R W9 g1 ⟨_, rfl, rfl, i1, ls256 C, ?_⟩
  rw [U.1, ef, ex, t4, t2, ← en]
  exact m287 C (by omega) W9 g1 ⟨_, rfl, fun _ => K _ (I.up (by omega)), fun z => absurd rfl z⟩
set_option maxRecDepth 100000 in
set_option maxHeartbeats 4000000 in
theorem v290_500 {X : Cst} {d : Nat} {a : Nat} {a1 : Nat} {a2 : Nat} {x3 : Int32} {h : AH} {Q : Post}
  (w : a = SCR ∧ ix (x3 + 1) X.1.1 ∧ a = SCR ∧ ix (x3 + 2) X.1.1 ∧ hs h a1 = (0, 10) ∧ Ex X PG d 109 0 [some (.ref a1), some (.int (X.1.2 (Int32.toNatClampNeg (x3 + 1)))), some (.int (X.1.2 (Int32.toNatClampNeg (x3 + 2)))), none, none] [] h (fun v1 h2 => ∃ r3, v1 = some (.int r3) ∧
      a = SCR ∧ ix (x3 + 1) X.1.1 ∧ a = SCR ∧ ix (x3 + 2) X.1.1 ∧ hs h2 a2 = (0, 11) ∧ Ex X PG d 250 0 [some (.ref a2), some (.int (X.1.2 (Int32.toNatClampNeg (x3 + 1)))), some (.int (X.1.2 (Int32.toNatClampNeg (x3 + 2)))), none] [] h2 (fun v4 h5 => ∃ r6, v4 = some (.int r6) ∧
        ((r3 = r6 →
          Ex X PG (d + 1) 290 18 [some (.retAddr a), some (.ref a1), some (.ref a2), some (.int (x3 + 6))] [] h5 Q) ∧
        (¬ (r3 = r6) →
          ((0 : Int32) = 0 ∨ (0 : Int32) = 1) ∧ Q (some (.int 0)) h5))))) :
    Ex X PG (d + 1) 290 500 [some (.retAddr a), some (.ref a1), some (.ref a2), some (.int x3)] [] h Q := wpx_ok (cut := [18]) 27 d 290 500 _ _ _ _ w
theorem op500 : OpP 500 := by
  intro X d x3 h Q N hX hd hN hx I K
  obtain ⟨i1, i2, i3, i4, i5⟩ := hx
  obtain ⟨C, h281, W, W9, W8, pl, P, KP, R⟩ := I.ge hN.2
  obtain ⟨p, g1, e1⟩ := asJ (X.1.2 (Int32.toNatClampNeg (x3 + 1)))
  obtain ⟨w, g2, e2⟩ := asJ (X.1.2 (Int32.toNatClampNeg (x3 + 2)))
  refine v290_500 ?_
  rw [e1, e2]
  refine ⟨rfl, i1, rfl, i2, ls0 C, ?_⟩
  obtain ⟨n, Rs, U, en, hn6, RO, ef, hf, ex, hx⟩ := I.ru
  refine m109 C P KP (by omega) R W (by omega) U ef hf g1 g2 (fun h1 F1 => ⟨_, rfl, rfl, i1, rfl, i2, ls256 (F1.C C), ?_⟩)
  have I1 := I.cl (F1.mo (fun _ _ z => Or.inl z))
  obtain ⟨C1, -, W1, -, -, -, -, -, -⟩ := I1.ge hN.2
  have s1 : aI h1 266 = aI h 266 := F1.a 266 (by unfold TAh; omega)
  have f1 : fI h1 256 21 = fI h 256 21 := F1.f 256 21 (by unfold TAh; omega)
  refine m250 C1 (by omega) W1 (by omega) f1 ((RO _ hf.1 hf.2).fr F1 (fun c k z => by unfold TAh at z; omega)) g1 g2 (fun h2 F2 s2 => ?_)
  rw [s1]
  exact ⟨_, rfl, fun _ => K _ ((I1.r1 F2 s2).up (by omega)), fun z => absurd rfl z⟩
set_option maxRecDepth 100000 in
set_option maxHeartbeats 4000000 in
theorem v290_533 {X : Cst} {d : Nat} {a : Nat} {a1 : Nat} {a2 : Nat} {x3 : Int32} {h : AH} {Q : Post}
  (w : a = SCR ∧ ix (x3 + 1) X.1.1 ∧ hs h a1 = (0, 10) ∧ Ex X PG d 110 0 [some (.ref a1), some (.int (X.1.2 (Int32.toNatClampNeg (x3 + 1)))), none, none] [] h (fun v1 h2 => ∃ r3, v1 = some (.int r3) ∧
      a = SCR ∧ ix (x3 + 1) X.1.1 ∧ hs h2 a2 = (0, 11) ∧ Ex X PG d 253 0 [some (.ref a2), some (.int (X.1.2 (Int32.toNatClampNeg (x3 + 1)))), none, none] [] h2 (fun v4 h5 => ∃ r6, v4 = some (.int r6) ∧
        ((r3 = r6 →
          Ex X PG (d + 1) 290 18 [some (.retAddr a), some (.ref a1), some (.ref a2), some (.int (x3 + 6))] [] h5 Q) ∧
        (¬ (r3 = r6) →
          ((0 : Int32) = 0 ∨ (0 : Int32) = 1) ∧ Q (some (.int 0)) h5))))) :
    Ex X PG (d + 1) 290 533 [some (.retAddr a), some (.ref a1), some (.ref a2), some (.int x3)] [] h Q := wpx_ok (cut := [18]) 17 d 290 533 _ _ _ _ w
theorem op533 : OpP 533 := by
  intro X d x3 h Q N hX hd hN hx I K
  obtain ⟨i1, i2, i3, i4, i5⟩ := hx
  obtain ⟨C, h281, W, W9, W8, pl, P, KP, R⟩ := I.ge hN.2
  obtain ⟨p, g1, e1⟩ := asJ (X.1.2 (Int32.toNatClampNeg (x3 + 1)))
  refine v290_533 ?_
  rw [e1]
  refine ⟨rfl, i1, ls0 C, ?_⟩
  obtain ⟨n, Rs, U, en, hn6, RO, ef, hf, ex, hx⟩ := I.ru
  refine m110 C P KP (by omega) R W (by omega) U ef hf g1 (fun h1 F1 => ⟨_, rfl, rfl, i1, ls256 (F1.C C), ?_⟩)
  have I1 := I.cl (F1.mo (fun _ _ z => Or.inl z))
  obtain ⟨C1, -, W1, -, -, -, -, -, -⟩ := I1.ge hN.2
  have s1 : aI h1 266 = aI h 266 := F1.a 266 (by unfold TAh; omega)
  have f1 : fI h1 256 21 = fI h 256 21 := F1.f 256 21 (by unfold TAh; omega)
  refine m253 C1 (by omega) W1 (by omega) f1 ((RO _ hf.1 hf.2).fr F1 (fun c k z => by unfold TAh at z; omega)) g1 (fun h2 F2 s2 => ?_)
  rw [s1]
  exact ⟨_, rfl, fun _ => K _ ((I1.r1 F2 s2).up (by omega)), fun z => absurd rfl z⟩
set_option maxRecDepth 100000 in
set_option maxHeartbeats 4000000 in
theorem v290_879 {X : Cst} {d : Nat} {a : Nat} {a1 : Nat} {a2 : Nat} {x3 : Int32} {h : AH} {Q : Post}
  (w : a = SCR ∧ ix (x3 + 1) X.1.1 ∧ a = SCR ∧ ix (x3 + 2) X.1.1 ∧ a = SCR ∧ ix (x3 + 3) X.1.1 ∧ hs h a1 = (0, 10) ∧ Ex X PG d 161 0 [some (.ref a1), some (.int (X.1.2 (Int32.toNatClampNeg (x3 + 1)))), some (.int (X.1.2 (Int32.toNatClampNeg (x3 + 2)))), some (.int (X.1.2 (Int32.toNatClampNeg (x3 + 3)))), none, none, none, none, none, none, none] [] h (fun v1 h2 => ∃ r3, v1 = some (.int r3) ∧
      a = SCR ∧ ix (x3 + 1) X.1.1 ∧ a = SCR ∧ ix (x3 + 2) X.1.1 ∧ a = SCR ∧ ix (x3 + 3) X.1.1 ∧ hs h2 a2 = (0, 11) ∧ Ex X PG d 283 0 [some (.ref a2), some (.int (X.1.2 (Int32.toNatClampNeg (x3 + 1)))), some (.int (X.1.2 (Int32.toNatClampNeg (x3 + 2)))), some (.int (X.1.2 (Int32.toNatClampNeg (x3 + 3)))), none, none, none, none] [] h2 (fun v4 h5 => ∃ r6, v4 = some (.int r6) ∧
        ((r3 = r6 →
          Ex X PG (d + 1) 290 18 [some (.retAddr a), some (.ref a1), some (.ref a2), some (.int (x3 + 6))] [] h5 Q) ∧
        (¬ (r3 = r6) →
          ((0 : Int32) = 0 ∨ (0 : Int32) = 1) ∧ Q (some (.int 0)) h5))))) :
    Ex X PG (d + 1) 290 879 [some (.retAddr a), some (.ref a1), some (.ref a2), some (.int x3)] [] h Q := wpx_ok (cut := [18]) 37 d 290 879 _ _ _ _ w
theorem op879 : OpP 879 := by
  intro X d x3 h Q N hX hd hN hx I K
  obtain ⟨i1, i2, i3, i4, i5⟩ := hx
  obtain ⟨C, h281, W, W9, W8, pl, P, KP, R⟩ := I.ge hN.2
  obtain ⟨p, g1, e1⟩ := asJ (X.1.2 (Int32.toNatClampNeg (x3 + 1)))
  obtain ⟨w, g2, e2⟩ := asJ (X.1.2 (Int32.toNatClampNeg (x3 + 2)))
  obtain ⟨m, g3, e3⟩ := asJ (X.1.2 (Int32.toNatClampNeg (x3 + 3)))
  refine v290_879 ?_
  rw [e1, e2, e3]
  refine ⟨rfl, i1, rfl, i2, rfl, i3, ls0 C, ?_⟩
  obtain ⟨n, Rs, U, en, hn6, RO, ef, hf, ex, hx⟩ := I.ru
  have hx2 : fI h 256 22 < 2147483648 := fI_lt _ _ _
  refine m161 C P KP (by omega) R W (by omega) U ef hf ex ⟨hx, hx2⟩ g1 g2 g3 (fun h1 F1 => ⟨_, rfl, rfl, i1, rfl, i2, rfl, i3, ls256 (F1.C C), ?_⟩)
  have I1 := I.cl (F1.mo (fun _ _ z => Or.inl z))
  obtain ⟨C1, -, W1, -, -, -, -, -, -⟩ := I1.ge hN.2
  have s1 : aI h1 266 = aI h 266 := F1.a 266 (by unfold TAh; omega)
  have f1 : fI h1 256 21 = fI h 256 21 := F1.f 256 21 (by unfold TAh; omega)
  have f2 : fI h1 256 22 = fI h 256 22 := F1.f 256 22 (by unfold TAh; omega)
  refine m283 C1 (by omega) W1 (by omega) f1 f2 ⟨hx, hx2⟩ ((RO _ hf.1 hf.2).fr F1 (fun c k z => by unfold TAh at z; omega)) g1 g2 g3 (fun h2 F2 s2 => ?_)
  rw [s1]
  exact ⟨_, rfl, fun _ => K _ ((I1.r1 F2 s2).up (by omega)), fun z => absurd rfl z⟩
set_option maxRecDepth 100000 in
set_option maxHeartbeats 4000000 in
theorem v290_800 {X : Cst} {d : Nat} {a : Nat} {a1 : Nat} {a2 : Nat} {x3 : Int32} {h : AH} {Q : Post}
  (w : a = SCR ∧ ix (x3 + 1) X.1.1 ∧ hs h a1 = (0, 10) ∧ Ex X PG d 152 0 [some (.ref a1), some (.int (X.1.2 (Int32.toNatClampNeg (x3 + 1)))), none, none, none] [] h (fun v1 h2 => ∃ r3, v1 = some (.int r3) ∧
      a = SCR ∧ ix (x3 + 1) X.1.1 ∧ hs h2 a2 = (0, 11) ∧ Ex X PG d 276 0 [some (.ref a2), some (.int (X.1.2 (Int32.toNatClampNeg (x3 + 1)))), none, none, none] [] h2 (fun v4 h5 => ∃ r6, v4 = some (.int r6) ∧
        ((r3 = r6 →
          Ex X PG (d + 1) 290 18 [some (.retAddr a), some (.ref a1), some (.ref a2), some (.int (x3 + 6))] [] h5 Q) ∧
        (¬ (r3 = r6) →
          ((0 : Int32) = 0 ∨ (0 : Int32) = 1) ∧ Q (some (.int 0)) h5))))) :
    Ex X PG (d + 1) 290 800 [some (.retAddr a), some (.ref a1), some (.ref a2), some (.int x3)] [] h Q := wpx_ok (cut := [18]) 17 d 290 800 _ _ _ _ w
theorem op800 : OpP 800 := by
  intro X d x3 h Q N hX hd hN hx I K
  obtain ⟨i1, i2, i3, i4, i5⟩ := hx
  obtain ⟨C, h281, W, W9, W8, pl, P, KP, R⟩ := I.ge hN.2
  obtain ⟨p, g1, e1⟩ := asJ (X.1.2 (Int32.toNatClampNeg (x3 + 1)))
  refine v290_800 ?_
  rw [e1]
  refine ⟨rfl, i1, ls0 C, ?_⟩
  obtain ⟨n, Rs, U, en, hn6, RO, ef, hf, ex, hx⟩ := I.ru
  refine m152 C P KP (by omega) R W (by omega) U g1 (fun h1 F1 => ⟨_, rfl, rfl, i1, ls256 (F1.C C), ?_⟩)
  have I1 := I.cl (F1.mo (fun _ _ z => Or.inl z))
  obtain ⟨C1, -, W1, -, -, -, -, -, -⟩ := I1.ge hN.2
  have s1 : aI h1 266 = aI h 266 := F1.a 266 (by unfold TAh; omega)
  have f1 : fI h1 256 21 = fI h 256 21 := F1.f 256 21 (by unfold TAh; omega)
  have f2 : fI h1 256 2 = n := (F1.f 256 2 (by unfold TAh; omega)).trans en
  refine m276 C1 (by omega) W1 f1 f2 hn6 (fun g q0 q1 => (RO g q0 q1).fr F1 (fun c k z => by unfold TAh at z; omega)) g1 (fun h2 F2 t2 s2 => ?_)
  rw [s1]
  exact ⟨_, rfl, fun _ => K _ ((I1.rf F2 s2 (t2.trans f1.symm)).up (by omega)), fun z => absurd rfl z⟩
set_option maxRecDepth 100000 in
set_option maxHeartbeats 4000000 in
theorem v290_823 {X : Cst} {d : Nat} {a : Nat} {a1 : Nat} {a2 : Nat} {x3 : Int32} {h : AH} {Q : Post}
  (w : a = SCR ∧ ix (x3 + 1) X.1.1 ∧ a = SCR ∧ ix (x3 + 2) X.1.1 ∧ hs h a1 = (0, 10) ∧ Ex X PG d 156 0 [some (.ref a1), some (.int (X.1.2 (Int32.toNatClampNeg (x3 + 1)))), some (.int (X.1.2 (Int32.toNatClampNeg (x3 + 2)))), none, none, none, none] [] h (fun v1 h2 => ∃ r3, v1 = some (.int r3) ∧
      a = SCR ∧ ix (x3 + 1) X.1.1 ∧ a = SCR ∧ ix (x3 + 2) X.1.1 ∧ hs h2 a2 = (0, 11) ∧ Ex X PG d 280 0 [some (.ref a2), some (.int (X.1.2 (Int32.toNatClampNeg (x3 + 1)))), some (.int (X.1.2 (Int32.toNatClampNeg (x3 + 2)))), none, none, none, none] [] h2 (fun v4 h5 => ∃ r6, v4 = some (.int r6) ∧
        ((r3 = r6 →
          Ex X PG (d + 1) 290 18 [some (.retAddr a), some (.ref a1), some (.ref a2), some (.int (x3 + 6))] [] h5 Q) ∧
        (¬ (r3 = r6) →
          ((0 : Int32) = 0 ∨ (0 : Int32) = 1) ∧ Q (some (.int 0)) h5))))) :
    Ex X PG (d + 1) 290 823 [some (.retAddr a), some (.ref a1), some (.ref a2), some (.int x3)] [] h Q := wpx_ok (cut := [18]) 27 d 290 823 _ _ _ _ w
theorem op823 : OpP 823 := by
  intro X d x3 h Q N hX hd hN hx I K
  obtain ⟨i1, i2, i3, i4, i5⟩ := hx
  obtain ⟨C, h281, W, W9, W8, pl, P, KP, R⟩ := I.ge hN.2
  obtain ⟨p, g1, e1⟩ := asJ (X.1.2 (Int32.toNatClampNeg (x3 + 1)))
  obtain ⟨w, g2, e2⟩ := asJ (X.1.2 (Int32.toNatClampNeg (x3 + 2)))
  refine v290_823 ?_
  rw [e1, e2]
  refine ⟨rfl, i1, rfl, i2, ls0 C, ?_⟩
  obtain ⟨n, Rs, U, en, hn6, RO, ef, hf, ex, hx⟩ := I.ru
  refine m156 C P KP (by omega) R W (by omega) U g1 g2 (fun h1 F1 => ⟨_, rfl, rfl, i1, rfl, i2, ls256 (F1.C C), ?_⟩)
  have I1 := I.cl (F1)
  obtain ⟨C1, -, W1, -, -, -, -, -, -⟩ := I1.ge hN.2
  have s1 : aI h1 266 = aI h 266 := F1.a 266 (by unfold TAt TAh; omega)
  have f1 : fI h1 256 21 = fI h 256 21 := F1.f 256 21 (by unfold TAt TAh; omega)
  have f2 : fI h1 256 2 = n := (F1.f 256 2 (by unfold TAt TAh; omega)).trans en
  refine m280 C1 (by omega) W1 f1 f2 hn6 (fun g q0 q1 => (RO g q0 q1).fr F1 (fun c k z => by unfold TAt TAh at z; omega)) g1 g2 (fun h2 F2 t2 s2 => ?_)
  rw [s1]
  exact ⟨_, rfl, fun _ => K _ ((I1.rf F2 s2 (t2.trans f1.symm)).up (by omega)), fun z => absurd rfl z⟩
set_option maxRecDepth 100000 in
set_option maxHeartbeats 4000000 in
theorem v290_991 {X : Cst} {d : Nat} {a : Nat} {a1 : Nat} {a2 : Nat} {x3 : Int32} {h : AH} {Q : Post}
  (w : Ex X PG (d + 1) 290 18 [some (.retAddr a), some (.ref a1), some (.ref a2), some (.int (x3 + 6))] [] h Q) :
    Ex X PG (d + 1) 290 991 [some (.retAddr a), some (.ref a1), some (.ref a2), some (.int x3)] [] h Q := wpx_ok (cut := [18]) 2 d 290 991 _ _ _ _ w
theorem op991 : OpP 991 := by
  intro X d x3 h Q N hX hd hN hx I K
  exact v290_991 (K h (I.up (by omega)))
