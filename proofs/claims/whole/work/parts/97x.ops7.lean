/-! THE LAW, CALL BY CALL: images. -/
theorem WF.cg {N : Int} {S S' : Int → Int} (W : WF N S) (e : ∀ k : Int, 0 ≤ k → k < 123 → S' k = S k) : WF N S' := by
  have b := W.1
  unfold WFb at b
  have w := W.2.2.2.2.2.1
  unfold WFn at w
  refine W.nt (fun k k0 k1 _ => e k k0 k1) ?_
  unfold WFn
  rw [e 114 (by omega) (by omega), e 2 (by omega) (by omega), e 0 (by omega) (by omega)]
  refine ⟨w.1, w.2.1, fun k k0 k1 => ?_⟩
  rw [e _ (by omega) (by omega), e _ (by omega) (by omega), e _ (by omega) (by omega)]
  exact w.2.2 k k0 k1
theorem ScR.cg {N : Int} {h : AH} {o w n pl : Nat} {S S' : Int → Int} (A : ScR h o w n pl S) (W : WF N S) (e : ∀ k : Int, 0 ≤ k → k < 123 → S' k = S k) : ScR h o w n pl S' := by
  have b := W.1
  unfold WFb at b
  have wn' := W.2.2.2.2.2.1
  unfold WFn at wn'
  obtain ⟨c1, c2, c3, c4, c5⟩ := A
  refine ⟨c1, c2.stat W (Stat.nt (fun k k0 k1 _ => e k k0 k1) (by omega)), c3.eqv (by omega) (fun k k0 k1 => e k k0 (by omega)), by rw [e 114 (by omega) (by omega)]; exact c4, fun k k0 k1 => ?_⟩
  rw [e 114 (by omega) (by omega)] at k1
  rw [e _ (by omega) (by omega), e _ (by omega) (by omega), e _ (by omega) (by omega)]
  exact c5 k k0 k1
theorem Sc3_x {x : Int} (h : 0 ≤ x ∧ x ≤ 3) : Sc3 (74 + 10 * x.toNat) (75 + 10 * x.toNat) (81 + 10 * x.toNat) := by
  unfold Sc3
  omega
theorem PlA.wr {h : AH} {q mk qu co ne be o k : Nat} {v : Option Nat} (A : PlA h q mk qu co ne be) (n : ¬ q = o) : PlA (wR h o k v) q mk qu co ne be := by
  obtain ⟨a1, a2, a3⟩ := A
  refine ⟨?_, a2, a3⟩
  have e : ∀ j, hR (wR h o k v) q j = hR h q j := fun j => hR_wR_ne (fun z => n z.1)
  unfold PlanAt
  rw [e, e, e, e, e, e, e, e, e, e]
  exact a1
theorem SeaAt.wr {h : AH} {pl mk qu ln o : Nat} {v : Option Nat} (A : SeaAt h pl mk qu ln) (n : ¬ o = 247) : SeaAt (wR h o 0 v) pl mk qu ln := by
  obtain ⟨p1, p2, p3, p4, p5, p6⟩ := A
  exact ⟨by rw [hR_wR_ne (by omega)]; exact p1, by rw [hR_wR_ne (by omega)]; exact p2, by rw [hR_wR_ne (by omega)]; exact p3, p4, p5, p6⟩
theorem PriAt.wr {h : AH} {pl co ne be ln o : Nat} {v : Option Nat} (A : PriAt h pl co ne be ln) (n : ¬ o = 250) : PriAt (wR h o 0 v) pl co ne be ln := by
  obtain ⟨p1, p2, p3, p4, p5, p6, p7, p8⟩ := A
  exact ⟨by rw [hR_wR_ne (by omega)]; exact p1, by rw [hR_wR_ne (by omega)]; exact p2, by rw [hR_wR_ne (by omega)]; exact p3, by rw [hR_wR_ne (by omega)]; exact p4, p5, p6, p7, p8⟩
def iqU (iq : Int → Nat) (x : Int) (q : Nat) : Int → Nat := fun y => if y = x then q else iq y
theorem iqU_eq {iq : Int → Nat} {x y : Int} {q : Nat} (e : y = x) : iqU iq x q y = q := if_pos e
theorem iqU_ne {iq : Int → Nat} {x y : Int} {q : Nat} (e : ¬ y = x) : iqU iq x q y = iq y := if_neg e
/-- an image x is linked to the scene's plan -/
theorem LK.img {h : AH} {pl rp : Nat} {iq : Int → Nat} {kp kp' : Int → Int} {pl0 mk qu ln pq0 co ne be lp : Nat} (A : LK h pl rp iq kp pl0 mk qu ln pq0 co ne be lp) {x : Int} (hx : 0 ≤ x ∧ x ≤ 3) (ek : ∀ y : Int, 0 ≤ y → y ≤ 3 → ¬ y = x → kp' y = kp y) : LK (wR h (74 + 10 * x.toNat) 0 (some pl)) pl rp (iqU iq x pl) kp' pl0 mk qu ln pq0 co ne be lp := by
  obtain ⟨b1, b2, b3, b4, b5, b6, b7⟩ := A
  have pw : ∀ q, PlA h q mk qu co ne be → PlA (wR h (74 + 10 * x.toNat) 0 (some pl)) q mk qu co ne be := fun q Q => Q.wr (by have := Q.2.2.1; omega)
  refine ⟨⟨Lay_wSc b1.1 (Sc3_x hx), b1.2⟩, ⟨by rw [hR_wR_ne (by omega)]; exact b2.1, pw _ b2.2.1, b2.2.2⟩, ⟨by rw [hR_wR_ne (by omega)]; exact b3.1, pw _ b3.2.1, b3.2.2⟩, fun y y0 y1 kk => ?_, ⟨b5.1.wr (by omega), b5.2⟩, ⟨b6.1.wr (by omega), b6.2⟩, b7⟩
  by_cases q : y = x
  · rw [iqU_eq q, q]
    exact ⟨hR_wR_eq, pw _ b2.2.1, b2.2.2⟩
  · rw [iqU_ne q]
    rw [ek y y0 y1 q] at kk
    have b := b4 y y0 y1 kk
    exact ⟨by rw [hR_wR_ne (by omega)]; exact b.1, pw _ b.2.1, b.2.2⟩
/-- the scene is linked to the plan of image x -/
theorem LK.bck {h : AH} {pl rp : Nat} {iq : Int → Nat} {kp : Int → Int} {pl0 mk qu ln pq0 co ne be lp : Nat} (A : LK h pl rp iq kp pl0 mk qu ln pq0 co ne be lp) {x : Int} (hx : 0 ≤ x ∧ x ≤ 3) (kk : ¬ kp x = 0) : LK (wR h 52 0 (some (iq x))) (iq x) rp iq kp pl0 mk qu ln pq0 co ne be lp := by
  obtain ⟨b1, b2, b3, b4, b5, b6, b7⟩ := A
  have pw : ∀ q, PlA h q mk qu co ne be → PlA (wR h 52 0 (some (iq x))) q mk qu co ne be := fun q Q => Q.wr (by have := Q.2.2.1; omega)
  have b := b4 x hx.1 hx.2 kk
  refine ⟨⟨Lay_wSc b1.1 (w := 64) (n := 70) (Or.inl ⟨rfl, rfl, rfl⟩), b1.2⟩, ⟨hR_wR_eq, pw _ b.2.1, b.2.2⟩, ⟨by rw [hR_wR_ne (by omega)]; exact b3.1, pw _ b3.2.1, b3.2.2⟩, fun y y0 y1 kk => ?_, ⟨b5.1.wr (by omega), b5.2⟩, ⟨b6.1.wr (by omega), b6.2⟩, b7⟩
  have b := b4 y y0 y1 kk
  exact ⟨by rw [hR_wR_ne (by omega)]; exact b.1, pw _ b.2.1, b.2.2⟩
set_option maxRecDepth 100000 in
set_option maxHeartbeats 4000000 in
theorem v290_945 {X : Cst} {d : Nat} {a : Nat} {a1 : Nat} {a2 : Nat} {x3 : Int32} {h : AH} {Q : Post}
  (w : a = SCR ∧ ix (x3 + 1) X.1.1 ∧ hs h a1 = (0, 10) ∧ Ex X PG d 165 0 [some (.ref a1), some (.int (X.1.2 (Int32.toNatClampNeg (x3 + 1))))] [] h (fun v1 h2 => ∃ r3, v1 = some (.int r3) ∧
      a = SCR ∧ ix (x3 + 1) X.1.1 ∧ hs h2 a2 = (0, 11) ∧ Ex X PG d 288 0 [some (.ref a2), some (.int (X.1.2 (Int32.toNatClampNeg (x3 + 1)))), none] [] h2 (fun v4 h5 => ∃ r6, v4 = some (.int r6) ∧
        ((r3 = r6 →
          Ex X PG (d + 1) 290 18 [some (.retAddr a), some (.ref a1), some (.ref a2), some (.int (x3 + 6))] [] h5 Q) ∧
        (¬ (r3 = r6) →
          ((0 : Int32) = 0 ∨ (0 : Int32) = 1) ∧ Q (some (.int 0)) h5))))) :
    Ex X PG (d + 1) 290 945 [some (.retAddr a), some (.ref a1), some (.ref a2), some (.int x3)] [] h Q := wpx_ok (cut := [18]) 17 d 290 945 _ _ _ _ w
set_option maxHeartbeats 4000000 in
theorem op945 : OpP 945 := by
  intro X d x3 h Q N hX hd hN hx I K
  obtain ⟨i1, i2, i3, i4, i5⟩ := hx
  obtain ⟨pl, rp, iq, pl0, mk, qu, ln, pq0, co, ne, be, lp, n, Rs, a1, a2, a3, a4, a5, a6, a7, a8⟩ := id I
  have C := a1.1.1
  have P := a1.2.1.1
  have R := a4.1
  have W := a4.2.1
  have W9 : WF 999 (aI h 266) := W.up (by omega)
  obtain ⟨x, g1, e1⟩ := asJ (X.1.2 (Int32.toNatClampNeg (x3 + 1)))
  refine v290_945 ?_
  rw [e1]
  refine ⟨rfl, i1, ls0 C, ?_⟩
  refine m165 C P (by omega) R W9 g1 (fun no => ⟨_, rfl, rfl, i1, ls256 C, ?_⟩) (fun hx h1 F1 q2 q3 q5 R1 => ?_)
  · exact m288 C (by omega) g1 (fun _ => ⟨_, rfl, fun _ => K _ (I.up (by omega)), fun z => absurd rfl z⟩) (fun y => absurd y no)
  have Cw : Lay (wR h (74 + 10 * x.toNat) 0 (some pl)) := Lay_wSc C (Sc3_x hx)
  have C1 := F1.C Cw
  refine ⟨_, rfl, rfl, i1, ls256 C1, ?_⟩
  have tm : ∀ c k, TIm x c k → 74 + 10 * x.toNat ≤ c ∧ c ≤ 83 + 10 * x.toNat := fun c k z => by unfold TIm TSc at z; omega
  have s1 : aI h1 266 = aI h 266 := F1.a 266 (fun k z => by have := tm _ _ z; omega)
  have o21 : fI h1 256 21 = fI h 256 21 := F1.f 256 21 (fun z => by have := tm _ _ z; omega)
  have o22 : fI h1 256 22 = fI h 256 22 := F1.f 256 22 (fun z => by have := tm _ _ z; omega)
  have o77 : aI h1 277 = aI h 277 := F1.a 277 (fun k z => by have := tm _ _ z; omega)
  have o78 : aI h1 278 = aI h 278 := F1.a 278 (fun k z => by have := tm _ _ z; omega)
  have o79 : aI h1 279 = aI h 279 := F1.a 279 (fun k z => by have := tm _ _ z; omega)
  have o80 : aI h1 280 = aI h 280 := F1.a 280 (fun k z => by have := tm _ _ z; omega)
  refine m288 C1 (by omega) g1 (fun no => absurd hx no) (fun _ h2 F2 k80 k78 k79 k77 k77o => ?_)
  rw [s1] at k77 ⊢
  rw [o21, o78] at k78
  rw [o22, o79] at k79
  rw [o80] at k80
  rw [o77] at k77o
  refine ⟨_, rfl, fun _ => K _ ?_, fun z => absurd rfl z⟩
  have F12 : Fr (fun c k => (74 + 10 * x.toNat ≤ c ∧ c ≤ 83 + 10 * x.toNat) ∨ (277 ≤ c ∧ c ≤ 280)) (wR h (74 + 10 * x.toNat) 0 (some pl)) h2 := (F1.mo (fun c k z => Or.inl (tm c k z))).tr (F2.mo (fun c k z => Or.inr z))
  have ek : ∀ y : Int, 0 ≤ y → y ≤ 3 → ¬ y = x → aI h2 280 y = aI h 280 y := fun y y0 y1 ny => by rw [k80, uu_ne (by omega) (by omega) ny]
  have L2 := (a1.img hx ek).sh F12.1
  have np : ∀ c k, ((74 + 10 * x.toNat ≤ c ∧ c ≤ 83 + 10 * x.toNat) ∨ (277 ≤ c ∧ c ≤ 280)) → (c < pl ∨ pl + 10 < c) ∧ (∀ y : Int, 0 ≤ y → y ≤ 3 → ¬ aI h 280 y = 0 → c < iq y ∨ iq y + 10 < c) ∧ (¬ c = mk ∧ ¬ c = qu ∧ ¬ (c = 247 ∧ k = 6)) := fun c k z => a1.im (by unfold SmC; omega)
  have r1 : fI h 52 2 = fI h 256 21 := a4.2.2.1.1
  have r2 : fI h 52 3 = fI h 256 22 := a4.2.2.2.1
  refine ⟨pl, rp, _, pl0, mk, qu, ln, pq0, co, ne, be, lp, n, Rs, L2, cTp.fr (show cTp (wR h (74 + 10 * x.toNat) 0 (some pl)) from a2) F12 (fun c k z => by omega), cRl.fr (show cRl (wR h (74 + 10 * x.toNat) 0 (some pl)) n Rs from a3) F12 (fun c k z => by omega), (cSc.fr (show cSc (wR h (74 + 10 * x.toNat) 0 (some pl)) N n pl from a4) F12 (fun c k z => ⟨by omega, (np c k z).1, by omega, by omega⟩)).up (by omega), (cPa.fr (show cPa (wR h (74 + 10 * x.toNat) 0 (some pl)) N from a5) F12 (fun c k z => by omega)).up (by omega), ?_, cSe.fr (show cSe (wR h (74 + 10 * x.toNat) 0 (some pl)) mk qu ln from a7) F12 (fun c k z => (np c k z).2.2), (Room.sh (show Room (wR h (74 + 10 * x.toNat) 0 (some pl)) N ln lp from a8) F12.1).up (by omega)⟩
  intro y y0 y1
  by_cases q : y = x
  · rw [q]
    have f : ∀ k, fI h2 (74 + 10 * x.toNat) k = fI h1 (74 + 10 * x.toNat) k := fun k => F2.f _ k (by omega)
    have ei : ∀ k : Int, 0 ≤ k → k < 123 → imR h2 x k = aI h 266 k := fun k k0 k1 => k77 k k0 k1
    rw [f, f, f, q2, q3, q5, k80, k78, k79, uu_eq, uu_eq, uu_eq, iqU_eq rfl]
    refine ⟨rfl, fun _ => ⟨?_, (W.up (by omega)).cg ei, ⟨r1, a4.2.2.1.2⟩, r2, a4.2.2.2.2⟩⟩
    exact ScR.cg (R1.fr F2 (fun c k z => ⟨(np c k (Or.inr z)).1, by omega, by omega, by omega⟩)) W ei
  · have ty : ∀ (c k : Nat), ((74 + 10 * x.toNat ≤ c ∧ c ≤ 83 + 10 * x.toNat) ∨ (277 ≤ c ∧ c ≤ 280)) → c < 74 + 10 * y.toNat ∨ 83 + 10 * y.toNat < c := fun c k z => by omega
    have f : ∀ k, fI h2 (74 + 10 * y.toNat) k = fI h (74 + 10 * y.toNat) k := fun k => F12.f _ k (fun z => by have := ty (74 + 10 * y.toNat) k z; omega)
    have ei : ∀ k : Int, 0 ≤ k → k < 123 → imR h2 y k = imR h y k := fun k k0 k1 => k77o _ (by omega) (by omega) (by omega)
    have a := a6 y y0 y1
    rw [f, f, f, k80, k78, k79, uu_ne (by omega) (by omega) q, uu_ne (by omega) (by omega) q, uu_ne (by omega) (by omega) q, iqU_ne q]
    refine ⟨a.1, fun kk => ?_⟩
    obtain ⟨c1, c2, c3⟩ := a.2 kk
    refine ⟨?_, (c2.up (by omega)).cg ei, c3⟩
    exact ScR.cg (ScR.fr (show ScR (wR h (74 + 10 * x.toNat) 0 (some pl)) _ _ _ _ _ from c1) F12 (fun c k z => ⟨(np c k z).2.1 y y0 y1 kk, by have := ty c k z; omega, by have := ty c k z; omega, by have := ty c k z; omega⟩)) c2 ei
set_option maxRecDepth 100000 in
set_option maxHeartbeats 4000000 in
theorem v290_968 {X : Cst} {d : Nat} {a : Nat} {a1 : Nat} {a2 : Nat} {x3 : Int32} {h : AH} {Q : Post}
  (w : a = SCR ∧ ix (x3 + 1) X.1.1 ∧ hs h a1 = (0, 10) ∧ Ex X PG d 167 0 [some (.ref a1), some (.int (X.1.2 (Int32.toNatClampNeg (x3 + 1))))] [] h (fun v1 h2 => ∃ r3, v1 = some (.int r3) ∧
      a = SCR ∧ ix (x3 + 1) X.1.1 ∧ hs h2 a2 = (0, 11) ∧ Ex X PG d 289 0 [some (.ref a2), some (.int (X.1.2 (Int32.toNatClampNeg (x3 + 1)))), none] [] h2 (fun v4 h5 => ∃ r6, v4 = some (.int r6) ∧
        ((r3 = r6 →
          Ex X PG (d + 1) 290 18 [some (.retAddr a), some (.ref a1), some (.ref a2), some (.int (x3 + 6))] [] h5 Q) ∧
        (¬ (r3 = r6) →
          ((0 : Int32) = 0 ∨ (0 : Int32) = 1) ∧ Q (some (.int 0)) h5))))) :
    Ex X PG (d + 1) 290 968 [some (.retAddr a), some (.ref a1), some (.ref a2), some (.int x3)] [] h Q := wpx_ok (cut := [18]) 17 d 290 968 _ _ _ _ w
set_option maxHeartbeats 4000000 in
theorem op968 : OpP 968 := by
  intro X d x3 h Q N hX hd hN hx I K
  obtain ⟨i1, i2, i3, i4, i5⟩ := hx
  obtain ⟨pl, rp, iq, pl0, mk, qu, ln, pq0, co, ne, be, lp, n, Rs, a1, a2, a3, a4, a5, a6, a7, a8⟩ := id I
  have C := a1.1.1
  obtain ⟨x, g1, e1⟩ := asJ (X.1.2 (Int32.toNatClampNeg (x3 + 1)))
  refine v290_968 ?_
  rw [e1]
  refine ⟨rfl, i1, ls0 C, ?_⟩
  refine m167 (q := iq x) (S := imR h x) C (by omega) g1 (fun hx nz => ?_) (fun no => ⟨_, rfl, rfl, i1, ls256 C, ?_⟩) (fun hx h1 F1 q2 q3 q14 R1 => ?_)
  · have a := a6 x hx.1 hx.2
    rw [a.1] at nz
    obtain ⟨c1, c2, c3⟩ := a.2 nz
    have wb := c2.1
    unfold WFb at wb
    have wn' := c2.2.2.2.2.2.1
    unfold WFn at wn'
    exact ⟨(a1.2.2.2.1 x hx.1 hx.2 nz).1, c1, by omega, wn'.2.1⟩
  · exact m289 C (by omega) g1 (fun _ => ⟨_, rfl, fun _ => K _ (I.up (by omega)), fun z => absurd rfl z⟩) (fun y => absurd ⟨y.1, by rw [(a6 x y.1.1 y.1.2).1]; exact y.2⟩ no)
  obtain ⟨hx, nz⟩ := hx
  have a := a6 x hx.1 hx.2
  rw [a.1] at nz
  obtain ⟨c1, c2, c3, c4⟩ := a.2 nz
  have Lw := a1.bck hx nz
  have C1 := F1.C Lw.1.1
  refine ⟨_, rfl, rfl, i1, ls256 C1, ?_⟩
  have tb : ∀ c k, TBk c k → (c = 52 ∧ (k = 2 ∨ k = 3 ∨ k = 4)) ∨ (64 ≤ c ∧ c ≤ 72) ∨ (c = 0 ∧ k = 14) := fun c k z => by unfold TBk TSc at z; omega
  have s1 : aI h1 266 = aI h 266 := F1.a 266 (fun k z => by have := tb _ _ z; omega)
  have o77 : aI h1 277 = aI h 277 := F1.a 277 (fun k z => by have := tb _ _ z; omega)
  have o78 : aI h1 278 = aI h 278 := F1.a 278 (fun k z => by have := tb _ _ z; omega)
  have o79 : aI h1 279 = aI h 279 := F1.a 279 (fun k z => by have := tb _ _ z; omega)
  have o80 : aI h1 280 = aI h 280 := F1.a 280 (fun k z => by have := tb _ _ z; omega)
  refine m289 C1 (by omega) g1 (fun no => absurd ⟨hx, by rw [o80]; exact nz⟩ no) (fun _ h2 F2 k21 k22 k27 s2 => ?_)
  rw [o78] at k21
  rw [o79] at k22
  rw [o77, s1] at s2
  have ei : ∀ k : Int, 0 ≤ k → k < 123 → aI h2 266 k = imR h x k := fun k k0 k1 => by rw [s2, mix_lt (by omega) (by omega), shf_k (by omega)]; rfl
  rw [ei 3 (by omega) (by omega)]
  refine ⟨_, rfl, fun _ => K _ ?_, fun z => absurd rfl z⟩
  have F12 : Fr (fun c k => (c = 52 ∧ (k = 2 ∨ k = 3 ∨ k = 4)) ∨ (64 ≤ c ∧ c ≤ 72) ∨ (c = 0 ∧ k = 14) ∨ c = 266 ∨ (c = 256 ∧ (k = 21 ∨ k = 22 ∨ k = 27))) (wR h 52 0 (some (iq x))) h2 := (F1.mo (fun c k z => by have := tb _ _ z; omega)).tr (F2.mo (fun c k z => by omega))
  have e280 : aI h2 280 = aI h 280 := F12.a 280 (fun k z => by omega)
  have L2 : LK h2 (iq x) rp iq (aI h2 280) pl0 mk qu ln pq0 co ne be lp := by rw [e280]; exact Lw.sh F12.1
  have np : ∀ c k, ((c = 52 ∧ (k = 2 ∨ k = 3 ∨ k = 4)) ∨ (64 ≤ c ∧ c ≤ 72) ∨ (c = 0 ∧ k = 14) ∨ c = 266 ∨ (c = 256 ∧ (k = 21 ∨ k = 22 ∨ k = 27))) → (c < pl ∨ pl + 10 < c) ∧ (∀ y : Int, 0 ≤ y → y ≤ 3 → ¬ aI h 280 y = 0 → c < iq y ∨ iq y + 10 < c) ∧ (¬ c = mk ∧ ¬ c = qu ∧ ¬ (c = 247 ∧ k = 6)) := fun c k z => a1.im (by unfold SmC; omega)
  refine ⟨iq x, rp, iq, pl0, mk, qu, ln, pq0, co, ne, be, lp, n, Rs, L2, cTp.fr (show cTp (wR h 52 0 (some (iq x))) from a2) F12 (fun c k z => by omega), cRl.fr (show cRl (wR h 52 0 (some (iq x))) n Rs from a3) F12 (fun c k z => by omega), ⟨?_, (c2.up (by omega)).cg ei, ?_, ?_⟩, ?_, (cIm.fr (show cIm (wR h 52 0 (some (iq x))) N n iq from a6) F12 (fun c k z => ⟨by omega, by omega, (np c k z).2.1⟩)).up (by omega), cSe.fr (show cSe (wR h 52 0 (some (iq x))) mk qu ln from a7) F12 (fun c k z => (np c k z).2.2), (Room.sh (show Room (wR h 52 0 (some (iq x))) N ln lp from a8) F12.1).up (by omega)⟩
  · exact ScR.cg (h := h2) (o := 52) (w := 64) (n := 70) (ScR.fr (CS_iff.mp R1) F2 (fun c k z => ⟨(np c k (by omega)).2.1 x hx.1 hx.2 nz, by omega, by omega, by omega⟩)) c2 ei
  · rw [F2.f 52 2 (by omega), k21, q2, c3.1]
    exact ⟨rfl, c3.2⟩
  · rw [F2.f 52 3 (by omega), k22, q3, c4.1]
    exact ⟨rfl, c4.2⟩
  · obtain ⟨V, v1, v2⟩ := id a5
    refine ⟨V, ⟨by rw [k27, F2.f 0 14 (by omega)]; exact q14, by rw [k27]; omega, ?_, fun j j0 j1 => by rw [k27] at j1; omega⟩, fun j j0 j1 => by rw [k27] at j1; omega⟩
    rw [F12.f 0 15 (fun z => by omega)]
    exact v1.2.2.1
