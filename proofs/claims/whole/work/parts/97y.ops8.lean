/-! THE LAW, CALL BY CALL: castles and rules. -/
theorem LK.ap {h : AH} {pl rp : Nat} {iq : Int → Nat} {kp : Int → Int} {pl0 mk qu ln pq0 co ne be lp : Nat} (A : LK h pl rp iq kp pl0 mk qu ln pq0 co ne be lp) : (pl + 10 < rp ∨ rp + 10 < pl) ∧ (∀ x : Int, 0 ≤ x → x ≤ 3 → ¬ kp x = 0 → iq x + 10 < rp ∨ rp + 10 < iq x) ∧ (mk < rp ∨ rp + 10 < mk) ∧ (qu < rp ∨ rp + 10 < qu) ∧ (rp = 4 ∨ 281 ≤ rp) ∧ rp + 10 < hn h := by
  obtain ⟨b1, b2, b3, b4, b5, b6, b7⟩ := A
  obtain ⟨-, -, -, c4, c5⟩ := b3.2.1.2.2.2.1
  have r := b3.2.1.2.2.1
  have r2 := b3.2.2
  exact ⟨b2.2.2, fun x x0 x1 kk => (b4 x x0 x1 kk).2.2, c4, c5, by omega, b3.2.1.2.1⟩
theorem cIm.un {h : AH} {N n m : Int} {iq : Int → Nat} (A : cIm h N n iq) (l : n ≤ m) : cIm h N m iq := fun x x0 x1 => ⟨(A x x0 x1).1, fun kk => ⟨((A x x0 x1).2 kk).1, ((A x x0 x1).2 kk).2.1, ⟨((A x x0 x1).2 kk).2.2.1.1, ((A x x0 x1).2 kk).2.2.1.2.1, by have := ((A x x0 x1).2 kk).2.2.1.2.2; omega⟩, ((A x x0 x1).2 kk).2.2.2⟩⟩
/-- where castle() writes, in both -/
def TCs (rp c k : Nat) : Prop := T20 rp c k ∨ TCa c k
theorem TCs_b {rp c k : Nat} (z : TCs rp c k) : (c = 1) ∨ (rp ≤ c ∧ c ≤ rp + 10) ∨ (c = 3 ∧ k = 2) ∨ (64 ≤ c ∧ c ≤ 69) ∨ (c = 52 ∧ k = 4) ∨ (c = 0 ∧ k = 14) ∨ (c = 256 ∧ (k = 1 ∨ k = 8 ∨ k = 9 ∨ k = 10 ∨ k = 11 ∨ k = 12 ∨ k = 14 ∨ k = 27)) ∨ c = 262 ∨ c = 259 ∨ c = 266 := by
  unfold TCs T20 TCr TCa at z
  rcases z with z | z
  · rcases z with z | z | z | z | z
    · rcases z with z | z | z
      · exact Or.inl z.1
      · exact Or.inr (Or.inl z)
      · exact Or.inr (Or.inr (Or.inl z))
    · exact Or.inl z.1
    · exact Or.inr (Or.inr (Or.inr (Or.inl z)))
    · exact Or.inr (Or.inr (Or.inr (Or.inr (Or.inl z))))
    · exact Or.inr (Or.inr (Or.inr (Or.inr (Or.inr (Or.inl z)))))
  · rcases z with z | z | z | z
    · exact Or.inr (Or.inr (Or.inr (Or.inr (Or.inr (Or.inr (Or.inl z))))))
    · exact Or.inr (Or.inr (Or.inr (Or.inr (Or.inr (Or.inr (Or.inr (Or.inl z)))))))
    · exact Or.inr (Or.inr (Or.inr (Or.inr (Or.inr (Or.inr (Or.inr (Or.inr (Or.inl z.1))))))))
    · exact Or.inr (Or.inr (Or.inr (Or.inr (Or.inr (Or.inr (Or.inr (Or.inr (Or.inr z))))))))
/-- what castle() leaves: contents but the tape, the scene, the past -/
theorem cas_c {h g h2 : AH} {N n : Int} {pl rp n0 : Nat} {iq : Int → Nat} {pl0 mk qu ln pq0 co ne be lp : Nat} {Rs : Int → Ru} (a1 : LK h pl rp iq (aI h 280) pl0 mk qu ln pq0 co ne be lp) (F : Fr (fun c k => TCs rp c k ∨ n0 ≤ c) g h2) (hn0 : hn h ≤ n0) (a3 : cRl g n Rs) (a6 : cIm g N n iq) (a7 : cSe g mk qu ln) (e280 : aI g 280 = aI h 280) : cRl h2 n Rs ∧ cIm h2 N n iq ∧ cSe h2 mk qu ln ∧ aI h2 280 = aI h 280 ∧ aI h2 2 = aI g 2 ∧ aI h2 257 = aI g 257 ∧ fI h2 52 2 = fI g 52 2 ∧ fI h2 52 3 = fI g 52 3 ∧ fI h2 256 21 = fI g 256 21 ∧ fI h2 256 22 = fI g 256 22 ∧ fI h2 0 15 = fI g 0 15 := by
  obtain ⟨q1, q2, q3, q4, q5, q6⟩ := a1.ap
  have h281 := a1.1.2
  obtain ⟨m1, m2, -⟩ := a1.ms
  have l5 := a1.2.2.2.2.1.2.1
  have b : ∀ c k, (TCs rp c k ∨ n0 ≤ c) → (c = 1) ∨ (rp ≤ c ∧ c ≤ rp + 10) ∨ (c = 3 ∧ k = 2) ∨ (64 ≤ c ∧ c ≤ 69) ∨ (c = 52 ∧ k = 4) ∨ (c = 0 ∧ k = 14) ∨ (c = 256 ∧ (k = 1 ∨ k = 8 ∨ k = 9 ∨ k = 10 ∨ k = 11 ∨ k = 12 ∨ k = 14 ∨ k = 27)) ∨ c = 262 ∨ c = 259 ∨ c = 266 ∨ hn h ≤ c := fun c k z => by
    rcases z with z | z
    · rcases TCs_b z with y | y | y | y | y | y | y | y | y | y
      all_goals simp [y]
    · have : hn h ≤ c := Nat.le_trans hn0 z
      simp [this]
  have one : ∀ (c k : Nat), c < 281 → (c < 4 ∨ 14 < c) → ¬ c = 1 → ¬ (c = 3 ∧ k = 2) → (c < 64 ∨ 69 < c) → ¬ (c = 52 ∧ k = 4) → ¬ (c = 0 ∧ k = 14) → ¬ (c = 256 ∧ (k = 1 ∨ k = 8 ∨ k = 9 ∨ k = 10 ∨ k = 11 ∨ k = 12 ∨ k = 14 ∨ k = 27)) → ¬ c = 262 → ¬ c = 259 → ¬ c = 266 → ¬ (TCs rp c k ∨ n0 ≤ c) := by
    intro c k c1 c2 c3 c4 c5 c6 c7 c8 c9 c10 c11 z
    clear q1 q3 q4 m1 m2 F
    rcases b c k z with y | y | y | y | y | y | y | y | y | y | y <;> omega
  refine ⟨a3.fr F (fun c k z => ?_), a6.fr F (fun c k z => ?_), a7.fr F (fun c k z => ?_), (F.a 280 (fun k => one 280 k (by omega) (by omega) (by omega) (by omega) (by omega) (by omega) (by omega) (by omega) (by omega) (by omega) (by omega))).trans e280, F.a 2 (fun k => one 2 k (by omega) (by omega) (by omega) (by omega) (by omega) (by omega) (by omega) (by omega) (by omega) (by omega) (by omega)), F.a 257 (fun k => one 257 k (by omega) (by omega) (by omega) (by omega) (by omega) (by omega) (by omega) (by omega) (by omega) (by omega) (by omega)), F.f 52 2 (one 52 2 (by omega) (by omega) (by omega) (by omega) (by omega) (by omega) (by omega) (by omega) (by omega) (by omega) (by omega)), F.f 52 3 (one 52 3 (by omega) (by omega) (by omega) (by omega) (by omega) (by omega) (by omega) (by omega) (by omega) (by omega) (by omega)), F.f 256 21 (one 256 21 (by omega) (by omega) (by omega) (by omega) (by omega) (by omega) (by omega) (by omega) (by omega) (by omega) (by omega)), F.f 256 22 (one 256 22 (by omega) (by omega) (by omega) (by omega) (by omega) (by omega) (by omega) (by omega) (by omega) (by omega) (by omega)), F.f 0 15 (one 0 15 (by omega) (by omega) (by omega) (by omega) (by omega) (by omega) (by omega) (by omega) (by omega) (by omega) (by omega))⟩
  · clear q1 q3 q4 m1 m2 one
    rcases b c k z with y | y | y | y | y | y | y | y | y | y | y <;> omega
  · have yb := b c k z
    clear q1 q3 q4 m1 m2 one b z
    refine ⟨?_, ?_, fun x x0 x1 kk => ?_⟩
    · rcases yb with y | y | y | y | y | y | y | y | y | y | y <;> omega
    · rcases yb with y | y | y | y | y | y | y | y | y | y | y <;> omega
    · rw [e280] at kk
      have w := (a1.2.2.2.1 x x0 x1 kk).2.1.2.2.1
      have l := (a1.2.2.2.1 x x0 x1 kk).2.1.2.1
      have a := q2 x x0 x1 kk
      clear q2
      rcases yb with y | y | y | y | y | y | y | y | y | y | y <;> omega
  · have yb := b c k z
    clear q1 q2 one b z
    rcases yb with y | y | y | y | y | y | y | y | y | y | y <;> omega
def TCo (rp c k : Nat) : Prop := T20f rp c k ∨ TCf c k
theorem TCo_b {rp c k : Nat} (z : TCo rp c k) : (c = 1) ∨ (rp ≤ c ∧ c ≤ rp + 10) ∨ (c = 3 ∧ k = 2) ∨ (c = 256 ∧ (k = 1 ∨ k = 8 ∨ k = 9 ∨ k = 10 ∨ k = 11 ∨ k = 12 ∨ k = 14)) ∨ c = 262 ∨ c = 259 := by
  unfold TCo T20f TCr TCf at z
  rcases z with z | z
  · rcases z with z | z
    · rcases z with z | z | z
      · exact Or.inl z.1
      · exact Or.inr (Or.inl z)
      · exact Or.inr (Or.inr (Or.inl z))
    · exact Or.inl z.1
  · rcases z with z | z | z
    · exact Or.inr (Or.inr (Or.inr (Or.inl z)))
    · exact Or.inr (Or.inr (Or.inr (Or.inr (Or.inl z))))
    · exact Or.inr (Or.inr (Or.inr (Or.inr (Or.inr z.1))))
theorem apSP_new {mk qu co ne be pl n0 : Nat} (s : apS pl mk qu) (p : apP pl co ne be) (l5 : mk < n0 ∧ qu < n0) (l6 : co < n0 ∧ ne < n0 ∧ be < n0) : apS n0 mk qu ∧ apP n0 co ne be := ⟨⟨s.1, s.2.1, s.2.2.1, Or.inl l5.1, Or.inl l5.2⟩, ⟨p.1, p.2.1, p.2.2.1, p.2.2.2.1, Or.inl l6.1, Or.inl l6.2.1, Or.inl l6.2.2⟩⟩
set_option maxRecDepth 100000 in
set_option maxHeartbeats 4000000 in
theorem v290_250 {X : Cst} {d : Nat} {a : Nat} {a1 : Nat} {a2 : Nat} {x3 : Int32} {h : AH} {Q : Post}
  (w : hs h a1 = (0, 10) ∧ Ex X PG d 20 0 [some (.ref a1), none] [] h (fun v1 h2 => ∃ r3, v1 = some (.int r3) ∧
      hs h2 a2 = (0, 11) ∧ Ex X PG d 207 0 [some (.ref a2), none] [] h2 (fun v4 h5 => ∃ r6, v4 = some (.int r6) ∧
        ((r3 = r6 →
          Ex X PG (d + 1) 290 18 [some (.retAddr a), some (.ref a1), some (.ref a2), some (.int (x3 + 6))] [] h5 Q) ∧
        (¬ (r3 = r6) →
          ((0 : Int32) = 0 ∨ (0 : Int32) = 1) ∧ Q (some (.int 0)) h5))))) :
    Ex X PG (d + 1) 290 250 [some (.retAddr a), some (.ref a1), some (.ref a2), some (.int x3)] [] h Q := wpx_ok (cut := [18]) 7 d 290 250 _ _ _ _ w
set_option maxHeartbeats 4000000 in
theorem op250 : OpP 250 := by
  intro X d x3 h Q N hX hd hN hx I K
  obtain ⟨pl, rp, iq, pl0, mk, qu, ln, pq0, co, ne, be, lp, n, Rs, a1, a2, a3, a4, a5, a6, a7, a8⟩ := id I
  have C := a1.1.1
  have h281 := a1.1.2
  obtain ⟨t1, t2, t3, t4⟩ := id a2
  obtain ⟨q1, q2, q3, q4, q5, q6⟩ := a1.ap
  refine v290_250 ⟨ls0 C, ?_⟩
  refine m20 (U := aI h 262) C h281 a1.2.2.1.2.1.1 a1.2.2.1.1 hX (by omega) q5 q6 rfl rfl t4 rfl (fun e h1 X1 n1 z1 C1 K1 P1 P1' Kn G1 f11 f14 => ⟨_, rfl, ls256 C1, ?_⟩) (fun e h1 F1 f11 => ⟨_, rfl, ls256 (F1.C C), ?_⟩)
  · -- a castle
    have b262 : aI h1 262 = aI h 262 := X1.a 262 (by omega) (fun k z => by unfold T20 TCr at z; clear q1 q2 q3 q4; omega)
    have b257 : aI h1 257 = aI h 2 := (X1.a 257 (by omega) (fun k z => by unfold T20 TCr at z; clear q1 q2 q3 q4; omega)).trans t1
    have b1 : fI h1 256 1 = fI h 1 1 := (X1.f 256 1 (by omega) (fun z => by unfold T20 TCr at z; clear q1 q2 q3 q4; omega)).trans t3
    refine m207 C1 (by omega) t2 b257 b1 t4 (by rw [b262]) (fun _ h2 F2 fs u27 u1 => ⟨_, rfl, fun _ => K _ ?_, fun z => absurd rfl z⟩) (fun q => absurd e q)
    have F1' : Fr (fun c k => T20 rp c k ∨ hn h ≤ c) (ov h h1) h1 := X1.ov
    have F12 : Fr (fun c k => TCs rp c k ∨ hn h ≤ c) (ov h h1) h2 := (F1'.mo (fun c k z => by rcases z with z | z; exact Or.inl (Or.inl z); exact Or.inr z)).tr (F2.mo (fun c k z => Or.inl (Or.inr z)))
    obtain ⟨k3, k6, k7, k80, k2, k57, k522, k523, k21, k22, k15⟩ := cas_c a1 F12 (Nat.le_refl _) (show cRl (ov h h1) n Rs from a3) (show cIm (ov h h1) N n iq from a6) (show cSe (ov h h1) mk qu ln from a7) (show aI (ov h h1) 280 = aI h 280 from rfl)
    obtain ⟨CS1, W0⟩ := G1 _ fs
    have ta : ∀ c k, TCa c k → 256 ≤ c ∧ c ≤ 266 := fun c k z => by unfold TCa at z; omega
    have r : rp = 4 ∨ rp = 53 ∨ 281 ≤ rp := by clear q1 q2 q3 q4; omega
    obtain ⟨b1', b2, b3, b4, b5, b6, b7⟩ := a1
    have asp := apSP_new b2.2.1.2.2.2.1 b2.2.1.2.2.2.2 b5.2.1 b6.2.1
    have hr : ∀ c k, c < 281 → ¬ c = 3 → ¬ c = 52 → hR h1 c k = hR h c k := fun c k hc n3 n52 => X1.2.2.1 c k (by omega) (fun z => by unfold U20 at z; omega)
    have L1 : LK h1 rp (hn h) iq (aI h1 280) pl0 mk qu ln pq0 co ne be lp := by
      refine ⟨⟨C1, by omega⟩, ⟨P1, ⟨K1, by omega, r, b3.2.1.2.2.2⟩, Or.inl q6⟩, ⟨P1', ⟨Kn, by omega, Or.inr (Or.inr h281), asp⟩, by omega⟩, fun x x0 x1 kk => ?_, ⟨?_, ⟨by have := b5.2.1; omega, by have := b5.2.1; omega⟩, b5.2.2⟩, ⟨?_, ⟨by have := b6.2.1; omega, by have := b6.2.1; omega, by have := b6.2.1; omega⟩, b6.2.2⟩, b7⟩
      · have e80 : aI h1 280 = aI h 280 := X1.a 280 (by omega) (fun k z => by unfold T20 TCr at z; clear q1 q2 q3 q4; omega)
        rw [e80] at kk
        have b := b4 x x0 x1 kk
        exact ⟨by rw [hr _ 0 (by omega) (by omega) (by omega)]; exact b.1, b.2.1.gx X1 (fun k z => by have := b.2.1.2.2.1; unfold U20 at z; clear q1 q2 q3 q4; omega) b.2.1.2.2.2.1 b.2.1.2.2.2.2, Or.inl b.2.1.2.1⟩
      · obtain ⟨p1, p2, p3, p4, p5, p6⟩ := b5.1
        exact ⟨by rw [hr 247 0 (by decide) (by decide) (by decide)]; exact p1, by rw [hr 247 4 (by decide) (by decide) (by decide)]; exact p2, by rw [hr 247 5 (by decide) (by decide) (by decide)]; exact p3, by rw [X1.2.1 mk b5.2.1.1]; exact p4, by rw [X1.2.1 qu b5.2.1.2]; exact p5, p6⟩
      · obtain ⟨p1, p2, p3, p4, p5, p6, p7, p8⟩ := b6.1
        exact ⟨by rw [hr 250 0 (by decide) (by decide) (by decide)]; exact p1, by rw [hr 250 4 (by decide) (by decide) (by decide)]; exact p2, by rw [hr 250 5 (by decide) (by decide) (by decide)]; exact p3, by rw [hr 250 6 (by decide) (by decide) (by decide)]; exact p4, by rw [X1.2.1 co b6.2.1.1]; exact p5, by rw [X1.2.1 ne b6.2.1.2.1]; exact p6, by rw [X1.2.1 be b6.2.1.2.2]; exact p7, p8⟩
    have e80 : aI h2 280 = aI h1 280 := F2.a 280 (fun k z => by have := ta _ _ z; omega)
    refine ⟨rp, hn h, iq, pl0, mk, qu, ln, pq0, co, ne, be, lp, n, Rs, by rw [e80]; exact L1.sh F2.1, ⟨?_, ?_, ?_, ?_, ?_⟩, k3, ⟨?_, W0.up (by omega), ?_, ?_⟩, ?_, k6.up (by omega), k7, ?_⟩
    · rw [k57, k2]; exact t1
    · rw [k2]; exact t2
    · rw [u1, F2.f 1 1 (fun z => by have := ta _ _ z; omega), f11]
    · rw [F2.f 1 1 (fun z => by have := ta _ _ z; omega), f11]; omega
    · rw [F2.f 1 1 (fun z => by have := ta _ _ z; omega), f11]; omega
    · refine CS.frk CS1 F2 (fun c k z => by have := ta _ _ z; omega) (fun c k z => ?_)
      have := ta _ _ z
      clear q1 q2 q3 q4
      omega
    · rw [k522, k21]; exact a4.2.2.1
    · rw [k523, k22]; exact a4.2.2.2
    · obtain ⟨V, v1, v2⟩ := id a5
      refine ⟨V, ⟨by rw [u27, F2.f 0 14 (fun z => by have := ta _ _ z; omega)]; exact f14, by rw [u27]; omega, by rw [k15]; exact v1.2.2.1, fun j j0 j1 => by rw [u27] at j1; omega⟩, fun j j0 j1 => by rw [u27] at j1; omega⟩
    · have s := F2.1
      unfold Room at a8 ⊢
      rw [s.hn, s.hz, n1, z1]
      clear q1 q2 q3 q4
      omega
  · -- a fault
    have C1 := F1.C C
    have tf : ∀ c k, T20f rp c k → c = 1 ∨ (rp ≤ c ∧ c ≤ rp + 10) ∨ (c = 3 ∧ k = 2) := fun c k z => by unfold T20f TCr at z; clear q1 q2 q3 q4; omega
    have b262 : aI h1 262 = aI h 262 := F1.a 262 (fun k z => by have := tf _ _ z; clear q1 q2 q3 q4; omega)
    have b257 : aI h1 257 = aI h 2 := (F1.a 257 (fun k z => by have := tf _ _ z; clear q1 q2 q3 q4; omega)).trans t1
    have b1 : fI h1 256 1 = fI h 1 1 := (F1.f 256 1 (fun z => by have := tf _ _ z; clear q1 q2 q3 q4; omega)).trans t3
    refine m207 C1 (by omega) t2 b257 b1 t4 (by rw [b262]) (fun q => absurd q e) (fun _ h2 F2 u1 => ⟨_, rfl, fun _ => K _ ?_, fun z => absurd rfl z⟩)
    have F12 : Fr (TCo rp) h h2 := (F1.mo (fun c k z => Or.inl z)).tr (F2.mo (fun c k z => Or.inr z))
    have e280 : aI h2 280 = aI h 280 := F12.a 280 (fun k z => by have := TCo_b z; clear q1 q2 q3 q4; omega)
    have f11' : fI h2 1 1 = 0 := by rw [F2.f 1 1 (by unfold TCf; omega)]; exact f11
    have w := a1.2.1.2.1.2.2.1
    refine ⟨pl, rp, iq, pl0, mk, qu, ln, pq0, co, ne, be, lp, n, Rs, by rw [e280]; exact a1.sh F12.1, ⟨?_, ?_, by rw [u1, f11'], by rw [f11']; omega, by rw [f11']; omega⟩, a3.fr F12 (fun c k z => ?_), (a4.fr F12 (fun c k z => ?_)).up (by omega), (a5.fr F12 (fun c k z => ?_)).up (by omega), (a6.fr F12 (fun c k z => ?_)).up (by omega), a7.fr F12 (fun c k z => ?_), (a8.sh F12.1).up (by omega)⟩
    · rw [F12.a 257 (fun k z => by have := TCo_b z; clear q1 q2 q3 q4; omega), F12.a 2 (fun k z => by have := TCo_b z; clear q1 q2 q3 q4; omega)]; exact t1
    · rw [F12.a 2 (fun k z => by have := TCo_b z; clear q1 q2 q3 q4; omega)]; exact t2
    · have y := TCo_b z
      clear q1 q2 q3 q4 z
      rcases y with y | y | y | y | y | y <;> omega
    · have y := TCo_b z
      clear q2 q3 q4 z
      rcases y with y | y | y | y | y | y <;> omega
    · have y := TCo_b z
      clear q1 q2 q3 q4 z
      rcases y with y | y | y | y | y | y <;> omega
    · have y := TCo_b z
      clear q1 q3 q4 z
      refine ⟨?_, ?_, fun x x0 x1 kk => ?_⟩
      · rcases y with y | y | y | y | y | y <;> omega
      · rcases y with y | y | y | y | y | y <;> omega
      · have w2 := (a1.2.2.2.1 x x0 x1 kk).2.1.2.2.1
        have a := q2 x x0 x1 kk
        clear q2
        rcases y with y | y | y | y | y | y <;> omega
    · have y := TCo_b z
      obtain ⟨m1, m2, -⟩ := a1.ms
      clear q1 q2 z
      rcases y with y | y | y | y | y | y <;> omega
