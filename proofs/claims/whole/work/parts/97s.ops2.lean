/-! THE LAW, CALL BY CALL: searches and prices. -/
theorem least {P : Nat → Prop} (h : ∃ n, P n) : ∃ n, P n ∧ ∀ m, P m → n ≤ m := by
  have key : ∀ n, P n → ∃ m, P m ∧ ∀ k, P k → m ≤ k := by
    intro n
    induction n using Nat.strongRecOn with
    | ind n ih =>
      intro p
      by_cases c : ∃ m, m < n ∧ P m
      · obtain ⟨m, hm, pm⟩ := c
        exact ih m hm pm
      · exact ⟨n, p, fun k pk => Nat.le_of_not_lt (fun z => c ⟨k, z, pk⟩)⟩
  obtain ⟨n, p⟩ := h
  exact key n p
theorem IsD_ex (E : (Int → Int) → (Int → Int) → Prop) (G : (Int → Int) → Prop) (f : Int → Int) : ∃ v, IsD E G f v := by
  by_cases c : ∃ j, RK E G j f
  · obtain ⟨n, p, l⟩ := least c
    exact ⟨n, Or.inr ⟨by omega, by rw [Int.toNat_natCast]; exact p, fun j q => by have := l j q; omega⟩⟩
  · exact ⟨-1, Or.inl ⟨rfl, fun j q => c ⟨j, q⟩⟩⟩
theorem pgF_cg {V U : Int → Int} : ∀ n : Nat, (∀ r : Int, 0 ≤ r → r < n → V r = U r) → pgF V n = pgF U n := by
  intro n
  induction n with
  | zero => intro _; rfl
  | succ n ih =>
    intro e
    unfold pgF
    rw [ih (fun r r0 r1 => e r r0 (by omega)), e n (by omega) (by omega)]
theorem PlA.gx {T U : Nat → Nat → Prop} {h h' : AH} {q mk qu co ne be mk' qu' co' ne' be' : Nat} (A : PlA h q mk qu co ne be) (X : Gx T U h h') (u : ∀ k, ¬ U q k) (s : apS q mk' qu') (p : apP q co' ne' be') : PlA h' q mk' qu' co' ne' be' := ⟨A.1.gx X A.2.1 u, by have := X.1; have := A.2.1; omega, A.2.2.1, s, p⟩
/-- places that no content stands on, but the search's and the pricer's -/
def OkC (c k : Nat) : Prop := (¬ c = 2 ∧ ¬ c = 257 ∧ ¬ (c = 1 ∧ k = 1) ∧ ¬ (c = 256 ∧ k = 1)) ∧ (¬ (c = 0 ∧ k = 13) ∧ (16 ≤ c → c ≤ 51 → c = 20 ∨ c = 25 ∨ c = 30 ∨ c = 35 ∨ c = 40 ∨ c = 45 ∨ c = 51 ∨ c = 46) ∧ ¬ c = 258 ∧ ¬ c = 260 ∧ ¬ c = 261 ∧ ¬ (c = 256 ∧ k = 2)) ∧ ((c < 52 ∨ 72 < c) ∧ ¬ c = 266 ∧ ¬ (c = 256 ∧ (k = 21 ∨ k = 22))) ∧ ((c < 121 ∨ 240 < c) ∧ ¬ (c = 0 ∧ (k = 14 ∨ k = 15)) ∧ ¬ c = 270 ∧ ¬ c = 266 ∧ ¬ (c = 256 ∧ k = 27)) ∧ ((c < 74 ∨ 113 < c) ∧ (c < 277 ∨ 280 < c))
theorem OkC_b {c k : Nat} (b : (241 ≤ c ∧ c ≤ 255) ∨ 281 ≤ c) : OkC c k := by
  unfold OkC
  rcases b with b | b
  · exact ⟨by omega, by omega, by omega, by omega, by omega⟩
  · exact ⟨by omega, by omega, by omega, by omega, by omega⟩
theorem bSx {mk qu n0 c k : Nat} (m1 : mk = 248 ∨ 281 ≤ mk) (m2 : qu = 249 ∨ 281 ≤ qu) (hn0 : 281 ≤ n0) (z : TBx mk qu c k ∨ n0 ≤ c) : (241 ≤ c ∧ c ≤ 255) ∨ 281 ≤ c := by
  unfold TBx at z
  rcases z with z | z
  · rcases z with z | z | z
    · omega
    · omega
    · omega
  · omega
theorem bPx {co ne be n0 c k : Nat} (m1 : co = 251 ∨ 281 ≤ co) (m2 : ne = 252 ∨ 281 ≤ ne) (m3 : be = 253 ∨ 281 ≤ be) (hn0 : 281 ≤ n0) (z : TPx co ne be c k ∨ n0 ≤ c) : (241 ≤ c ∧ c ≤ 255) ∨ 281 ≤ c := by
  unfold TPx at z
  rcases z with z | z
  · rcases z with z | z | z | z | z
    · omega
    · omega
    · omega
    · omega
    · omega
  · omega
theorem apS_n {q mk qu n0 : Nat} (l : q + 10 < n0) (e1 : n0 ≤ mk) (e2 : n0 ≤ qu) (h : 281 ≤ n0) (ne : ¬ mk = qu) : apS q mk qu := ⟨Or.inr (by omega), Or.inr (by omega), ne, Or.inr (by omega), Or.inr (by omega)⟩
theorem apP_n {q co ne be n0 : Nat} (l : q + 10 < n0) (e1 : n0 ≤ co) (e2 : n0 ≤ ne) (e3 : n0 ≤ be) (h : 281 ≤ n0) (d : ¬ co = ne ∧ ¬ co = be ∧ ¬ ne = be) : apP q co ne be := ⟨Or.inr (by omega), Or.inr (by omega), Or.inr (by omega), d, Or.inr (by omega), Or.inr (by omega), Or.inr (by omega)⟩
theorem np_s {q mk qu n0 c k : Nat} (a : apS q mk qu) (l : q + 10 < n0) (w : q = 4 ∨ q = 53 ∨ 281 ≤ q) (z : TBx mk qu c k ∨ n0 ≤ c) : c < q ∨ q + 10 < c := by
  obtain ⟨-, -, -, a4, a5⟩ := a
  unfold TBx at z
  rcases z with z | z
  · rcases z with z | z | z
    · rw [z]; exact a4
    · rw [z]; exact a5
    · omega
  · omega
theorem np_p {q co ne be n0 c k : Nat} (a : apP q co ne be) (l : q + 10 < n0) (w : q = 4 ∨ q = 53 ∨ 281 ≤ q) (z : TPx co ne be c k ∨ n0 ≤ c) : c < q ∨ q + 10 < c := by
  obtain ⟨-, -, -, -, a4, a5, a6⟩ := a
  unfold TPx at z
  rcases z with z | z
  · rcases z with z | z | z | z | z
    · rw [z]; exact a4
    · rw [z]; exact a5
    · rw [z]; exact a6
    · omega
    · omega
  · omega
theorem djn_s {mk qu mk' qu' co ne be n0 : Nat} (b : Djn mk qu co ne be) (l : co < n0 ∧ ne < n0 ∧ be < n0) (c : (mk' = mk ∧ qu' = qu) ∨ (n0 ≤ mk' ∧ n0 ≤ qu')) : Djn mk' qu' co ne be := by
  rcases c with ⟨e1, e2⟩ | c
  · rw [e1, e2]; exact b
  · unfold Djn; omega
theorem djn_p {mk qu co ne be co' ne' be' n0 : Nat} (b : Djn mk qu co ne be) (l : mk < n0 ∧ qu < n0) (c : (co' = co ∧ ne' = ne ∧ be' = be) ∨ (n0 ≤ co' ∧ n0 ≤ ne' ∧ n0 ≤ be')) : Djn mk qu co' ne' be' := by
  rcases c with ⟨e1, e2, e3⟩ | c
  · rw [e1, e2, e3]; exact b
  · unfold Djn; omega
/-- contents over a heap that grew -/
theorem cont_g {T U : Nat → Nat → Prop} {h h' : AH} {N n : Int} {pl rp : Nat} {iq : Int → Nat} {pl0 mk qu ln pq0 co ne be lp : Nat} {Rs : Int → Ru} (X : Gx T U h h') (a1 : LK h pl rp iq (aI h 280) pl0 mk qu ln pq0 co ne be lp) (a2 : cTp h) (a3 : cRl h n Rs) (a4 : cSc h N n pl) (a5 : cPa h N) (a6 : cIm h N n iq)
    (b : ∀ c k, (T c k ∨ hn h ≤ c) → (241 ≤ c ∧ c ≤ 255) ∨ 281 ≤ c) (np : ∀ q, PlA h q mk qu co ne be → ∀ c k, (T c k ∨ hn h ≤ c) → c < q ∨ q + 10 < c) : cTp h' ∧ cRl h' n Rs ∧ cSc h' (N + 1) n pl ∧ cPa h' (N + 1) ∧ cIm h' (N + 1) n iq := by
  have F : Fr (fun c k => T c k ∨ hn h ≤ c) (ov h h') h' := X.ov
  refine ⟨?_, ?_, ?_, ?_, ?_⟩
  · exact cTp.fr (h := ov h h') (show cTp (ov h h') from a2) F (fun c k z => (OkC_b (b c k z)).1)
  · exact cRl.fr (h := ov h h') (show cRl (ov h h') n Rs from a3) F (fun c k z => (OkC_b (b c k z)).2.1)
  · have : cSc h' N n pl := cSc.fr (h := ov h h') (show cSc (ov h h') N n pl from a4) F (fun c k z => ⟨(OkC_b (k := k) (b c k z)).2.2.1.1, np _ a1.2.1.2.1 c k z, (OkC_b (b c k z)).2.2.1.2⟩)
    exact ⟨this.1, this.2.1.up (by omega), this.2.2⟩
  · have : cPa h' N := cPa.fr (h := ov h h') (show cPa (ov h h') N from a5) F (fun c k z => (OkC_b (b c k z)).2.2.2.1)
    obtain ⟨V, v1, v2⟩ := this
    exact ⟨V, v1, fun j j0 j1 => ⟨(v2 j j0 j1).1, (v2 j j0 j1).2.up (by omega)⟩⟩
  · have : cIm h' N n iq := cIm.fr (h := ov h h') (show cIm (ov h h') N n iq from a6) F (fun c k z => ⟨(OkC_b (k := k) (b c k z)).2.2.2.2.1, (OkC_b (k := k) (b c k z)).2.2.2.2.2, fun x x0 x1 kk => np _ (a1.2.2.2.1 x x0 x1 kk).2.1 c k z⟩)
    intro x x0 x1
    exact ⟨(this x x0 x1).1, fun kk => ⟨((this x x0 x1).2 kk).1, ((this x x0 x1).2 kk).2.1.up (by omega), ((this x x0 x1).2 kk).2.2⟩⟩
theorem Inv.sea {h h' : AH} {N : Int} {pl rp : Nat} {iq : Int → Nat} {pl0 mk qu ln pq0 co ne be lp : Nat} {n : Int} {Rs : Int → Ru} {mk' qu' ln' : Nat}
    (a1 : LK h pl rp iq (aI h 280) pl0 mk qu ln pq0 co ne be lp) (a2 : cTp h) (a3 : cRl h n Rs) (a4 : cSc h N n pl) (a5 : cPa h N) (a6 : cIm h N n iq) (a8 : Room h N ln lp) (R : PoR h h' pl mk qu ln (aI h 266) mk' qu' ln') : Inv h' (N + 1) := by
  obtain ⟨⟨m, X, ⟨g1, g2, g3⟩, c1, c2, c3, c4, c5, c6, c7, c8⟩, SR⟩ := R
  obtain ⟨m1, m2, -⟩ := a1.ms
  have h281 := a1.1.2
  have ap : ∀ q, PlA h q mk qu co ne be → apS q mk' qu' := fun q A => by
    rcases c7 with ⟨e1, e2⟩ | ⟨e1, e2⟩
    · rw [e1, e2]; exact A.2.2.2.1
    · exact apS_n A.2.1 e1 e2 h281 c3.2.2.1
  have nU : ∀ q, (q = 4 ∨ q = 53 ∨ 281 ≤ q) → ∀ k, ¬ UBg q k := fun q hq k z => by
    have z1 := z.1
    clear c7 m1 m2
    omega
  have pA : ∀ q, PlA h q mk qu co ne be → PlA h' q mk' qu' co ne be := fun q A => A.gx X (nU q A.2.2.1) (ap q A) A.2.2.2.2
  have hr : ∀ c k, c < 281 → ¬ c = 247 → hR h' c k = hR h c k := fun c k hc n7 => X.2.2.1 c k (Nat.lt_of_lt_of_le hc h281) (fun z => n7 z.1)
  have bb : ∀ c k, (TBx mk qu c k ∨ hn h ≤ c) → (241 ≤ c ∧ c ≤ 255) ∨ 281 ≤ c := fun c k z => bSx m1 m2 h281 z
  have np : ∀ q, PlA h q mk qu co ne be → ∀ c k, (TBx mk qu c k ∨ hn h ≤ c) → c < q ∨ q + 10 < c := fun q A c k z => np_s A.2.2.2.1 A.2.1 A.2.2.1 z
  have e280 : aI h' 280 = aI h 280 := X.a 280 (Nat.lt_of_lt_of_le (by decide) h281) (fun k z => by have := bb 280 k (Or.inl z); clear c7 m1 m2; omega)
  obtain ⟨k1, k2, k3, k4, k5⟩ := cont_g X a1 a2 a3 a4 a5 a6 bb np
  obtain ⟨b1, b2, b3, b4, b5, b6, b7⟩ := a1
  have l3 := b6.2.1
  refine ⟨pl, rp, iq, pl, mk', qu', ln', pq0, co, ne, be, lp, n, Rs, ⟨⟨g1, Nat.le_trans h281 X.1⟩, ⟨g3, pA _ b2.2.1, b2.2.2⟩, ⟨by rw [hr 3 1 (by decide) (by decide)]; exact b3.1, pA _ b3.2.1, b3.2.2⟩, fun x x0 x1 kk => ?_, ⟨c2, c4, c5⟩, ⟨?_, ⟨Nat.lt_of_lt_of_le l3.1 X.1, Nat.lt_of_lt_of_le l3.2.1 X.1, Nat.lt_of_lt_of_le l3.2.2 X.1⟩, b6.2.2⟩, djn_s b7 l3 c7⟩, k1, k2, k3, k4, k5, ⟨SR.2.2.2.1, SR.2.2.2.2.1, SR.2.2.2.2.2⟩, ?_⟩
  · rw [e280] at kk
    have b := b4 x x0 x1 kk
    exact ⟨by rw [hr _ 0 (by clear c7 m1 m2; omega) (by clear c7 m1 m2; omega)]; exact b.1, pA _ b.2.1, b.2.2⟩
  · obtain ⟨p1, p2, p3, p4, p5, p6, p7, p8⟩ := b6.1
    exact ⟨by rw [hr 250 0 (by decide) (by decide)]; exact p1, by rw [hr 250 4 (by decide) (by decide)]; exact p2, by rw [hr 250 5 (by decide) (by decide)]; exact p3, by rw [hr 250 6 (by decide) (by decide)]; exact p4, by rw [X.2.1 co l3.1]; exact p5, by rw [X.2.1 ne l3.2.1]; exact p6, by rw [X.2.1 be l3.2.2]; exact p7, p8⟩
  · clear c7 m1 m2 c3 ap
    unfold Room at *; omega
theorem Inv.pri {h h' : AH} {N : Int} {pl rp : Nat} {iq : Int → Nat} {pl0 mk qu ln pq0 co ne be lp : Nat} {n : Int} {Rs : Int → Ru} {co' ne' be' lp' : Nat}
    (a1 : LK h pl rp iq (aI h 280) pl0 mk qu ln pq0 co ne be lp) (a2 : cTp h) (a3 : cRl h n Rs) (a4 : cSc h N n pl) (a5 : cPa h N) (a6 : cIm h N n iq) (a7 : cSe h mk qu ln) (a8 : Room h N ln lp) (R : PoP h h' pl co ne be lp (aI h 266) co' ne' be' lp') : Inv h' (N + 1) := by
  obtain ⟨X, ⟨g1, g2, g3⟩, c1, SR, c3, c7, c8⟩ := R
  obtain ⟨s1, s2, -⟩ := a1.ms
  obtain ⟨m1, m2, m3, -⟩ := a1.2.1.2.1.2.2.2.2
  have h281 := a1.1.2
  have ap : ∀ q, PlA h q mk qu co ne be → apP q co' ne' be' := fun q A => by
    rcases c7 with ⟨e1, e2, e3⟩ | ⟨e1, e2, e3⟩
    · rw [e1, e2, e3]; exact A.2.2.2.2
    · exact apP_n A.2.1 e1 e2 e3 h281 c3.2.2.2.1
  have nU : ∀ q, (q = 4 ∨ q = 53 ∨ 281 ≤ q) → ∀ k, ¬ UPg q k := fun q hq k z => by
    have z1 := z.1
    clear c7 m1 m2 m3 s1 s2
    omega
  have pA : ∀ q, PlA h q mk qu co ne be → PlA h' q mk qu co' ne' be' := fun q A => A.gx X (nU q A.2.2.1) A.2.2.2.1 (ap q A)
  have hr : ∀ c k, c < 281 → ¬ c = 250 → hR h' c k = hR h c k := fun c k hc n7 => X.2.2.1 c k (Nat.lt_of_lt_of_le hc h281) (fun z => n7 z.1)
  have bb : ∀ c k, (TPx co ne be c k ∨ hn h ≤ c) → (241 ≤ c ∧ c ≤ 255) ∨ 281 ≤ c := fun c k z => bPx m1 m2 m3 h281 z
  have np : ∀ q, PlA h q mk qu co ne be → ∀ c k, (TPx co ne be c k ∨ hn h ≤ c) → c < q ∨ q + 10 < c := fun q A c k z => np_p A.2.2.2.2 A.2.1 A.2.2.1 z
  have e280 : aI h' 280 = aI h 280 := X.a 280 (Nat.lt_of_lt_of_le (by decide) h281) (fun k z => by have := bb 280 k (Or.inl z); clear c7 m1 m2 m3 s1 s2; omega)
  obtain ⟨k1, k2, k3, k4, k5⟩ := cont_g X a1 a2 a3 a4 a5 a6 bb np
  have F : Fr (fun c k => TPx co ne be c k ∨ hn h ≤ c) (ov h h') h' := X.ov
  obtain ⟨b1, b2, b3, b4, b5, b6, b7⟩ := a1
  have l5 := b5.2.1
  refine ⟨pl, rp, iq, pl0, mk, qu, ln, pl, co', ne', be', lp', n, Rs, ⟨⟨g1, Nat.le_trans h281 X.1⟩, ⟨g3, pA _ b2.2.1, b2.2.2⟩, ⟨by rw [hr 3 1 (by decide) (by decide)]; exact b3.1, pA _ b3.2.1, b3.2.2⟩, fun x x0 x1 kk => ?_, ⟨?_, ⟨Nat.lt_of_lt_of_le l5.1 X.1, Nat.lt_of_lt_of_le l5.2 X.1⟩, b5.2.2⟩, ⟨SR.1, SR.2.1.2.2.2.2, SR.2.2⟩, djn_p b7 l5 c7⟩, k1, k2, k3, k4, k5, ?_, ?_⟩
  · rw [e280] at kk
    have b := b4 x x0 x1 kk
    exact ⟨by rw [hr _ 0 (by clear c7 m1 m2 m3 s1 s2; omega) (by clear c7 m1 m2 m3 s1 s2; omega)]; exact b.1, pA _ b.2.1, b.2.2⟩
  · obtain ⟨p1, p2, p3, p4, p5, p6⟩ := b5.1
    exact ⟨by rw [hr 247 0 (by decide) (by decide)]; exact p1, by rw [hr 247 4 (by decide) (by decide)]; exact p2, by rw [hr 247 5 (by decide) (by decide)]; exact p3, by rw [X.2.1 mk l5.1]; exact p4, by rw [X.2.1 qu l5.2]; exact p5, p6⟩
  · obtain ⟨d1, d2, d3, d4, d5, d6⟩ := b7
    refine cSe.fr (h := ov h h') (show cSe (ov h h') mk qu ln from a7) F (fun c k z => ?_)
    clear c7 ap pA np bb k3 k4 k5 b2 b3 b4
    unfold TPx at z
    rcases z with z | z
    · rcases z with z | z | z | z | z
      · exact ⟨fun q => d1 (q.symm.trans z), fun q => d4 (q.symm.trans z), by omega⟩
      · exact ⟨fun q => d2 (q.symm.trans z), fun q => d5 (q.symm.trans z), by omega⟩
      · exact ⟨fun q => d3 (q.symm.trans z), fun q => d6 (q.symm.trans z), by omega⟩
      · omega
      · omega
    · omega
  · clear c7 m1 m2 m3 s1 s2 c3 ap
    unfold Room at *; omega
theorem LK.sr {h : AH} {pl rp : Nat} {iq : Int → Nat} {kp : Int → Int} {pl0 mk qu ln pq0 co ne be lp : Nat} (A : LK h pl rp iq kp pl0 mk qu ln pq0 co ne be lp) (B : cSe h mk qu ln) : SeaR h pl0 mk qu ln ∧ PriR h pq0 co ne be lp ∧ apS pl mk qu ∧ apP pl co ne be ∧ pl + 10 < hn h := by
  have ms := A.ms
  have p := A.2.1.2.1.2.2.2.2
  have q := p
  unfold apP at q
  exact ⟨⟨A.2.2.2.2.1.1, ⟨ms.1, ms.2.1, ms.2.2, A.2.2.2.2.1.2.1⟩, A.2.2.2.2.1.2.2, B⟩, ⟨A.2.2.2.2.2.1.1, ⟨q.1, q.2.1, q.2.2.1, q.2.2.2.1, A.2.2.2.2.2.1.2.1⟩, A.2.2.2.2.2.1.2.2⟩, A.2.1.2.1.2.2.2.1, p, A.2.1.2.1.2.1⟩
theorem anCaught_no {S : Int → Int} {w : Int} (no : ¬ (0 < S 0 ∧ (0 ≤ w ∧ w ≤ 1))) : anCaught S w = -1 := by
  unfold anCaught
  rw [if_neg no]
set_option maxRecDepth 100000 in
set_option maxHeartbeats 4000000 in
theorem v290_556 {X : Cst} {d : Nat} {a : Nat} {a1 : Nat} {a2 : Nat} {x3 : Int32} {h : AH} {Q : Post}
  (w : a = SCR ∧ ix (x3 + 1) X.1.1 ∧ hs h a1 = (0, 10) ∧ Ex X PG d 111 0 [some (.ref a1), some (.int (X.1.2 (Int32.toNatClampNeg (x3 + 1))))] [] h (fun v1 h2 => ∃ r3, v1 = some (.int r3) ∧
      a = SCR ∧ ix (x3 + 1) X.1.1 ∧ hs h2 a2 = (0, 11) ∧ Ex X PG d 254 0 [some (.ref a2), some (.int (X.1.2 (Int32.toNatClampNeg (x3 + 1)))), none] [] h2 (fun v4 h5 => ∃ r6, v4 = some (.int r6) ∧
        ((r3 = r6 →
          Ex X PG (d + 1) 290 18 [some (.retAddr a), some (.ref a1), some (.ref a2), some (.int (x3 + 6))] [] h5 Q) ∧
        (¬ (r3 = r6) →
          ((0 : Int32) = 0 ∨ (0 : Int32) = 1) ∧ Q (some (.int 0)) h5))))) :
    Ex X PG (d + 1) 290 556 [some (.retAddr a), some (.ref a1), some (.ref a2), some (.int x3)] [] h Q := wpx_ok (cut := [18]) 17 d 290 556 _ _ _ _ w
theorem op556 : OpP 556 := by
  intro X d x3 h Q N hX hd hN hx I K
  obtain ⟨i1, i2, i3, i4, i5⟩ := hx
  obtain ⟨pl, rp, iq, pl0, mk, qu, ln, pq0, co, ne, be, lp, n, Rs, a1, a2, a3, a4, a5, a6, a7, a8⟩ := id I
  obtain ⟨sr, prr, aps, app, hpl⟩ := a1.sr a7
  have C := a1.1.1
  have h281 := a1.1.2
  have P := a1.2.1.1
  have KP := a1.2.1.2.1.1
  have R := a4.1
  have W := a4.2.1
  obtain ⟨p, g1, e1⟩ := asJ (X.1.2 (Int32.toNatClampNeg (x3 + 1)))
  refine v290_556 ?_
  rw [e1]
  refine ⟨rfl, i1, ls0 C, ?_⟩
  refine m111 C P KP h281 hpl (by omega) R W (by omega) sr aps g1 (fun no => ⟨_, rfl, rfl, i1, ls256 C, ?_⟩) (fun yes h1 mk1 qu1 ln1 v po D => ⟨_, rfl, rfl, i1, ls256 po.1.choose_spec.2.1.1, ?_⟩)
  · exact m254 C (by omega) rfl W (by omega) g1 (fun _ => ⟨_, rfl, fun _ => K _ (I.up (by omega)), fun z => absurd rfl z⟩) (fun y => absurd y no)
  · have I1 : Inv h1 (N + 1) := Inv.sea a1 a2 a3 a4 a5 a6 a8 po
    have C1 := po.1.choose_spec.2.1.1
    have s1 : aI h1 266 = aI h 266 := po.1.choose_spec.1.a 266 (by omega) (fun k z => by have := a1.ms; unfold TBx at z; omega)
    have W1 : WF N (aI h1 266) := by rw [s1]; exact W
    refine m254 C1 (by omega) s1 W (by omega) g1 (fun no => absurd yes no) (fun _ h2 u F2 D2 => ?_)
    rw [D.uniq D2]
    exact ⟨_, rfl, fun _ => K _ (I1.r0 F2), fun z => absurd rfl z⟩
set_option maxRecDepth 100000 in
set_option maxHeartbeats 4000000 in
theorem v290_701 {X : Cst} {d : Nat} {a : Nat} {a1 : Nat} {a2 : Nat} {x3 : Int32} {h : AH} {Q : Post}
  (w : a = SCR ∧ ix (x3 + 1) X.1.1 ∧ a = SCR ∧ ix (x3 + 2) X.1.1 ∧ hs h a1 = (0, 10) ∧ Ex X PG d 147 0 [some (.ref a1), some (.int (X.1.2 (Int32.toNatClampNeg (x3 + 1)))), some (.int (X.1.2 (Int32.toNatClampNeg (x3 + 2))))] [] h (fun v1 h2 => ∃ r3, v1 = some (.int r3) ∧
      a = SCR ∧ ix (x3 + 1) X.1.1 ∧ a = SCR ∧ ix (x3 + 2) X.1.1 ∧ hs h2 a2 = (0, 11) ∧ Ex X PG d 272 0 [some (.ref a2), some (.int (X.1.2 (Int32.toNatClampNeg (x3 + 1)))), some (.int (X.1.2 (Int32.toNatClampNeg (x3 + 2)))), none] [] h2 (fun v4 h5 => ∃ r6, v4 = some (.int r6) ∧
        ((r3 = r6 →
          Ex X PG (d + 1) 290 18 [some (.retAddr a), some (.ref a1), some (.ref a2), some (.int (x3 + 6))] [] h5 Q) ∧
        (¬ (r3 = r6) →
          ((0 : Int32) = 0 ∨ (0 : Int32) = 1) ∧ Q (some (.int 0)) h5))))) :
    Ex X PG (d + 1) 290 701 [some (.retAddr a), some (.ref a1), some (.ref a2), some (.int x3)] [] h Q := wpx_ok (cut := [18]) 27 d 290 701 _ _ _ _ w
theorem op701 : OpP 701 := by
  intro X d x3 h Q N hX hd hN hx I K
  obtain ⟨i1, i2, i3, i4, i5⟩ := hx
  obtain ⟨pl, rp, iq, pl0, mk, qu, ln, pq0, co, ne, be, lp, n, Rs, a1, a2, a3, a4, a5, a6, a7, a8⟩ := id I
  obtain ⟨sr, prr, aps, app, hpl⟩ := a1.sr a7
  have C := a1.1.1
  have h281 := a1.1.2
  have P := a1.2.1.1
  have KP := a1.2.1.2.1.1
  have R := a4.1
  have W := a4.2.1
  obtain ⟨p, g1, e1⟩ := asJ (X.1.2 (Int32.toNatClampNeg (x3 + 1)))
  obtain ⟨w, g2, e2⟩ := asJ (X.1.2 (Int32.toNatClampNeg (x3 + 2)))
  refine v290_701 ?_
  rw [e1, e2]
  refine ⟨rfl, i1, rfl, i2, ls0 C, ?_⟩
  refine m147 C P KP h281 hpl (by omega) R W (by omega) sr aps g1 g2 (fun no => ⟨_, rfl, rfl, i1, rfl, i2, ls256 C, ?_⟩) (fun yes h1 mk1 qu1 ln1 v po D => ⟨_, rfl, rfl, i1, rfl, i2, ls256 po.1.choose_spec.2.1.1, ?_⟩)
  · exact m272 C (by omega) rfl W (by omega) g1 g2 (fun _ => ⟨_, rfl, fun _ => K _ (I.up (by omega)), fun z => absurd rfl z⟩) (fun y => absurd y no)
  · have I1 : Inv h1 (N + 1) := Inv.sea a1 a2 a3 a4 a5 a6 a8 po
    have C1 := po.1.choose_spec.2.1.1
    have s1 : aI h1 266 = aI h 266 := po.1.choose_spec.1.a 266 (by omega) (fun k z => by have := a1.ms; unfold TBx at z; omega)
    have W1 : WF N (aI h1 266) := by rw [s1]; exact W
    refine m272 C1 (by omega) s1 W (by omega) g1 g2 (fun no => absurd yes no) (fun _ h2 u F2 D2 => ?_)
    rw [D.uniq D2]
    exact ⟨_, rfl, fun _ => K _ (I1.r0 F2), fun z => absurd rfl z⟩
set_option maxRecDepth 100000 in
set_option maxHeartbeats 4000000 in
theorem v290_622 {X : Cst} {d : Nat} {a : Nat} {a1 : Nat} {a2 : Nat} {x3 : Int32} {h : AH} {Q : Post}
  (w : a = SCR ∧ ix (x3 + 1) X.1.1 ∧ hs h a1 = (0, 10) ∧ Ex X PG d 138 0 [some (.ref a1), some (.int (X.1.2 (Int32.toNatClampNeg (x3 + 1)))), none, none, none, none, none] [] h (fun v1 h2 => ∃ r3, v1 = some (.int r3) ∧
      a = SCR ∧ ix (x3 + 1) X.1.1 ∧ hs h2 a2 = (0, 11) ∧ Ex X PG d 268 0 [some (.ref a2), some (.int (X.1.2 (Int32.toNatClampNeg (x3 + 1)))), none, none, none, none] [] h2 (fun v4 h5 => ∃ r6, v4 = some (.int r6) ∧
        ((r3 = r6 →
          Ex X PG (d + 1) 290 18 [some (.retAddr a), some (.ref a1), some (.ref a2), some (.int (x3 + 6))] [] h5 Q) ∧
        (¬ (r3 = r6) →
          ((0 : Int32) = 0 ∨ (0 : Int32) = 1) ∧ Q (some (.int 0)) h5))))) :
    Ex X PG (d + 1) 290 622 [some (.retAddr a), some (.ref a1), some (.ref a2), some (.int x3)] [] h Q := wpx_ok (cut := [18]) 17 d 290 622 _ _ _ _ w
theorem op622 : OpP 622 := by
  intro X d x3 h Q N hX hd hN hx I K
  obtain ⟨i1, i2, i3, i4, i5⟩ := hx
  obtain ⟨pl, rp, iq, pl0, mk, qu, ln, pq0, co, ne, be, lp, n, Rs, a1, a2, a3, a4, a5, a6, a7, a8⟩ := id I
  obtain ⟨sr, prr, aps, app, hpl⟩ := a1.sr a7
  have C := a1.1.1
  have h281 := a1.1.2
  have P := a1.2.1.1
  have KP := a1.2.1.2.1.1
  have R := a4.1
  have W := a4.2.1
  obtain ⟨p, g1, e1⟩ := asJ (X.1.2 (Int32.toNatClampNeg (x3 + 1)))
  refine v290_622 ?_
  rw [e1]
  refine ⟨rfl, i1, ls0 C, ?_⟩
  refine m138 C P KP h281 hpl (by omega) R W (by omega) sr aps g1 (fun no => ⟨_, rfl, rfl, i1, ls256 C, ?_⟩) (fun yes h1 mk1 qu1 ln1 po => ⟨_, rfl, rfl, i1, ls256 po.1.choose_spec.2.1.1, ?_⟩)
  · refine m268 C (by omega) rfl W (by omega) g1 (fun h2 F2 => ?_)
    rw [anCaught_no no]
    exact ⟨_, rfl, fun _ => K _ ((I.r0 F2).up (by omega)), fun z => absurd rfl z⟩
  · have I1 : Inv h1 (N + 1) := Inv.sea a1 a2 a3 a4 a5 a6 a8 po
    have C1 := po.1.choose_spec.2.1.1
    have s1 : aI h1 266 = aI h 266 := po.1.choose_spec.1.a 266 (by omega) (fun k z => by have := a1.ms; unfold TBx at z; omega)
    have W1 : WF N (aI h1 266) := by rw [s1]; exact W
    exact m268 C1 (by omega) s1 W (by omega) g1 (fun h2 F2 => ⟨_, rfl, fun _ => K _ (I1.r0 F2), fun z => absurd rfl z⟩)
set_option maxRecDepth 100000 in
set_option maxHeartbeats 4000000 in
theorem v290_678 {X : Cst} {d : Nat} {a : Nat} {a1 : Nat} {a2 : Nat} {x3 : Int32} {h : AH} {Q : Post}
  (w : a = SCR ∧ ix (x3 + 1) X.1.1 ∧ hs h a1 = (0, 10) ∧ Ex X PG d 143 0 [some (.ref a1), some (.int (X.1.2 (Int32.toNatClampNeg (x3 + 1))))] [] h (fun v1 h2 => ∃ r3, v1 = some (.int r3) ∧
      a = SCR ∧ ix (x3 + 1) X.1.1 ∧ hs h2 a2 = (0, 11) ∧ Ex X PG d 270 0 [some (.ref a2), some (.int (X.1.2 (Int32.toNatClampNeg (x3 + 1)))), none, none, none] [] h2 (fun v4 h5 => ∃ r6, v4 = some (.int r6) ∧
        ((r3 = r6 →
          Ex X PG (d + 1) 290 18 [some (.retAddr a), some (.ref a1), some (.ref a2), some (.int (x3 + 6))] [] h5 Q) ∧
        (¬ (r3 = r6) →
          ((0 : Int32) = 0 ∨ (0 : Int32) = 1) ∧ Q (some (.int 0)) h5))))) :
    Ex X PG (d + 1) 290 678 [some (.retAddr a), some (.ref a1), some (.ref a2), some (.int x3)] [] h Q := wpx_ok (cut := [18]) 17 d 290 678 _ _ _ _ w
theorem op678 : OpP 678 := by
  intro X d x3 h Q N hX hd hN hx I K
  obtain ⟨i1, i2, i3, i4, i5⟩ := hx
  obtain ⟨pl, rp, iq, pl0, mk, qu, ln, pq0, co, ne, be, lp, n, Rs, a1, a2, a3, a4, a5, a6, a7, a8⟩ := id I
  obtain ⟨sr, prr, aps, app, hpl⟩ := a1.sr a7
  have C := a1.1.1
  have h281 := a1.1.2
  have P := a1.2.1.1
  have KP := a1.2.1.2.1.1
  have R := a4.1
  have W := a4.2.1
  obtain ⟨p, g1, e1⟩ := asJ (X.1.2 (Int32.toNatClampNeg (x3 + 1)))
  refine v290_678 ?_
  rw [e1]
  refine ⟨rfl, i1, ls0 C, ?_⟩
  refine m143 C P KP h281 hpl (by omega) R W (by omega) prr app g1 (fun no => ⟨_, rfl, rfl, i1, ls256 C, ?_⟩) (fun yes h1 co1 ne1 be1 lp1 v po D => ⟨_, rfl, rfl, i1, ls256 po.2.1.1, ?_⟩)
  · exact m270 C (by omega) rfl W (by omega) g1 (fun _ => ⟨_, rfl, fun _ => K _ (I.up (by omega)), fun z => absurd rfl z⟩) (fun y => absurd y no)
  · have I1 : Inv h1 (N + 1) := Inv.pri a1 a2 a3 a4 a5 a6 a7 a8 po
    have C1 := po.2.1.1
    have s1 : aI h1 266 = aI h 266 := po.1.a 266 (by omega) (fun k z => by have q := app; unfold apP at q; unfold TPx at z; omega)
    refine m270 C1 (by omega) s1 W (by omega) g1 (fun no => absurd yes no) (fun _ h2 u F2 D2 => ?_)
    rw [D.uniq D2]
    exact ⟨_, rfl, fun _ => K _ (I1.r0 F2), fun z => absurd rfl z⟩
set_option maxRecDepth 100000 in
set_option maxHeartbeats 4000000 in
theorem v290_645 {X : Cst} {d : Nat} {a : Nat} {a1 : Nat} {a2 : Nat} {x3 : Int32} {h : AH} {Q : Post}
  (w : a = SCR ∧ ix (x3 + 1) X.1.1 ∧ a = SCR ∧ ix (x3 + 2) X.1.1 ∧ hs h a1 = (0, 10) ∧ Ex X PG d 141 0 [some (.ref a1), some (.int (X.1.2 (Int32.toNatClampNeg (x3 + 1)))), some (.int (X.1.2 (Int32.toNatClampNeg (x3 + 2)))), none, none, none] [] h (fun v1 h2 => ∃ r3, v1 = some (.int r3) ∧
      a = SCR ∧ ix (x3 + 1) X.1.1 ∧ a = SCR ∧ ix (x3 + 2) X.1.1 ∧ hs h2 a2 = (0, 11) ∧ Ex X PG d 269 0 [some (.ref a2), some (.int (X.1.2 (Int32.toNatClampNeg (x3 + 1)))), some (.int (X.1.2 (Int32.toNatClampNeg (x3 + 2)))), none, none, none, none] [] h2 (fun v4 h5 => ∃ r6, v4 = some (.int r6) ∧
        ((r3 = r6 →
          Ex X PG (d + 1) 290 18 [some (.retAddr a), some (.ref a1), some (.ref a2), some (.int (x3 + 6))] [] h5 Q) ∧
        (¬ (r3 = r6) →
          ((0 : Int32) = 0 ∨ (0 : Int32) = 1) ∧ Q (some (.int 0)) h5))))) :
    Ex X PG (d + 1) 290 645 [some (.retAddr a), some (.ref a1), some (.ref a2), some (.int x3)] [] h Q := wpx_ok (cut := [18]) 27 d 290 645 _ _ _ _ w
theorem op645 : OpP 645 := by
  intro X d x3 h Q N hX hd hN hx I K
  obtain ⟨i1, i2, i3, i4, i5⟩ := hx
  obtain ⟨pl, rp, iq, pl0, mk, qu, ln, pq0, co, ne, be, lp, n, Rs, a1, a2, a3, a4, a5, a6, a7, a8⟩ := id I
  obtain ⟨sr, prr, aps, app, hpl⟩ := a1.sr a7
  have C := a1.1.1
  have h281 := a1.1.2
  have P := a1.2.1.1
  have KP := a1.2.1.2.1.1
  have R := a4.1
  have W := a4.2.1
  obtain ⟨p, g1, e1⟩ := asJ (X.1.2 (Int32.toNatClampNeg (x3 + 1)))
  obtain ⟨w, g2, e2⟩ := asJ (X.1.2 (Int32.toNatClampNeg (x3 + 2)))
  refine v290_645 ?_
  rw [e1, e2]
  refine ⟨rfl, i1, rfl, i2, ls0 C, ?_⟩
  refine m141 C P KP h281 hpl (by omega) R W (by omega) sr aps g1 g2 (fun no => ⟨_, rfl, rfl, i1, rfl, i2, ls256 C, ?_⟩) (fun yes V DV h1 mk1 qu1 ln1 po => ⟨_, rfl, rfl, i1, rfl, i2, ls256 po.1.choose_spec.2.1.1, ?_⟩) (fun _ => ⟨fun r => (IsD_ex (Edg (aI h 266) (nightP (aI h 266)) ((aI h 266 2).toNat + 1) (-1)) (fun f => f p = pS (aI h 266) p 1) (fu (nowF (aI h 266)) (aI h 266 2) r)).choose, fun r _ _ => (IsD_ex _ _ _).choose_spec⟩)
  · exact m269 C (by omega) rfl W (by omega) g1 g2 (fun _ => ⟨_, rfl, fun _ => K _ (I.up (by omega)), fun z => absurd rfl z⟩) (fun y => absurd y no)
  · have I1 : Inv h1 (N + 1) := Inv.sea a1 a2 a3 a4 a5 a6 a8 po
    have C1 := po.1.choose_spec.2.1.1
    have s1 : aI h1 266 = aI h 266 := po.1.choose_spec.1.a 266 (by omega) (fun k z => by have := a1.ms; unfold TBx at z; omega)
    have W1 : WF N (aI h1 266) := by rw [s1]; exact W
    refine m269 C1 (by omega) s1 W (by omega) g1 g2 (fun no => absurd yes no) (fun _ h2 V2 F2 D2 => ?_)
    have wb := W.1
    unfold WFb at wb
    have e : pgF V (aI h 266 0).toNat = pgF V2 (aI h 266 0).toNat := pgF_cg _ (fun r r0 r1 => (DV r r0 (by omega)).uniq (D2 r r0 (by omega)))
    rw [e]
    exact ⟨_, rfl, fun _ => K _ (I1.r0 F2), fun z => absurd rfl z⟩
set_option maxRecDepth 100000 in
set_option maxHeartbeats 4000000 in
theorem v290_579 {X : Cst} {d : Nat} {a : Nat} {a1 : Nat} {a2 : Nat} {x3 : Int32} {h : AH} {Q : Post}
  (w : a = SCR ∧ ix (x3 + 1) X.1.1 ∧ a = SCR ∧ ix (x3 + 2) X.1.1 ∧ a = SCR ∧ ix (x3 + 3) X.1.1 ∧ hs h a1 = (0, 10) ∧ Ex X PG d 133 0 [some (.ref a1), some (.int (X.1.2 (Int32.toNatClampNeg (x3 + 1)))), some (.int (X.1.2 (Int32.toNatClampNeg (x3 + 2)))), some (.int (X.1.2 (Int32.toNatClampNeg (x3 + 3)))), none] [] h (fun v1 h2 => ∃ r3, v1 = some (.int r3) ∧
      a = SCR ∧ ix (x3 + 1) X.1.1 ∧ a = SCR ∧ ix (x3 + 2) X.1.1 ∧ a = SCR ∧ ix (x3 + 3) X.1.1 ∧ hs h2 a2 = (0, 11) ∧ Ex X PG d 266 0 [some (.ref a2), some (.int (X.1.2 (Int32.toNatClampNeg (x3 + 1)))), some (.int (X.1.2 (Int32.toNatClampNeg (x3 + 2)))), some (.int (X.1.2 (Int32.toNatClampNeg (x3 + 3)))), none, none] [] h2 (fun v4 h5 => ∃ r6, v4 = some (.int r6) ∧
        ((r3 = r6 →
          Ex X PG (d + 1) 290 18 [some (.retAddr a), some (.ref a1), some (.ref a2), some (.int (x3 + 6))] [] h5 Q) ∧
        (¬ (r3 = r6) →
          ((0 : Int32) = 0 ∨ (0 : Int32) = 1) ∧ Q (some (.int 0)) h5))))) :
    Ex X PG (d + 1) 290 579 [some (.retAddr a), some (.ref a1), some (.ref a2), some (.int x3)] [] h Q := wpx_ok (cut := [18]) 37 d 290 579 _ _ _ _ w
theorem op579 : OpP 579 := by
  intro X d x3 h Q N hX hd hN hx I K
  obtain ⟨i1, i2, i3, i4, i5⟩ := hx
  obtain ⟨pl, rp, iq, pl0, mk, qu, ln, pq0, co, ne, be, lp, n, Rs, a1, a2, a3, a4, a5, a6, a7, a8⟩ := id I
  obtain ⟨sr, prr, aps, app, hpl⟩ := a1.sr a7
  have C := a1.1.1
  have h281 := a1.1.2
  have P := a1.2.1.1
  have KP := a1.2.1.2.1.1
  have R := a4.1
  have W := a4.2.1
  obtain ⟨p, g1, e1⟩ := asJ (X.1.2 (Int32.toNatClampNeg (x3 + 1)))
  obtain ⟨w, g2, e2⟩ := asJ (X.1.2 (Int32.toNatClampNeg (x3 + 2)))
  obtain ⟨m, g3, e3⟩ := asJ (X.1.2 (Int32.toNatClampNeg (x3 + 3)))
  refine v290_579 ?_
  rw [e1, e2, e3]
  refine ⟨rfl, i1, rfl, i2, rfl, i3, ls0 C, ?_⟩
  refine m133 C P KP h281 hpl (by omega) R W (by omega) sr aps g1 g2 g3 (fun no => ⟨_, rfl, rfl, i1, rfl, i2, rfl, i3, ls256 C, ?_⟩) (fun yes h1 mk1 qu1 ln1 v po D lv => ⟨_, rfl, rfl, i1, rfl, i2, rfl, i3, ls256 po.1.choose_spec.2.1.1, ?_⟩) (fun yes h1 mk1 qu1 ln1 v r l po D lv G => ⟨_, rfl, rfl, i1, rfl, i2, rfl, i3, ls256 po.1.choose_spec.2.1.1, ?_⟩)
  · exact m266 C (by omega) rfl W (by omega) g1 g2 g3 (fun _ => ⟨_, rfl, fun _ => K _ (I.up (by omega)), fun z => absurd rfl z⟩) (fun y => absurd y no) (fun y => absurd y no)
  · have I1 : Inv h1 (N + 1) := Inv.sea a1 a2 a3 a4 a5 a6 a8 po
    have C1 := po.1.choose_spec.2.1.1
    have s1 : aI h1 266 = aI h 266 := po.1.choose_spec.1.a 266 (by omega) (fun k z => by have := a1.ms; unfold TBx at z; omega)
    have W1 : WF N (aI h1 266) := by rw [s1]; exact W
    refine m266 C1 (by omega) s1 W (by omega) g1 g2 g3 (fun no => absurd yes no) (fun _ h2 u F2 D2 lu => ⟨_, rfl, fun _ => K _ (I1.r0 F2), fun z => absurd rfl z⟩) (fun _ h2 u r2 l2 F2 D2 lu G2 => ?_)
    have := D.uniq D2
    omega
  · have I1 : Inv h1 (N + 1) := Inv.sea a1 a2 a3 a4 a5 a6 a8 po
    have C1 := po.1.choose_spec.2.1.1
    have s1 : aI h1 266 = aI h 266 := po.1.choose_spec.1.a 266 (by omega) (fun k z => by have := a1.ms; unfold TBx at z; omega)
    have W1 : WF N (aI h1 266) := by rw [s1]; exact W
    refine m266 C1 (by omega) s1 W (by omega) g1 g2 g3 (fun no => absurd yes no) (fun _ h2 u F2 D2 lu => ?_) (fun _ h2 u r2 l2 F2 D2 lu G2 => ?_)
    · have := D.uniq D2
      omega
    have ev := D.uniq D2
    subst ev
    have wb := W.1
    unfold WFb at wb
    have ql := G.uniq G2 (by omega) (by omega)
    rw [(ql w.toNat (by omega)).2.1]
    exact ⟨_, rfl, fun _ => K _ (I1.r0 F2), fun z => absurd rfl z⟩
