/-! THE CLASS: a castle is finished; what it then shows. -/
theorem tlt_sw {R : Int → Int} {u v : Int} (ne : ¬ u = v) (n : ¬ tlt R u v) : tlt R v u := by
  unfold tlt at n ⊢
  omega
theorem WF_fin {n : Int} {R S : Int → Int} (I : CI n R) (hn : 0 < n) (F : FinS R S) : WF 0 S := by
  obtain ⟨i1, i2, i3, i4, i5, i6, i7⟩ := I
  obtain ⟨f1, f2, f3, f4⟩ := F
  have e0 := f1 0 (by omega) (by omega)
  have e1 := f1 1 (by omega) (by omega)
  have e2 := f1 2 (by omega) (by omega)
  have e3 := f1 3 (by omega) (by omega)
  have e4 := f1 4 (by omega) (by omega)
  have e5 := f1 5 (by omega) (by omega)
  have tl : ∀ x y, 0 ≤ x → x < 8 → 0 ≤ y → y < 8 → tlt R x y → (S (34 + x) < S (34 + y) ∨ (S (34 + x) = S (34 + y) ∧ x < y)) := by
    intro x y x0 x1 y0 y1 t
    rw [f1 (34 + x) (by omega) (by omega), f1 (34 + y) (by omega) (by omega)]
    exact t
  refine ⟨?_, fun p p0 p1 => ?_, fun r r0 r1 => ?_, fun d d0 d1 => ?_, fun d e d0 d1 e0' e1' x y => ?_, ⟨?_, ?_, fun k k0 k1 => ?_⟩, fun p p0 p1 => ?_⟩
  · unfold WFb; omega
  · have := i7 p p0 (by omega)
    unfold pS
    rw [f1 (10 + 6 * p + 0) (by omega) (by omega), f1 (10 + 6 * p + 1) (by omega) (by omega), f1 (10 + 6 * p + 2) (by omega) (by omega), f1 (10 + 6 * p + 3) (by omega) (by omega), f1 (10 + 6 * p + 4) (by omega) (by omega), f1 (10 + 6 * p + 5) (by omega) (by omega), Int.add_zero]
    omega
  · rw [f1 (34 + r) (by omega) (by omega)]; exact i4 r r0 r1
  · have t := f2 d d0 (by omega)
    have j := i5 d d0 (by omega)
    unfold nr fr wn
    rw [t.1]
    rcases t.2 with ⟨t1, t2, t3⟩ | ⟨t1, t2, t3⟩
    · rw [t2, t3]
      exact ⟨by omega, by omega, by omega, by omega, by omega, tl _ _ (by omega) (by omega) (by omega) (by omega) t1⟩
    · rw [t2, t3]
      exact ⟨by omega, by omega, by omega, by omega, by omega, tl _ _ (by omega) (by omega) (by omega) (by omega) (tlt_sw (by omega) t1)⟩
  · have t := (f2 d d0 (by omega)).2
    have u := (f2 e e0' (by omega)).2
    unfold nr at x
    unfold fr at y
    have key : (R (42 + 3 * d) = R (42 + 3 * e) ∧ R (42 + 3 * d + 1) = R (42 + 3 * e + 1)) ∨ (R (42 + 3 * d) = R (42 + 3 * e + 1) ∧ R (42 + 3 * d + 1) = R (42 + 3 * e)) := by
      rcases t with ⟨_, t2, t3⟩ | ⟨_, t2, t3⟩ <;> rcases u with ⟨_, u2, u3⟩ | ⟨_, u2, u3⟩ <;> omega
    by_cases c : d < e
    · exact absurd key (i6 d e d0 c (by omega))
    by_cases c2 : e < d
    · exact absurd (by omega) (i6 e d e0' c2 (by omega))
    · omega
  · rw [f3 114 (by omega) (by omega)]; omega
  · rw [f3 114 (by omega) (by omega)]; omega
  · rw [f3 114 (by omega) (by omega)] at k1; omega
  · have := f4 p p0 (by omega)
    have := i7 p p0 (by omega)
    omega
/-- a turned door of the class -/
def trI (R : Int → Int) (d u v : Int) : Prop := (tlt R (R (42 + 3 * d)) (R (42 + 3 * d + 1)) ∧ u = R (42 + 3 * d) ∧ v = R (42 + 3 * d + 1)) ∨ (¬ tlt R (R (42 + 3 * d)) (R (42 + 3 * d + 1)) ∧ u = R (42 + 3 * d + 1) ∧ v = R (42 + 3 * d))
theorem trI_S {R S : Int → Int} {d u v : Int} (t : trd R S d) (i : trI R d u v) : u = nr S d ∧ v = fr S d := by
  unfold nr fr
  rcases t.2 with ⟨t1, t2, t3⟩ | ⟨t1, t2, t3⟩ <;> rcases i with ⟨u1, u2, u3⟩ | ⟨u1, u2, u3⟩
  · omega
  · exact absurd t1 u1
  · exact absurd u1 t1
  · omega
def TFn (a : Nat) (c : Nat) (_ : Nat) : Prop := a + 8 ≤ c ∧ c ≤ a + 10
/-- hour r of a plan that is measured -/
def HrO (h : AH) (a : Nat) (r : Int) : Prop := BV (fI h a 1) (aI h (a + 8) r) (opB h a r) ∧ (∀ x : Int, 0 ≤ x → x < 8 → BV (fI h a 1) (aI h (a + 9) (r * 8 + x)) (fun d => opB h a r d ∧ aI h (a + 2) d = x)) ∧ ∀ x y : Int, 0 ≤ x → x < 8 → 0 ≤ y → y < 8 → IsL (fun n => wk (bsR h a r) n x y) (Mt h a r x y)
theorem Rep_fin {n : Int} {a : Nat} {R S : Int → Int} {h : AH} (I : CI n R) (hn : 0 < n) (F : FinS R S) (p1 : fI h a 0 = R 0 ∧ fI h a 1 = R 1 ∧ fI h a 2 = R 2 ∧ fI h a 4 = R 4 ∧ fI h a 5 = R 5)
    (p2 : 0 ≤ fI h a 3 ∧ fI h a 3 < 16384 ∧ ∀ d, 0 ≤ d → d < 14 → (bt (fI h a 3) d ↔ d < R 1 ∧ R (42 + 3 * d + 2) = 1)) (p3 : ∀ r, 0 ≤ r → r < 8 → aI h (a + 1) r = R (34 + r))
    (p4 : ∀ d, 0 ≤ d → d < R 1 → trI R d (aI h (a + 2) d) (aI h (a + 3) d))
    (p5 : ∀ p, 0 ≤ p → p < R 2 → aI h (a + 4) p = R (10 + 6 * p) ∧ aI h (a + 5) p = R (10 + 6 * p + 1) ∧ aI h (a + 6) p = R (10 + 6 * p + 2))
    (p6 : ∀ x y, 0 ≤ x → x < 8 → 0 ≤ y → y < 8 → BtW R (aI h (a + 7) (x * 8 + y)) x y) (O : ∀ r, 0 ≤ r → r < 2 → HrO h a r) : PlanRep h a S := by
  have W := WF_fin I hn F
  obtain ⟨f1, f2, f3, f4⟩ := F
  have i1 := I.1
  have i2 := I.2.1
  have i3 := I.2.2.1
  have e0 := f1 0 (by omega) (by omega)
  have e1 := f1 1 (by omega) (by omega)
  have e2 := f1 2 (by omega) (by omega)
  have e4 := f1 4 (by omega) (by omega)
  have e5 := f1 5 (by omega) (by omega)
  have dr : ∀ d, 0 ≤ d → d < S 1 → aI h (a + 2) d = nr S d ∧ aI h (a + 3) d = fr S d := fun d d0 d1 => trI_S (f2 d d0 (by omega)) (p4 d d0 (by omega))
  have bw : ∀ d, 0 ≤ d → d < S 1 → (bt (fI h a 3) d ↔ wn S d = 1) := fun d d0 d1 => by
    rw [p2.2.2 d d0 (by omega), show wn S d = R (42 + 3 * d + 2) from (f2 d d0 (by omega)).1]
    exact ⟨fun z => z.2, fun z => ⟨by omega, z⟩⟩
  have op : ∀ r d, 0 ≤ d → d < S 1 → (opB h a r d ↔ opn S (r = 1) d) := fun r d d0 d1 => by
    have w := W.2.2.2.1 d d0 d1
    have b := bw d d0 d1
    unfold opB opn
    rw [(dr d d0 d1).1, (dr d d0 d1).2, p3 _ (by omega) (by omega), p3 _ (by omega) (by omega), f1 (34 + nr S d) (by omega) (by omega), f1 (34 + fr S d) (by omega) (by omega), b]
    have : (r = 1 ∨ ¬ wn S d = 1) ↔ (wn S d = 0 ∨ r = 1) := by omega
    rw [this]
  have bet : ∀ x y, 0 ≤ x → x < 8 → 0 ≤ y → y < 8 → aI h (a + 7) (x * 8 + y) = dbt S x y := fun x y x0 x1 y0 y1 => by
    have up : ∀ d, 0 ≤ d → d < S 1 → (dpr R d x y ↔ dbtP S x y d) := fun d d0 d1 => by
      have t := (f2 d d0 (by omega)).2
      unfold dpr dbtP nr fr
      rcases t with ⟨_, t2, t3⟩ | ⟨_, t2, t3⟩ <;> rw [t2, t3] <;> omega
    rcases p6 x y x0 x1 y0 y1 with ⟨v, no⟩ | ⟨v, yes⟩
    · rw [v]
      refine (lst_no fun u hu z => ?_).symm
      exact no u hu (by have := z.1; omega) ((up u hu z.1).mpr z)
    · exact (dbt_eq W v.1 ((up _ v.1 (by omega)).mp yes)).symm
  refine ⟨⟨by omega, by omega, by omega, fun m m0 => ?_⟩, ⟨p2.1, p2.2.1, bw⟩, fun r r0 r1 => by rw [p3 r r0 r1, f1 (34 + r) (by omega) (by omega)], dr, fun p q0 q1 => ?_, bet, fun r r0 r1 => ?_, fun r x r0 r1 x0 x1 => ?_, fun r x y r0 r1 x0 x1 y0 y1 => ?_⟩
  · unfold nightM
    rw [p1.2.2.2.1, p1.2.2.2.2, e0, e4, e5]
    omega
  · have := p5 p q0 (by omega)
    have := f4 p q0 (by omega)
    unfold pS
    rw [f1 (10 + 6 * p + 2) (by omega) (by omega)]
    omega
  · have o := (O r r0 r1).1
    refine ⟨o.1, fun d d0 d1 => ?_⟩
    rw [o.2 d d0 d1, p1.2.1, ← e1]
    exact ⟨fun z => ⟨z.1, (op r d d0 z.1).mp z.2⟩, fun z => ⟨z.1, (op r d d0 z.1).mpr z.2⟩⟩
  · have o := (O r r0 r1).2.1 x x0 x1
    refine ⟨o.1, fun d d0 d1 => ?_⟩
    rw [o.2 d d0 d1, p1.2.1, ← e1]
    unfold fouP
    constructor
    · intro z; exact ⟨z.1, (op r d d0 z.1).mp z.2.1, by rw [← (dr d d0 z.1).1]; exact z.2.2⟩
    · intro z; exact ⟨z.1, (op r d d0 z.1).mpr z.2.1, by rw [(dr d d0 z.1).1]; exact z.2.2⟩
  · have o := (O r r0 r1).2.2 x y x0 (by omega) y0 (by omega)
    have b8 := (O r r0 r1).1
    have cg : ∀ u v, bsR h a r u v ↔ adj S (r = 1) u v := by
      intro u v
      constructor
      · intro z
        have q := bet u v z.1.1.1 z.1.1.2 z.1.2.1 z.1.2.2
        have z2 := z.2
        rw [q] at z2
        have db := lst_b (P := dbtP S u v) (n := S 1) (by omega) (fun v z => z.1)
        have db : -1 ≤ dbt S u v ∧ dbt S u v < S 1 := db
        have := (b8.2 (dbt S u v) (by omega) (by omega)).mp z2.2
        exact (dbt_adj W).mpr ⟨z2.1, (op r _ (by omega) db.2).mp this.2⟩
      · intro z
        have ai := adj_in W z
        have zz := (dbt_adj W).mp z
        have db := lst_b (P := dbtP S u v) (n := S 1) (by omega) (fun v z => z.1)
        have db : -1 ≤ dbt S u v ∧ dbt S u v < S 1 := db
        refine ⟨⟨by omega, by omega⟩, ?_⟩
        rw [bet u v (by omega) (by omega) (by omega) (by omega)]
        exact ⟨zz.1, (b8.2 (dbt S u v) (by omega) (by omega)).mpr ⟨by omega, (op r _ (by omega) db.2).mpr zz.2⟩⟩
    unfold lft
    refine (lv_eq ⟨o.1, fun l => (wk_cg cg _ _ _).mp (o.2.1 l), fun m z => o.2.2 m ((wk_cg cg _ _ _).mpr z)⟩).symm
theorem HrO.st {h h2 h3 : AH} {a : Nat} {r i : Int} (O : HrO h a r) (F2 : Fr (TOp a) h h2) (t : OtR h h2 a i) (L : LfO h2 h3 a i) (hr : 0 ≤ r ∧ r < 2) (ne : ¬ r = i) : HrO h3 a r := by
  have f1 : fI h3 a 1 = fI h a 1 := by rw [L.1.f a 1 (by omega), F2.f a 1 (by unfold TOp; omega)]
  have f3 : fI h3 a 3 = fI h a 3 := by rw [L.1.f a 3 (by omega), F2.f a 3 (by unfold TOp; omega)]
  have ax : ∀ j, j ≤ 7 → aI h3 (a + j) = aI h (a + j) := fun j hj => by rw [L.1.a (a + j) (by omega), F2.a (a + j) (by unfold TOp; omega)]
  have t1 := t r hr.1 hr.2 ne
  have a8 : aI h3 (a + 8) r = aI h (a + 8) r := by rw [L.1.a (a + 8) (by omega)]; exact t1.1
  have ob : ∀ d, opB h3 a r d ↔ opB h a r d := fun d => by unfold opB; rw [ax 1 (by omega), ax 2 (by omega), ax 3 (by omega), f3]
  have bs : ∀ x y, bsR h3 a r x y ↔ bsR h a r x y := fun x y => by unfold bsR; rw [ax 7 (by omega), a8]
  refine ⟨?_, fun x x0 x1 => ?_, fun x y x0 x1 y0 y1 => ?_⟩
  · rw [f1, a8]; exact O.1.iff (fun d _ _ => (ob d).symm)
  · rw [f1, L.1.a (a + 9) (by omega), t1.2 x x0 x1, ax 2 (by omega)]
    exact (O.2.1 x x0 x1).iff (fun d _ _ => by rw [ob d])
  · have o := O.2.2 x y x0 x1 y0 y1
    have e : Mt h2 a r x y = Mt h a r x y := by unfold Mt; rw [F2.a (a + 10) (by unfold TOp; omega)]
    rw [L.2 r x y hr.1 hr.2 ne x0 x1 y0 y1, e]
    exact ⟨o.1, fun l => (wk_cg bs _ _ _).mpr (o.2.1 l), fun m z => o.2.2 m ((wk_cg bs _ _ _).mp z)⟩
theorem HrO.nw {h h2 h3 : AH} {a : Nat} {i : Int} (F2 : Fr (TOp a) h h2) (O : OpR h h2 a i (fI h a 1)) (L : LfO h2 h3 a i) (M : ∀ x y, 0 ≤ x → x < 8 → 0 ≤ y → y < 8 → IsL (fun n => wk (bsR h2 a i) n x y) (Mt h3 a i x y)) : HrO h3 a i := by
  have f1 : fI h3 a 1 = fI h a 1 := by rw [L.1.f a 1 (by omega), F2.f a 1 (by unfold TOp; omega)]
  have f3 : fI h3 a 3 = fI h a 3 := by rw [L.1.f a 3 (by omega), F2.f a 3 (by unfold TOp; omega)]
  have ax : ∀ j, j ≤ 7 → aI h3 (a + j) = aI h (a + j) := fun j hj => by rw [L.1.a (a + j) (by omega), F2.a (a + j) (by unfold TOp; omega)]
  have a7 : aI h3 (a + 7) = aI h2 (a + 7) := L.1.a (a + 7) (by omega)
  have a8 : aI h3 (a + 8) = aI h2 (a + 8) := L.1.a (a + 8) (by omega)
  have ob : ∀ d, opB h3 a i d ↔ opB h a i d := fun d => by unfold opB; rw [ax 1 (by omega), ax 2 (by omega), ax 3 (by omega), f3]
  have bs : ∀ x y, bsR h3 a i x y ↔ bsR h2 a i x y := fun x y => by unfold bsR; rw [a7, a8]
  refine ⟨?_, fun x x0 x1 => ?_, fun x y x0 x1 y0 y1 => ?_⟩
  · rw [f1, a8]; exact O.1.iff (fun d _ _ => (ob d).symm)
  · rw [f1, L.1.a (a + 9) (by omega), ax 2 (by omega)]
    exact (O.2.1 x x0 x1).iff (fun d _ _ => by rw [ob d])
  · have o := M x y x0 x1 y0 y1
    exact ⟨o.1, fun l => (wk_cg bs _ _ _).mpr (o.2.1 l), fun m z => o.2.2 m ((wk_cg bs _ _ _).mp z)⟩
-- OutwardDoors$Plan.finish()V at 0
set_option maxRecDepth 20000 in
set_option maxHeartbeats 4000000 in
theorem r46_0 {X : Cst} {d : Nat} {a : Nat} {h : AH} {Q : Post} (C_h : Lay h) (K_h_0 : PlanAt h a)
  (w : Ex X PG (d + 1) 46 2 [some (.ref a), some (.int (J 0)), none, none] [] h Q) :
    Ex X PG (d + 1) 46 0 [some (.ref a), none, none, none] [] h Q := by
  refine wpx_ok (cut := [2, 81]) 2 d 46 0 _ _ _ _ ?_
  show Ex X PG (d + 1) 46 2 [some (.ref a), some (.int (J 0)), none, none] [] h Q
  try simp only [aI_wAL, fI_wAL, aL_wA, aL_wF, aI_wA_ne, aI_wF_ne, fI_wA_ne, fI_wF_ne, fI_wF_nk, aL_wAL_ne, J_sameA, J_sameF, aL_same, Nat.add_left_cancel_iff, Nat.add_eq_left, Nat.left_eq_add, not_false_eq_true, Nat.reduceEqDiff, Nat.reduceAdd, J_add, J_sub, J_mul, J_neg, J_and, J_or, J_xor, J_shl, J_shr, J_div, J_i2b, J_i2l, J_l2i, J_lcm, J_max, J_min, J_nab, J_nao, rdA, rdF, rdL, wA_fold, wF_fold, wL_fold, wC_fold]
  exact w
-- OutwardDoors$Plan.finish()V at 2
set_option maxRecDepth 20000 in
set_option maxHeartbeats 4000000 in
theorem r46_2 {X : Cst} {d : Nat} {a : Nat} {x1 : Int} {l2 : Option Value} {l3 : Option Value} {h : AH} {Q : Post} (C_h : Lay h) (K_h_0 : PlanAt h a)
  (w : (-2147483648 ≤ x1 ∧ x1 < 2147483648) ∧ ((fI h a 1 ≤ x1 → Ex X PG (d + 1) 46 81 [some (.ref a), some (.int (J 0)), l2, l3] [] h Q) ∧ (¬ fI h a 1 ≤ x1 → (0 ≤ x1 ∧ x1 < 14) ∧ (0 ≤ aI h (a + 2) x1 ∧ aI h (a + 2) x1 < 8) ∧ (0 ≤ aI h (a + 3) x1 ∧ aI h (a + 3) x1 < 8) ∧ ((aI h (a + 1) (aI h (a + 3) x1) < aI h (a + 1) (aI h (a + 2) x1) → Ex X PG (d + 1) 46 2 [some (.ref a), some (.int (J (x1 + 1))), some (.int (J (aI h (a + 2) x1))), some (.int (J (aI h (a + 3) x1)))] [] (wA (wA h (a + 2) x1 (aI h (a + 3) x1)) (a + 3) x1 (aI h (a + 2) x1)) Q) ∧ (¬ aI h (a + 1) (aI h (a + 3) x1) < aI h (a + 1) (aI h (a + 2) x1) → ((¬ aI h (a + 1) (aI h (a + 2) x1) = aI h (a + 1) (aI h (a + 3) x1) → Ex X PG (d + 1) 46 2 [some (.ref a), some (.int (J (x1 + 1))), some (.int (J (aI h (a + 2) x1))), some (.int (J (aI h (a + 3) x1)))] [] h Q) ∧ (aI h (a + 1) (aI h (a + 2) x1) = aI h (a + 1) (aI h (a + 3) x1) → ((aI h (a + 2) x1 ≤ aI h (a + 3) x1 → Ex X PG (d + 1) 46 2 [some (.ref a), some (.int (J (x1 + 1))), some (.int (J (aI h (a + 2) x1))), some (.int (J (aI h (a + 3) x1)))] [] h Q) ∧ (¬ aI h (a + 2) x1 ≤ aI h (a + 3) x1 → Ex X PG (d + 1) 46 2 [some (.ref a), some (.int (J (x1 + 1))), some (.int (J (aI h (a + 2) x1))), some (.int (J (aI h (a + 3) x1)))] [] (wA (wA h (a + 2) x1 (aI h (a + 3) x1)) (a + 3) x1 (aI h (a + 2) x1)) Q))))))))) :
    Ex X PG (d + 1) 46 2 [some (.ref a), some (.int (J x1)), l2, l3] [] h Q := by
  refine wpx_ok (cut := [2, 81]) 47 d 46 2 _ _ _ _ ?_
  show hs h a = (0, 2) ∧ (((hF h a 1) ≤ (J x1) → Ex X PG (d + 1) 46 81 [some (.ref a), some (.int (J 0)), l2, l3] [] h Q) ∧ (¬ ((hF h a 1) ≤ (J x1)) → hs h a = (0, 2) ∧ ∃ q4, hR h a 7 = some q4 ∧ (hs h q4).1 = 1 ∧ ix (J x1) (hs h q4).2 ∧ hs h a = (0, 2) ∧ ∃ q6, hR h a 8 = some q6 ∧ (hs h q6).1 = 1 ∧ ix (J x1) (hs h q6).2 ∧ hs h a = (0, 2) ∧ ∃ q7, hR h a 6 = some q7 ∧ (hs h q7).1 = 1 ∧ ix (hI h q4 (Int32.toNatClampNeg (J x1))) (hs h q7).2 ∧ hs h a = (0, 2) ∧ ∃ q9, hR h a 6 = some q9 ∧ (hs h q9).1 = 1 ∧ ix (hI h q6 (Int32.toNatClampNeg (J x1))) (hs h q9).2 ∧ (((hI h q9 (Int32.toNatClampNeg (hI h q6 (Int32.toNatClampNeg (J x1))))) < (hI h q7 (Int32.toNatClampNeg (hI h q4 (Int32.toNatClampNeg (J x1))))) → hs h a = (0, 2) ∧ ∃ q13, hR h a 7 = some q13 ∧ (hs h q13).1 = 1 ∧ ix (J x1) (hs h q13).2 ∧ hs (wI h q13 (Int32.toNatClampNeg (J x1)) (hI h q6 (Int32.toNatClampNeg (J x1)))) a = (0, 2) ∧ ∃ q14, hR (wI h q13 (Int32.toNatClampNeg (J x1)) (hI h q6 (Int32.toNatClampNeg (J x1)))) a 8 = some q14 ∧ (hs (wI h q13 (Int32.toNatClampNeg (J x1)) (hI h q6 (Int32.toNatClampNeg (J x1)))) q14).1 = 1 ∧ ix (J x1) (hs (wI h q13 (Int32.toNatClampNeg (J x1)) (hI h q6 (Int32.toNatClampNeg (J x1)))) q14).2 ∧ Ex X PG (d + 1) 46 2 [some (.ref a), some (.int ((J x1) + (J 1))), some (.int (hI h q4 (Int32.toNatClampNeg (J x1)))), some (.int (hI h q6 (Int32.toNatClampNeg (J x1))))] [] (wI (wI h q13 (Int32.toNatClampNeg (J x1)) (hI h q6 (Int32.toNatClampNeg (J x1)))) q14 (Int32.toNatClampNeg (J x1)) (hI h q4 (Int32.toNatClampNeg (J x1)))) Q) ∧ (¬ ((hI h q9 (Int32.toNatClampNeg (hI h q6 (Int32.toNatClampNeg (J x1))))) < (hI h q7 (Int32.toNatClampNeg (hI h q4 (Int32.toNatClampNeg (J x1)))))) → hs h a = (0, 2) ∧ ∃ q15, hR h a 6 = some q15 ∧ (hs h q15).1 = 1 ∧ ix (hI h q4 (Int32.toNatClampNeg (J x1))) (hs h q15).2 ∧ hs h a = (0, 2) ∧ ∃ q16, hR h a 6 = some q16 ∧ (hs h q16).1 = 1 ∧ ix (hI h q6 (Int32.toNatClampNeg (J x1))) (hs h q16).2 ∧ ((¬ (hI h q15 (Int32.toNatClampNeg (hI h q4 (Int32.toNatClampNeg (J x1))))) = (hI h q16 (Int32.toNatClampNeg (hI h q6 (Int32.toNatClampNeg (J x1))))) → Ex X PG (d + 1) 46 2 [some (.ref a), some (.int ((J x1) + (J 1))), some (.int (hI h q4 (Int32.toNatClampNeg (J x1)))), some (.int (hI h q6 (Int32.toNatClampNeg (J x1))))] [] h Q) ∧ (¬ (¬ (hI h q15 (Int32.toNatClampNeg (hI h q4 (Int32.toNatClampNeg (J x1))))) = (hI h q16 (Int32.toNatClampNeg (hI h q6 (Int32.toNatClampNeg (J x1)))))) → (((hI h q4 (Int32.toNatClampNeg (J x1))) ≤ (hI h q6 (Int32.toNatClampNeg (J x1))) → Ex X PG (d + 1) 46 2 [some (.ref a), some (.int ((J x1) + (J 1))), some (.int (hI h q4 (Int32.toNatClampNeg (J x1)))), some (.int (hI h q6 (Int32.toNatClampNeg (J x1))))] [] h Q) ∧ (¬ ((hI h q4 (Int32.toNatClampNeg (J x1))) ≤ (hI h q6 (Int32.toNatClampNeg (J x1)))) → hs h a = (0, 2) ∧ ∃ q21, hR h a 7 = some q21 ∧ (hs h q21).1 = 1 ∧ ix (J x1) (hs h q21).2 ∧ hs (wI h q21 (Int32.toNatClampNeg (J x1)) (hI h q6 (Int32.toNatClampNeg (J x1)))) a = (0, 2) ∧ ∃ q22, hR (wI h q21 (Int32.toNatClampNeg (J x1)) (hI h q6 (Int32.toNatClampNeg (J x1)))) a 8 = some q22 ∧ (hs (wI h q21 (Int32.toNatClampNeg (J x1)) (hI h q6 (Int32.toNatClampNeg (J x1)))) q22).1 = 1 ∧ ix (J x1) (hs (wI h q21 (Int32.toNatClampNeg (J x1)) (hI h q6 (Int32.toNatClampNeg (J x1)))) q22).2 ∧ Ex X PG (d + 1) 46 2 [some (.ref a), some (.int ((J x1) + (J 1))), some (.int (hI h q4 (Int32.toNatClampNeg (J x1)))), some (.int (hI h q6 (Int32.toNatClampNeg (J x1))))] [] (wI (wI h q21 (Int32.toNatClampNeg (J x1)) (hI h q6 (Int32.toNatClampNeg (J x1)))) q22 (Int32.toNatClampNeg (J x1)) (hI h q4 (Int32.toNatClampNeg (J x1)))) Q))))))))
  try simp only [aI_wAL, fI_wAL, aL_wA, aL_wF, aI_wA_ne, aI_wF_ne, fI_wA_ne, fI_wF_ne, fI_wF_nk, aL_wAL_ne, J_sameA, J_sameF, aL_same, Nat.add_left_cancel_iff, Nat.add_eq_left, Nat.left_eq_add, not_false_eq_true, Nat.reduceEqDiff, Nat.reduceAdd, J_add, J_sub, J_mul, J_neg, J_and, J_or, J_xor, J_shl, J_shr, J_div, J_i2b, J_i2l, J_l2i, J_lcm, J_max, J_min, J_nab, J_nao, rdA, rdF, rdL, wA_fold, wF_fold, wL_fold, wC_fold]
  refine ⟨(plan_0 K_h_0), ?_⟩
  obtain ⟨k3, w⟩ := w
  refine ⟨fun c1 => ?_, fun c1 => ?_⟩
  · have t2 : fI h a 1 ≤ x1 := ((Jle (rg_toInt _) k3).mp c1)
    replace w := w.1 t2
    exact w
  · have t2 : ¬ fI h a 1 ≤ x1 := (fun e => c1 ((Jle (rg_toInt _) k3).mpr e))
    replace w := w.2 t2
    refine ⟨(plan_0 K_h_0), _, (plan_12 K_h_0), ?_⟩
    obtain ⟨k5, w⟩ := w
    refine ⟨congrArg Prod.fst (plan_2 K_h_0), ixs (plan_2 K_h_0) k5 (by decide), ?_⟩
    refine ⟨(plan_0 K_h_0), _, (plan_13 K_h_0), ?_⟩
    refine ⟨congrArg Prod.fst (plan_3 K_h_0), ixs (plan_3 K_h_0) k5 (by decide), ?_⟩
    refine ⟨(plan_0 K_h_0), _, (plan_11 K_h_0), ?_⟩
    obtain ⟨k8, w⟩ := w
    refine ⟨congrArg Prod.fst (plan_1 K_h_0), ixs (plan_1 K_h_0) k8 (by decide), ?_⟩
    refine ⟨(plan_0 K_h_0), _, (plan_11 K_h_0), ?_⟩
    obtain ⟨k10, w⟩ := w
    refine ⟨congrArg Prod.fst (plan_1 K_h_0), ixs (plan_1 K_h_0) k10 (by decide), ?_⟩
    refine ⟨fun c11 => ?_, fun c11 => ?_⟩
    · have t12 : aI h (a + 1) (aI h (a + 3) x1) < aI h (a + 1) (aI h (a + 2) x1) := ((Jlt (rg_toInt _) (rg_toInt _)).mp c11)
      replace w := w.1 t12
      refine ⟨(plan_0 K_h_0), _, (plan_12 K_h_0), ?_⟩
      refine ⟨congrArg Prod.fst (plan_2 K_h_0), ixs (plan_2 K_h_0) k5 (by decide), ?_⟩
      refine ⟨(plan_0 K_h_0), _, (plan_13 K_h_0), ?_⟩
      refine ⟨congrArg Prod.fst (plan_3 K_h_0), ixs (plan_3 K_h_0) k5 (by decide), ?_⟩
      exact w
    · have t12 : ¬ aI h (a + 1) (aI h (a + 3) x1) < aI h (a + 1) (aI h (a + 2) x1) := (fun e => c11 ((Jlt (rg_toInt _) (rg_toInt _)).mpr e))
      replace w := w.2 t12
      refine ⟨(plan_0 K_h_0), _, (plan_11 K_h_0), ?_⟩
      refine ⟨congrArg Prod.fst (plan_1 K_h_0), ixs (plan_1 K_h_0) k8 (by decide), ?_⟩
      refine ⟨(plan_0 K_h_0), _, (plan_11 K_h_0), ?_⟩
      refine ⟨congrArg Prod.fst (plan_1 K_h_0), ixs (plan_1 K_h_0) k10 (by decide), ?_⟩
      refine ⟨fun c17 => ?_, fun c17 => ?_⟩
      · have t18 : ¬ aI h (a + 1) (aI h (a + 2) x1) = aI h (a + 1) (aI h (a + 3) x1) := (fun e => c17 ((Jeq (rg_toInt _) (rg_toInt _)).mpr e))
        replace w := w.1 t18
        exact w
      · have t18 : aI h (a + 1) (aI h (a + 2) x1) = aI h (a + 1) (aI h (a + 3) x1) := ((Jeq (rg_toInt _) (rg_toInt _)).mp (Classical.byContradiction c17))
        replace w := w.2 t18
        refine ⟨fun c19 => ?_, fun c19 => ?_⟩
        · have t20 : aI h (a + 2) x1 ≤ aI h (a + 3) x1 := ((Jle (rg_toInt _) (rg_toInt _)).mp c19)
          replace w := w.1 t20
          exact w
        · have t20 : ¬ aI h (a + 2) x1 ≤ aI h (a + 3) x1 := (fun e => c19 ((Jle (rg_toInt _) (rg_toInt _)).mpr e))
          replace w := w.2 t20
          refine ⟨(plan_0 K_h_0), _, (plan_12 K_h_0), ?_⟩
          refine ⟨congrArg Prod.fst (plan_2 K_h_0), ixs (plan_2 K_h_0) k5 (by decide), ?_⟩
          refine ⟨(plan_0 K_h_0), _, (plan_13 K_h_0), ?_⟩
          refine ⟨congrArg Prod.fst (plan_3 K_h_0), ixs (plan_3 K_h_0) k5 (by decide), ?_⟩
          exact w
-- OutwardDoors$Plan.finish()V at 81
set_option maxRecDepth 20000 in
set_option maxHeartbeats 4000000 in
theorem r46_81 {X : Cst} {d : Nat} {a : Nat} {x1 : Int} {l2 : Option Value} {l3 : Option Value} {h : AH} {Q : Post} (C_h : Lay h) (K_h_0 : PlanAt h a)
  (w : (-2147483648 ≤ x1 ∧ x1 < 2147483648) ∧ ((2 ≤ x1 → Q none h) ∧ (¬ 2 ≤ x1 → Ex X PG d 47 0 [some (.ref a), some (.int (J x1)), none, none] [] h (fun v4 h5 => v4 = none ∧ SH h h5 ∧ Ex X PG d 50 0 [some (.ref a), some (.int (J x1)), none, none, none, none] [] h5 (fun v6 h7 => v6 = none ∧ SH h5 h7 ∧ Ex X PG (d + 1) 46 81 [some (.ref a), some (.int (J (x1 + 1))), l2, l3] [] h7 Q))))) :
    Ex X PG (d + 1) 46 81 [some (.ref a), some (.int (J x1)), l2, l3] [] h Q := by
  refine wpx_ok (cut := [2, 81]) 11 d 46 81 _ _ _ _ ?_
  show (((J 2) ≤ (J x1) → Q none h) ∧ (¬ ((J 2) ≤ (J x1)) → hs h a = (0, 2) ∧ Ex X PG d 47 0 [some (.ref a), some (.int (J x1)), none, none] [] h (fun v4 h5 => v4 = none ∧ hs h5 a = (0, 2) ∧ Ex X PG d 50 0 [some (.ref a), some (.int (J x1)), none, none, none, none] [] h5 (fun v6 h7 => v6 = none ∧ Ex X PG (d + 1) 46 81 [some (.ref a), some (.int ((J x1) + (J 1))), l2, l3] [] h7 Q))))
  try simp only [aI_wAL, fI_wAL, aL_wA, aL_wF, aI_wA_ne, aI_wF_ne, fI_wA_ne, fI_wF_ne, fI_wF_nk, aL_wAL_ne, J_sameA, J_sameF, aL_same, Nat.add_left_cancel_iff, Nat.add_eq_left, Nat.left_eq_add, not_false_eq_true, Nat.reduceEqDiff, Nat.reduceAdd, J_add, J_sub, J_mul, J_neg, J_and, J_or, J_xor, J_shl, J_shr, J_div, J_i2b, J_i2l, J_l2i, J_lcm, J_max, J_min, J_nab, J_nao, rdA, rdF, rdL, wA_fold, wF_fold, wL_fold, wC_fold]
  obtain ⟨k3, w⟩ := w
  refine ⟨fun c1 => ?_, fun c1 => ?_⟩
  · have t2 : 2 ≤ x1 := ((Jle (by decide) k3).mp c1)
    replace w := w.1 t2
    exact w
  · have t2 : ¬ 2 ≤ x1 := (fun e => c1 ((Jle (by decide) k3).mpr e))
    replace w := w.2 t2
    refine ⟨(plan_0 K_h_0), ?_⟩
    refine Ex.mono w (Nat.le_refl _) ?_
    rintro v4 h5 ⟨rfl, s9, w⟩
    refine ⟨rfl, ?_⟩
    have C_h5 := Lay_SH s9 C_h
    have K_h5_0 := PlanAt_SH s9 K_h_0
    try simp only [aI_wAL, fI_wAL, aL_wA, aL_wF, aI_wA_ne, aI_wF_ne, fI_wA_ne, fI_wF_ne, fI_wF_nk, aL_wAL_ne, J_sameA, J_sameF, aL_same, Nat.add_left_cancel_iff, Nat.add_eq_left, Nat.left_eq_add, not_false_eq_true, Nat.reduceEqDiff, Nat.reduceAdd, J_add, J_sub, J_mul, J_neg, J_and, J_or, J_xor, J_shl, J_shr, J_div, J_i2b, J_i2l, J_l2i, J_lcm, J_max, J_min, J_nab, J_nao, rdA, rdF, rdL, wA_fold, wF_fold, wL_fold, wC_fold]
    refine ⟨(plan_0 K_h5_0), ?_⟩
    refine Ex.mono w (Nat.le_refl _) ?_
    rintro v6 h7 ⟨rfl, s8, w⟩
    refine ⟨rfl, ?_⟩
    have C_h7 := Lay_SH s8 C_h5
    have K_h7_0 := PlanAt_SH s8 K_h5_0
    try simp only [aI_wAL, fI_wAL, aL_wA, aL_wF, aI_wA_ne, aI_wF_ne, fI_wA_ne, fI_wF_ne, fI_wF_nk, aL_wAL_ne, J_sameA, J_sameF, aL_same, Nat.add_left_cancel_iff, Nat.add_eq_left, Nat.left_eq_add, not_false_eq_true, Nat.reduceEqDiff, Nat.reduceAdd, J_add, J_sub, J_mul, J_neg, J_and, J_or, J_xor, J_shl, J_shr, J_div, J_i2b, J_i2l, J_l2i, J_lcm, J_max, J_min, J_nab, J_nao, rdA, rdF, rdL, wA_fold, wF_fold, wL_fold, wC_fold]
    exact w
theorem m46 {X : Cst} {d a : Nat} {n : Int} {R : Int → Int} {h : AH} {Q : Post} (C : Lay h) (K : PlanAt h a) (hd : 5 ≤ d) (D : PlanRd h a R) (I : CI n R) (hn : 0 < n) (k : ∀ h', Fr (TPl a) h h' → (∀ S, FinS R S → PlanRep h' a S) → Q none h') : Ex X PG d 46 0 [some (.ref a), none, none, none] [] h Q := by
  obtain ⟨d, rfl⟩ : ∃ e, d = e + 1 := ⟨d - 1, by omega⟩
  obtain ⟨p1, p2, p3, p4, p5, p6⟩ := D
  have i1 := I.1
  have i2 := I.2.1
  have i5 := I.2.2.2.2.1
  have hours : ∀ (z : Nat) (i : Int) (l2 l3 : Option Value) (h1 h' : AH), (∀ d, 0 ≤ d → d < R 1 → trI R d (aI h1 (a + 2) d) (aI h1 (a + 3) d)) → Fr (fun c _ => c = a + 2 ∨ c = a + 3) h h1 → 2 - i = z → 0 ≤ i → i ≤ 2 → Fr (TFn a) h1 h' → (∀ r, 0 ≤ r → r < i → HrO h' a r) →
      Ex X PG (d + 1) 46 81 [some (.ref a), some (.int (J i)), l2, l3] [] h' Q := by
    intro z
    induction z with
    | zero =>
      intro i l2 l3 h1 h' T F1 ez i0 i1' F O
      have fx : ∀ j, fI h' a j = fI h a j := fun j => by rw [F.f a j (by unfold TFn; omega), F1.f a j (by omega)]
      have ax : ∀ j, ¬ j = 2 → ¬ j = 3 → j ≤ 7 → aI h' (a + j) = aI h (a + j) := fun j j2 j3 hj => by rw [F.a (a + j) (by unfold TFn; omega), F1.a (a + j) (by omega)]
      refine r46_81 (F.C (F1.C C)) (PlanAt_SH F.1 (PlanAt_SH F1.1 K)) ⟨by omega, fun _ => ?_, fun c => absurd (by omega) c⟩
      refine k h' ((F1.mo (fun c k z => by unfold TPl; omega)).tr (F.mo (fun c k z => by unfold TFn at z; unfold TPl; omega))) (fun S FS => ?_)
      refine Rep_fin I hn FS ?_ ?_ ?_ (fun d d0 d1 => ?_) ?_ ?_ (fun r r0 r1 => O r r0 (by omega))
      · rw [fx, fx, fx, fx, fx]; exact p1
      · rw [fx]; exact p2
      · rw [ax 1 (by omega) (by omega) (by omega)]; exact p3
      · rw [F.a (a + 2) (by unfold TFn; omega), F.a (a + 3) (by unfold TFn; omega)]; exact T d d0 d1
      · rw [ax 4 (by omega) (by omega) (by omega), ax 5 (by omega) (by omega) (by omega), ax 6 (by omega) (by omega) (by omega)]; exact p5
      · rw [ax 7 (by omega) (by omega) (by omega)]; exact p6
    | succ z ih =>
      intro i l2 l3 h1 h' T F1 ez i0 i1' F O
      have fx : ∀ j, fI h' a j = fI h a j := fun j => by rw [F.f a j (by unfold TFn; omega), F1.f a j (by omega)]
      have a7 : aI h' (a + 7) = aI h (a + 7) := by rw [F.a (a + 7) (by unfold TFn; omega), F1.a (a + 7) (by omega)]
      have C' := F.C (F1.C C)
      have K' := PlanAt_SH F.1 (PlanAt_SH F1.1 K)
      refine r46_81 C' K' ⟨by omega, fun c => absurd c (by omega), fun _ => ?_⟩
      refine m47 C' K' (by omega) (by omega) (by rw [fx]; omega) (by rw [fx]; exact ⟨p2.1, p2.2.1⟩) (fun e e0' e1' => ?_) (fun h2 F2 O2 => ⟨rfl, F2.1, ?_⟩)
      · rw [fx] at e1'
        have t := T e e0' (by omega)
        have q := i5 e e0' (by omega)
        rw [F.a (a + 2) (by unfold TFn; omega), F.a (a + 3) (by unfold TFn; omega)]
        rcases t with ⟨_, t1, t2⟩ | ⟨_, t1, t2⟩ <;> rw [t1, t2] <;> omega
      refine m50 (F2.C C') (PlanAt_SH F2.1 K') (by omega) (by omega) (fun x y x0 x1 y0 y1 => ?_) O2.1.1 (fun h3 L3 M3 => ⟨rfl, L3.1.1, ?_⟩)
      · rw [F2.a (a + 7) (by unfold TOp; omega), a7]
        rcases p6 x y x0 x1 y0 y1 with ⟨v, _⟩ | ⟨v, _⟩ <;> omega
      refine ih (i + 1) _ _ h1 h3 T F1 (by omega) (by omega) (by omega) (F.tr ((F2.mo (fun c k z => by unfold TOp at z; unfold TFn; omega)).tr (L3.1.mo (fun c k z => by unfold TFn; omega)))) (fun r r0 r1 => ?_)
      by_cases q : r = i
      · subst q; exact HrO.nw F2 O2 L3 M3
      · exact (O r r0 (by omega)).st F2 O2.2.2 L3 (by omega) q
  have lp : ∀ (z : Nat) (i : Int) (l2 l3 : Option Value) (h' : AH), R 1 - i = z → 0 ≤ i → i ≤ R 1 → Fr (fun c _ => c = a + 2 ∨ c = a + 3) h h' → (∀ d, 0 ≤ d → d < i → trI R d (aI h' (a + 2) d) (aI h' (a + 3) d)) → (∀ d, i ≤ d → d < R 1 → aI h' (a + 2) d = R (42 + 3 * d) ∧ aI h' (a + 3) d = R (42 + 3 * d + 1)) →
      Ex X PG (d + 1) 46 2 [some (.ref a), some (.int (J i)), l2, l3] [] h' Q := by
    intro z
    induction z with
    | zero =>
      intro i l2 l3 h' ez i0 i1' F T U
      refine r46_2 (F.C C) (PlanAt_SH F.1 K) ?_
      rw [F.f a 1 (by omega), p1.2.1]
      exact ⟨by omega, fun _ => hours 2 0 _ _ h' h' (fun d d0 d1 => T d d0 (by omega)) F (by omega) (by omega) (by omega) Fr.rf (fun r r0 r1 => by omega), fun c => absurd (by omega) c⟩
    | succ z ih =>
      intro i l2 l3 h' ez i0 i1' F T U
      have u := U i (by omega) (by omega)
      have q := i5 i (by omega) (by omega)
      have same : ∀ l2 l3, tlt R (R (42 + 3 * i)) (R (42 + 3 * i + 1)) → Ex X PG (d + 1) 46 2 [some (.ref a), some (.int (J (i + 1))), l2, l3] [] h' Q := by
        intro l2 l3 t
        refine ih (i + 1) _ _ h' (by omega) (by omega) (by omega) F (fun d d0 d1 => ?_) (fun d d0 d1 => U d (by omega) d1)
        by_cases e : d = i
        · subst e; exact Or.inl ⟨t, u.1, u.2⟩
        · exact T d d0 (by omega)
      have turn : ∀ l2 l3, ¬ tlt R (R (42 + 3 * i)) (R (42 + 3 * i + 1)) → Ex X PG (d + 1) 46 2 [some (.ref a), some (.int (J (i + 1))), l2, l3] [] (wA (wA h' (a + 2) i (R (42 + 3 * i + 1))) (a + 3) i (R (42 + 3 * i))) Q := by
        intro l2 l3 t
        refine ih (i + 1) _ _ _ (by omega) (by omega) (by omega) ((F.wA (Or.inl rfl)).wA (Or.inr rfl)) (fun d d0 d1 => ?_) (fun d d0 d1 => ?_)
        · rw [aI_wA_ne (by omega), aI_wA (by omega), aI_wA (by omega), aI_wA_ne (by omega)]
          by_cases e : d = i
          · subst e; rw [uu_eq, uu_eq]; exact Or.inr ⟨t, rfl, rfl⟩
          · rw [uu_ne (by omega) (by omega) e, uu_ne (by omega) (by omega) e]; exact T d d0 (by omega)
        · rw [aI_wA_ne (by omega), aI_wA (by omega), aI_wA (by omega), aI_wA_ne (by omega), uu_ne (by omega) (by omega) (by omega), uu_ne (by omega) (by omega) (by omega)]
          exact U d (by omega) d1
      refine r46_2 (F.C C) (PlanAt_SH F.1 K) ?_
      rw [F.f a 1 (by omega), p1.2.1, u.1, u.2, F.a (a + 1) (by omega), p3 _ (by omega) (by omega), p3 _ (by omega) (by omega)]
      refine ⟨by omega, fun c => absurd c (by omega), fun _ => ⟨by omega, by omega, by omega, fun c => ?_, fun c => ⟨fun c2 => ?_, fun c2 => ⟨fun c3 => ?_, fun c3 => ?_⟩⟩⟩⟩
      · exact turn _ _ (by unfold tlt; omega)
      · exact same _ _ (by unfold tlt; omega)
      · exact same _ _ (by unfold tlt; omega)
      · exact turn _ _ (by unfold tlt; omega)
  exact r46_0 C K (lp (R 1).toNat 0 none none h (by omega) (by omega) (by omega) Fr.rf (fun d d0 d1 => by omega) (fun d d0 d1 => p4 d (by omega) d1))
