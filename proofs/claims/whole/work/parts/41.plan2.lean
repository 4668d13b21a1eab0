/-! THE CLASS: STEP and OUTSIDE of a plan. -/
-- OutwardDoors$Plan.step(III)I at 0
set_option maxRecDepth 20000 in
set_option maxHeartbeats 4000000 in
theorem r78_0 {X : Cst} {d : Nat} {a : Nat} {x1 : Int} {x2 : Int} {x3 : Int} {h : AH} {Q : Post} (C_h : Lay h) (K_h_0 : PlanAt h a)
  (w : (-2147483648 ≤ x2 ∧ x2 < 2147483648) ∧ (-2147483648 ≤ x3 ∧ x3 < 2147483648) ∧ ((¬ x2 = x3 → Ex X PG (d + 1) 78 17 [some (.ref a), some (.int (J x1)), some (.int (J x2)), some (.int (J x3)), some (.int (J (-1))), some (.int (J 99)), some (.int (J 0))] [] h Q) ∧ (x2 = x3 → Q (some (.int (J (-1)))) h))) :
    Ex X PG (d + 1) 78 0 [some (.ref a), some (.int (J x1)), some (.int (J x2)), some (.int (J x3)), none, none, none] [] h Q := by
  refine wpx_ok (cut := [17]) 9 d 78 0 _ _ _ _ ?_
  show ((¬ (J x2) = (J x3) → Ex X PG (d + 1) 78 17 [some (.ref a), some (.int (J x1)), some (.int (J x2)), some (.int (J x3)), some (.int (J (-1))), some (.int (J 99)), some (.int (J 0))] [] h Q) ∧ (¬ (¬ (J x2) = (J x3)) → Q (some (.int (J (-1)))) h))
  try simp only [aI_wAL, fI_wAL, aL_wA, aL_wF, aI_wA_ne, aI_wF_ne, fI_wA_ne, fI_wF_ne, fI_wF_nk, aL_wAL_ne, J_sameA, J_sameF, aL_same, Nat.add_left_cancel_iff, Nat.add_eq_left, Nat.left_eq_add, not_false_eq_true, Nat.reduceEqDiff, Nat.reduceAdd, J_add, J_sub, J_mul, J_neg, J_and, J_or, J_xor, J_shl, J_shr, J_div, J_i2b, J_i2l, J_l2i, J_lcm, J_max, J_min, J_nab, J_nao, rdA, rdF, rdL, wA_fold, wF_fold, wL_fold, wC_fold]
  obtain ⟨k3, w⟩ := w
  obtain ⟨k4, w⟩ := w
  refine ⟨fun c1 => ?_, fun c1 => ?_⟩
  · have t2 : ¬ x2 = x3 := (fun e => c1 ((Jeq k3 k4).mpr e))
    replace w := w.1 t2
    exact w
  · have t2 : x2 = x3 := ((Jeq k3 k4).mp (Classical.byContradiction c1))
    replace w := w.2 t2
    exact w
-- OutwardDoors$Plan.step(III)I at 17
set_option maxRecDepth 20000 in
set_option maxHeartbeats 4000000 in
theorem r78_17 {X : Cst} {d : Nat} {a : Nat} {x1 : Int} {x2 : Int} {x3 : Int} {x4 : Int} {x5 : Int} {x6 : Int} {S : Int → Int} {h : AH} {Q : Post} (C_h : Lay h) (K_h_0 : PlanAt h a) (hd : 2 ≤ d)
  (w : (-2147483648 ≤ x6 ∧ x6 < 2147483648) ∧ ((fI h a 0 ≤ x6 → Q (some (.int (J x4))) h) ∧ (¬ fI h a 0 ≤ x6 → (PlanRep h a S) ∧ (WF 999 S) ∧ (0 ≤ x1 ∧ x1 < 2) ∧ (0 ≤ x2 ∧ x2 < 8) ∧ (0 ≤ x6 ∧ x6 < 8) ∧ ((¬ (adj S (x1 = 1) x2 x6) → Ex X PG (d + 1) 78 17 [some (.ref a), some (.int (J x1)), some (.int (J x2)), some (.int (J x3)), some (.int (J x4)), some (.int (J x5)), some (.int (J (x6 + 1)))] [] h Q) ∧ ((adj S (x1 = 1) x2 x6) → (0 ≤ (x1 * 8 + x6) * 8 + x3 ∧ (x1 * 8 + x6) * 8 + x3 < 128) ∧ (-2147483648 ≤ x5 ∧ x5 < 2147483648) ∧ ((x5 ≤ aI h (a + 10) ((x1 * 8 + x6) * 8 + x3) → Ex X PG (d + 1) 78 17 [some (.ref a), some (.int (J x1)), some (.int (J x2)), some (.int (J x3)), some (.int (J x4)), some (.int (J x5)), some (.int (J (x6 + 1)))] [] h Q) ∧ (¬ x5 ≤ aI h (a + 10) ((x1 * 8 + x6) * 8 + x3) → Ex X PG (d + 1) 78 17 [some (.ref a), some (.int (J x1)), some (.int (J x2)), some (.int (J x3)), some (.int (J x6)), some (.int (J (aI h (a + 10) ((x1 * 8 + x6) * 8 + x3)))), some (.int (J (x6 + 1)))] [] h Q))))))) :
    Ex X PG (d + 1) 78 17 [some (.ref a), some (.int (J x1)), some (.int (J x2)), some (.int (J x3)), some (.int (J x4)), some (.int (J x5)), some (.int (J x6))] [] h Q := by
  refine wpx_ok (cut := [17]) 27 d 78 17 _ _ _ _ ?_
  show hs h a = (0, 2) ∧ (((hF h a 0) ≤ (J x6) → Q (some (.int (J x4))) h) ∧ (¬ ((hF h a 0) ≤ (J x6)) → hs h a = (0, 2) ∧ Ex X PG d 51 0 [some (.ref a), some (.int (J x1)), some (.int (J x2)), some (.int (J x6)), none] [] h (fun v4 h5 => ∃ r6, v4 = some (.int r6) ∧ ((r6 = (J 0) → Ex X PG (d + 1) 78 17 [some (.ref a), some (.int (J x1)), some (.int (J x2)), some (.int (J x3)), some (.int (J x4)), some (.int (J x5)), some (.int ((J x6) + (J 1)))] [] h5 Q) ∧ (¬ (r6 = (J 0)) → hs h5 a = (0, 2) ∧ Ex X PG d 54 0 [some (.ref a), some (.int (J x1)), some (.int (J x6)), some (.int (J x3))] [] h5 (fun v14 h15 => ∃ r16, v14 = some (.int r16) ∧ (((J x5) ≤ r16 → Ex X PG (d + 1) 78 17 [some (.ref a), some (.int (J x1)), some (.int (J x2)), some (.int (J x3)), some (.int (J x4)), some (.int (J x5)), some (.int ((J x6) + (J 1)))] [] h15 Q) ∧ (¬ ((J x5) ≤ r16) → hs h15 a = (0, 2) ∧ Ex X PG d 54 0 [some (.ref a), some (.int (J x1)), some (.int (J x6)), some (.int (J x3))] [] h15 (fun v21 h22 => ∃ r23, v21 = some (.int r23) ∧ Ex X PG (d + 1) 78 17 [some (.ref a), some (.int (J x1)), some (.int (J x2)), some (.int (J x3)), some (.int (J x6)), some (.int r23), some (.int ((J x6) + (J 1)))] [] h22 Q)))))))))
  try simp only [aI_wAL, fI_wAL, aL_wA, aL_wF, aI_wA_ne, aI_wF_ne, fI_wA_ne, fI_wF_ne, fI_wF_nk, aL_wAL_ne, J_sameA, J_sameF, aL_same, Nat.add_left_cancel_iff, Nat.add_eq_left, Nat.left_eq_add, not_false_eq_true, Nat.reduceEqDiff, Nat.reduceAdd, J_add, J_sub, J_mul, J_neg, J_and, J_or, J_xor, J_shl, J_shr, J_div, J_i2b, J_i2l, J_l2i, J_lcm, J_max, J_min, J_nab, J_nao, rdA, rdF, rdL, wA_fold, wF_fold, wL_fold, wC_fold]
  refine ⟨(plan_0 K_h_0), ?_⟩
  obtain ⟨k3, w⟩ := w
  refine ⟨fun c1 => ?_, fun c1 => ?_⟩
  · have t2 : fI h a 0 ≤ x6 := ((Jle (rg_toInt _) k3).mp c1)
    replace w := w.1 t2
    exact w
  · have t2 : ¬ fI h a 0 ≤ x6 := (fun e => c1 ((Jle (rg_toInt _) k3).mpr e))
    replace w := w.2 t2
    refine ⟨(plan_0 K_h_0), ?_⟩
    obtain ⟨k7, w⟩ := w
    obtain ⟨k8, w⟩ := w
    obtain ⟨k9, w⟩ := w
    obtain ⟨k10, w⟩ := w
    obtain ⟨k11, w⟩ := w
    refine m51 (h := h) (a := a) (r := x1) (x := x2) (y := x6) (S := S) C_h K_h_0 (by omega) k7 k8 k9 k10 k11 ?_
    refine ⟨_, rfl, ?_⟩
    try simp only [aI_wAL, fI_wAL, aL_wA, aL_wF, aI_wA_ne, aI_wF_ne, fI_wA_ne, fI_wF_ne, fI_wF_nk, aL_wAL_ne, J_sameA, J_sameF, aL_same, Nat.add_left_cancel_iff, Nat.add_eq_left, Nat.left_eq_add, not_false_eq_true, Nat.reduceEqDiff, Nat.reduceAdd, J_add, J_sub, J_mul, J_neg, J_and, J_or, J_xor, J_shl, J_shr, J_div, J_i2b, J_i2l, J_l2i, J_lcm, J_max, J_min, J_nab, J_nao, rdA, rdF, rdL, wA_fold, wF_fold, wL_fold, wC_fold]
    refine ⟨fun c12 => ?_, fun c12 => ?_⟩
    · have t13 : ¬ (adj S (x1 = 1) x2 x6) := ((bI0 _).mp c12)
      replace w := w.1 t13
      exact w
    · have t13 : (adj S (x1 = 1) x2 x6) := (Classical.byContradiction fun n => c12 ((bI0 _).mpr n))
      replace w := w.2 t13
      refine ⟨(plan_0 K_h_0), ?_⟩
      obtain ⟨k17, w⟩ := w
      refine m54 (h := h) (a := a) (r := x1) (x := x6) (y := x3) C_h K_h_0 (by omega) k17 ?_
      refine ⟨_, rfl, ?_⟩
      try simp only [aI_wAL, fI_wAL, aL_wA, aL_wF, aI_wA_ne, aI_wF_ne, fI_wA_ne, fI_wF_ne, fI_wF_nk, aL_wAL_ne, J_sameA, J_sameF, aL_same, Nat.add_left_cancel_iff, Nat.add_eq_left, Nat.left_eq_add, not_false_eq_true, Nat.reduceEqDiff, Nat.reduceAdd, J_add, J_sub, J_mul, J_neg, J_and, J_or, J_xor, J_shl, J_shr, J_div, J_i2b, J_i2l, J_l2i, J_lcm, J_max, J_min, J_nab, J_nao, rdA, rdF, rdL, wA_fold, wF_fold, wL_fold, wC_fold]
      obtain ⟨k20, w⟩ := w
      refine ⟨fun c18 => ?_, fun c18 => ?_⟩
      · have t19 : x5 ≤ aI h (a + 10) ((x1 * 8 + x6) * 8 + x3) := ((Jle k20 (rg_toInt _)).mp c18)
        replace w := w.1 t19
        exact w
      · have t19 : ¬ x5 ≤ aI h (a + 10) ((x1 * 8 + x6) * 8 + x3) := (fun e => c18 ((Jle k20 (rg_toInt _)).mpr e))
        replace w := w.2 t19
        refine ⟨(plan_0 K_h_0), ?_⟩
        refine m54 (h := h) (a := a) (r := x1) (x := x6) (y := x3) C_h K_h_0 (by omega) k17 ?_
        refine ⟨_, rfl, ?_⟩
        try simp only [aI_wAL, fI_wAL, aL_wA, aL_wF, aI_wA_ne, aI_wF_ne, fI_wA_ne, fI_wF_ne, fI_wF_nk, aL_wAL_ne, J_sameA, J_sameF, aL_same, Nat.add_left_cancel_iff, Nat.add_eq_left, Nat.left_eq_add, not_false_eq_true, Nat.reduceEqDiff, Nat.reduceAdd, J_add, J_sub, J_mul, J_neg, J_and, J_or, J_xor, J_shl, J_shr, J_div, J_i2b, J_i2l, J_l2i, J_lcm, J_max, J_min, J_nab, J_nao, rdA, rdF, rdL, wA_fold, wF_fold, wL_fold, wC_fold]
        exact w
theorem q78_17 {X : Cst} {d : Nat} {a : Nat} {r f g : Int} {S : Int → Int} {h : AH} {Q : Post} (C : Lay h) (K : PlanAt h a) (hd : 2 ≤ d) (P : PlanRep h a S) (W : WF 999 S) (hr : 0 ≤ r ∧ r < 2) (hf : 0 ≤ f ∧ f < S 0) (hg : 0 ≤ g ∧ g < S 0) (ne : ¬ f = g) (k : Q (some (.int (J (stp S (r = 1) f g)))) h) :
    ∀ (n : Nat) (i b v : Int), S 0 - i = n → 0 ≤ i → ((b = -1 ∧ v = 99 ∧ ∀ x, 0 ≤ x → x < i → adj S (r = 1) f x → lft S (r = 1) x g = 99) ∨ (0 ≤ b ∧ b < i ∧ adj S (r = 1) f b ∧ lft S (r = 1) b g = v ∧ v < 99 ∧ ∀ x, 0 ≤ x → x < i → adj S (r = 1) f x → v ≤ lft S (r = 1) x g ∧ (lft S (r = 1) x g = v → b ≤ x))) →
      Ex X PG (d + 1) 78 17 [some (.ref a), some (.int (J r)), some (.int (J f)), some (.int (J g)), some (.int (J b)), some (.int (J v)), some (.int (J i))] [] h Q := by
  have bb := W.1
  unfold WFb at bb
  intro n
  induction n with
  | zero =>
    intro i b v h1 h2 o
    refine r78_17 C K (S := S) (by omega) ?_
    rw [P.1.1]
    refine ⟨by omega, fun _ => ?_, fun c => absurd (by omega) c⟩
    have : stp S (r = 1) f g = b := by
      rcases o with ⟨rfl, -, o⟩ | ⟨b0, b1, b2, b3, b4, b5⟩
      · refine lst_no fun u hu z => ?_
        have ui := (adj_in W z.1).2
        have := o u hu (by omega) z.1
        have := z.2
        omega
      · have sm := lft_small W (a := b) (b := g) (t := r = 1) (adj_in W b2).2 (by omega)
        have tr := lft_tri (b := g) b2
        have l0 : ¬ lft S (r = 1) f g = 0 := fun z => ne (lft_0.mp z)
        obtain ⟨c, c1, c2⟩ := lft_nx (S := S) (t := r = 1) (a := f) (b := g) (by omega) l0
        have ci := (adj_in W c1).2
        have := (b5 c ci.1 (by omega) c1).1
        refine lst_eq b0 ⟨b2, by omega, by omega⟩ fun u hu z => ?_
        have ui := (adj_in W z.1).2
        exact (b5 u hu (by omega) z.1).2 (by have := z.2.1; omega)
    rw [this] at k
    exact k
  | succ n ih =>
    intro i b v h1 h2 o
    have vb : 0 ≤ v ∧ v ≤ 99 := by
      rcases o with o | o
      · omega
      · have := lft_b S (r = 1) b g; omega
    refine r78_17 C K (S := S) (by omega) ?_
    rw [P.1.1]
    refine ⟨by omega, fun c => absurd c (by omega), fun _ => ⟨P, W, hr, by omega, by omega, fun c => ?_, fun c => ?_⟩⟩
    · refine ih (i + 1) b v (by omega) (by omega) (o.imp (fun o => ⟨o.1, o.2.1, fun x x0 x1 x2 => ?_⟩) (fun o => ⟨o.1, by omega, o.2.2.1, o.2.2.2.1, o.2.2.2.2.1, fun x x0 x1 x2 => ?_⟩))
      · by_cases q : x = i
        · subst q; exact absurd x2 c
        · exact o.2.2 x x0 (by omega) x2
      · by_cases q : x = i
        · subst q; exact absurd x2 c
        · exact o.2.2.2.2.2 x x0 (by omega) x2
    · have e := P.2.2.2.2.2.2.2.2 r i g hr.1 hr.2 (by omega) (by omega) (by omega) (by omega)
      have lb := lft_b S (r = 1) i g
      rw [e]
      refine ⟨by omega, by omega, fun c2 => ?_, fun c2 => ?_⟩
      · refine ih (i + 1) b v (by omega) (by omega) (o.imp (fun o => ⟨o.1, o.2.1, fun x x0 x1 x2 => ?_⟩) (fun o => ⟨o.1, by omega, o.2.2.1, o.2.2.2.1, o.2.2.2.2.1, fun x x0 x1 x2 => ?_⟩))
        · by_cases q : x = i
          · subst q; omega
          · exact o.2.2 x x0 (by omega) x2
        · by_cases q : x = i
          · subst q; exact ⟨c2, fun _ => by omega⟩
          · exact o.2.2.2.2.2 x x0 (by omega) x2
      · refine ih (i + 1) i _ (by omega) (by omega) (Or.inr ⟨h2, by omega, c, rfl, by omega, fun x x0 x1 x2 => ?_⟩)
        by_cases q : x = i
        · subst q; exact ⟨Int.le_refl _, fun _ => Int.le_refl _⟩
        · rcases o with o | o
          · have := o.2.2 x x0 (by omega) x2; omega
          · have := o.2.2.2.2.2 x x0 (by omega) x2; omega
theorem m78 {X : Cst} {d : Nat} {a : Nat} {r f g : Int} {S : Int → Int} {h : AH} {Q : Post} (C : Lay h) (K : PlanAt h a) (hd : 3 ≤ d) (P : PlanRep h a S) (W : WF 999 S) (hr : 0 ≤ r ∧ r < 2) (hf : 0 ≤ f ∧ f < S 0) (hg : 0 ≤ g ∧ g < S 0) (k : Q (some (.int (J (stp S (r = 1) f g)))) h) : Ex X PG d 78 0 [some (.ref a), some (.int (J r)), some (.int (J f)), some (.int (J g)), none, none, none] [] h Q := by
  obtain ⟨d, rfl⟩ : ∃ e, d = e + 1 := ⟨d - 1, by omega⟩
  have bb := W.1
  unfold WFb at bb
  refine r78_0 C K ⟨by omega, by omega, fun c => ?_, fun c => ?_⟩
  · exact q78_17 C K (by omega) P W hr hf hg c k (S 0).toNat 0 (-1) 99 (by omega) (by omega) (Or.inl ⟨rfl, rfl, fun x x0 x1 => by omega⟩)
  · rw [show stp S (r = 1) f g = -1 from lst_no fun u hu z => by have := lft_0 (S := S) (t := r = 1) (a := f) (b := g) |>.mpr c; have := lft_b S (r = 1) u g; have := z.2.1; omega] at k
    exact k
-- OutwardDoors$Plan.outside(II)I at 0
set_option maxRecDepth 20000 in
set_option maxHeartbeats 4000000 in
theorem r82_0 {X : Cst} {d : Nat} {a : Nat} {x1 : Int} {x2 : Int} {h : AH} {Q : Post} (C_h : Lay h) (K_h_0 : PlanAt h a)
  (w : Ex X PG (d + 1) 82 7 [some (.ref a), some (.int (J x1)), some (.int (J x2)), some (.int (J (shl 1 (iand x2 31)))), some (.int (J 0)), none] [] h Q) :
    Ex X PG (d + 1) 82 0 [some (.ref a), some (.int (J x1)), some (.int (J x2)), none, none, none] [] h Q := by
  refine wpx_ok (cut := [7, 17]) 6 d 82 0 _ _ _ _ ?_
  show Ex X PG (d + 1) 82 7 [some (.ref a), some (.int (J x1)), some (.int (J x2)), some (.int ((J 1) <<< ((J x2) &&& J 31))), some (.int (J 0)), none] [] h Q
  try simp only [aI_wAL, fI_wAL, aL_wA, aL_wF, aI_wA_ne, aI_wF_ne, fI_wA_ne, fI_wF_ne, fI_wF_nk, aL_wAL_ne, J_sameA, J_sameF, aL_same, Nat.add_left_cancel_iff, Nat.add_eq_left, Nat.left_eq_add, not_false_eq_true, Nat.reduceEqDiff, Nat.reduceAdd, J_add, J_sub, J_mul, J_neg, J_and, J_or, J_xor, J_shl, J_shr, J_div, J_i2b, J_i2l, J_l2i, J_lcm, J_max, J_min, J_nab, J_nao, rdA, rdF, rdL, wA_fold, wF_fold, wL_fold, wC_fold]
  exact w
-- OutwardDoors$Plan.outside(II)I at 7
set_option maxRecDepth 20000 in
set_option maxHeartbeats 4000000 in
theorem r82_7 {X : Cst} {d : Nat} {a : Nat} {x1 : Int} {x2 : Int} {x3 : Int} {x4 : Int} {l5 : Option Value} {h : AH} {Q : Post} (C_h : Lay h) (K_h_0 : PlanAt h a)
  (w : (-2147483648 ≤ x4 ∧ x4 < 2147483648) ∧ ((8 ≤ x4 → Q (some (.int (J (iand x3 (ixr (shl 1 (iand x2 31)) (-1)))))) h) ∧ (¬ 8 ≤ x4 → Ex X PG (d + 1) 82 17 [some (.ref a), some (.int (J x1)), some (.int (J x2)), some (.int (J x3)), some (.int (J x4)), some (.int (J 0))] [] h Q))) :
    Ex X PG (d + 1) 82 7 [some (.ref a), some (.int (J x1)), some (.int (J x2)), some (.int (J x3)), some (.int (J x4)), l5] [] h Q := by
  refine wpx_ok (cut := [7, 17]) 11 d 82 7 _ _ _ _ ?_
  show (((J 8) ≤ (J x4) → Q (some (.int ((J x3) &&& (((J 1) <<< ((J x2) &&& J 31)) ^^^ (J (-1)))))) h) ∧ (¬ ((J 8) ≤ (J x4)) → Ex X PG (d + 1) 82 17 [some (.ref a), some (.int (J x1)), some (.int (J x2)), some (.int (J x3)), some (.int (J x4)), some (.int (J 0))] [] h Q))
  try simp only [aI_wAL, fI_wAL, aL_wA, aL_wF, aI_wA_ne, aI_wF_ne, fI_wA_ne, fI_wF_ne, fI_wF_nk, aL_wAL_ne, J_sameA, J_sameF, aL_same, Nat.add_left_cancel_iff, Nat.add_eq_left, Nat.left_eq_add, not_false_eq_true, Nat.reduceEqDiff, Nat.reduceAdd, J_add, J_sub, J_mul, J_neg, J_and, J_or, J_xor, J_shl, J_shr, J_div, J_i2b, J_i2l, J_l2i, J_lcm, J_max, J_min, J_nab, J_nao, rdA, rdF, rdL, wA_fold, wF_fold, wL_fold, wC_fold]
  obtain ⟨k3, w⟩ := w
  refine ⟨fun c1 => ?_, fun c1 => ?_⟩
  · have t2 : 8 ≤ x4 := ((Jle (by decide) k3).mp c1)
    replace w := w.1 t2
    exact w
  · have t2 : ¬ 8 ≤ x4 := (fun e => c1 ((Jle (by decide) k3).mpr e))
    replace w := w.2 t2
    exact w
-- OutwardDoors$Plan.outside(II)I at 17
set_option maxRecDepth 20000 in
set_option maxHeartbeats 4000000 in
theorem r82_17 {X : Cst} {d : Nat} {a : Nat} {x1 : Int} {x2 : Int} {x3 : Int} {x4 : Int} {x5 : Int} {S : Int → Int} {h : AH} {Q : Post} (C_h : Lay h) (K_h_0 : PlanAt h a) (hd : 1 ≤ d)
  (w : (-2147483648 ≤ x5 ∧ x5 < 2147483648) ∧ ((fI h a 1 ≤ x5 → Ex X PG (d + 1) 82 7 [some (.ref a), some (.int (J x1)), some (.int (J x2)), some (.int (J x3)), some (.int (J (x4 + 1))), some (.int (J x5))] [] h Q) ∧ (¬ fI h a 1 ≤ x5 → (PlanRep h a S) ∧ (0 ≤ x1 ∧ x1 < 2) ∧ (0 ≤ x5 ∧ x5 < 14) ∧ ((¬ (x5 < S 1 ∧ opn S (x1 = 1) x5) → Ex X PG (d + 1) 82 17 [some (.ref a), some (.int (J x1)), some (.int (J x2)), some (.int (J x3)), some (.int (J x4)), some (.int (J (x5 + 1)))] [] h Q) ∧ ((x5 < S 1 ∧ opn S (x1 = 1) x5) → ((¬ iand (shr x3 (iand (aI h (a + 2) x5) 31)) 1 = 1 → Ex X PG (d + 1) 82 17 [some (.ref a), some (.int (J x1)), some (.int (J x2)), some (.int (J x3)), some (.int (J x4)), some (.int (J (x5 + 1)))] [] h Q) ∧ (iand (shr x3 (iand (aI h (a + 2) x5) 31)) 1 = 1 → Ex X PG (d + 1) 82 17 [some (.ref a), some (.int (J x1)), some (.int (J x2)), some (.int (J (ior x3 (shl 1 (iand (aI h (a + 3) x5) 31))))), some (.int (J x4)), some (.int (J (x5 + 1)))] [] h Q))))))) :
    Ex X PG (d + 1) 82 17 [some (.ref a), some (.int (J x1)), some (.int (J x2)), some (.int (J x3)), some (.int (J x4)), some (.int (J x5))] [] h Q := by
  refine wpx_ok (cut := [7, 17]) 30 d 82 17 _ _ _ _ ?_
  show hs h a = (0, 2) ∧ (((hF h a 1) ≤ (J x5) → Ex X PG (d + 1) 82 7 [some (.ref a), some (.int (J x1)), some (.int (J x2)), some (.int (J x3)), some (.int ((J x4) + (J 1))), some (.int (J x5))] [] h Q) ∧ (¬ ((hF h a 1) ≤ (J x5)) → hs h a = (0, 2) ∧ Ex X PG d 52 0 [some (.ref a), some (.int (J x1)), some (.int (J x5))] [] h (fun v4 h5 => ∃ r6, v4 = some (.int r6) ∧ ((r6 = (J 0) → Ex X PG (d + 1) 82 17 [some (.ref a), some (.int (J x1)), some (.int (J x2)), some (.int (J x3)), some (.int (J x4)), some (.int ((J x5) + (J 1)))] [] h5 Q) ∧ (¬ (r6 = (J 0)) → hs h5 a = (0, 2) ∧ ∃ q12, hR h5 a 7 = some q12 ∧ (hs h5 q12).1 = 1 ∧ ix (J x5) (hs h5 q12).2 ∧ ((¬ (((J x3) >>> ((hI h5 q12 (Int32.toNatClampNeg (J x5))) &&& J 31)) &&& (J 1)) = (J 1) → Ex X PG (d + 1) 82 17 [some (.ref a), some (.int (J x1)), some (.int (J x2)), some (.int (J x3)), some (.int (J x4)), some (.int ((J x5) + (J 1)))] [] h5 Q) ∧ (¬ (¬ (((J x3) >>> ((hI h5 q12 (Int32.toNatClampNeg (J x5))) &&& J 31)) &&& (J 1)) = (J 1)) → hs h5 a = (0, 2) ∧ ∃ q15, hR h5 a 8 = some q15 ∧ (hs h5 q15).1 = 1 ∧ ix (J x5) (hs h5 q15).2 ∧ Ex X PG (d + 1) 82 17 [some (.ref a), some (.int (J x1)), some (.int (J x2)), some (.int ((J x3) ||| ((J 1) <<< ((hI h5 q15 (Int32.toNatClampNeg (J x5))) &&& J 31)))), some (.int (J x4)), some (.int ((J x5) + (J 1)))] [] h5 Q)))))))
  try simp only [aI_wAL, fI_wAL, aL_wA, aL_wF, aI_wA_ne, aI_wF_ne, fI_wA_ne, fI_wF_ne, fI_wF_nk, aL_wAL_ne, J_sameA, J_sameF, aL_same, Nat.add_left_cancel_iff, Nat.add_eq_left, Nat.left_eq_add, not_false_eq_true, Nat.reduceEqDiff, Nat.reduceAdd, J_add, J_sub, J_mul, J_neg, J_and, J_or, J_xor, J_shl, J_shr, J_div, J_i2b, J_i2l, J_l2i, J_lcm, J_max, J_min, J_nab, J_nao, rdA, rdF, rdL, wA_fold, wF_fold, wL_fold, wC_fold]
  refine ⟨(plan_0 K_h_0), ?_⟩
  obtain ⟨k3, w⟩ := w
  refine ⟨fun c1 => ?_, fun c1 => ?_⟩
  · have t2 : fI h a 1 ≤ x5 := ((Jle (rg_toInt _) k3).mp c1)
    replace w := w.1 t2
    exact w
  · have t2 : ¬ fI h a 1 ≤ x5 := (fun e => c1 ((Jle (rg_toInt _) k3).mpr e))
    replace w := w.2 t2
    refine ⟨(plan_0 K_h_0), ?_⟩
    obtain ⟨k7, w⟩ := w
    obtain ⟨k8, w⟩ := w
    obtain ⟨k9, w⟩ := w
    refine m52 (h := h) (a := a) (r := x1) (x := x5) (S := S) C_h K_h_0 (by omega) k7 k8 k9 ?_
    refine ⟨_, rfl, ?_⟩
    try simp only [aI_wAL, fI_wAL, aL_wA, aL_wF, aI_wA_ne, aI_wF_ne, fI_wA_ne, fI_wF_ne, fI_wF_nk, aL_wAL_ne, J_sameA, J_sameF, aL_same, Nat.add_left_cancel_iff, Nat.add_eq_left, Nat.left_eq_add, not_false_eq_true, Nat.reduceEqDiff, Nat.reduceAdd, J_add, J_sub, J_mul, J_neg, J_and, J_or, J_xor, J_shl, J_shr, J_div, J_i2b, J_i2l, J_l2i, J_lcm, J_max, J_min, J_nab, J_nao, rdA, rdF, rdL, wA_fold, wF_fold, wL_fold, wC_fold]
    refine ⟨fun c10 => ?_, fun c10 => ?_⟩
    · have t11 : ¬ (x5 < S 1 ∧ opn S (x1 = 1) x5) := ((bI0 _).mp c10)
      replace w := w.1 t11
      exact w
    · have t11 : (x5 < S 1 ∧ opn S (x1 = 1) x5) := (Classical.byContradiction fun n => c10 ((bI0 _).mpr n))
      replace w := w.2 t11
      refine ⟨(plan_0 K_h_0), _, (plan_12 K_h_0), ?_⟩
      refine ⟨congrArg Prod.fst (plan_2 K_h_0), ixs (plan_2 K_h_0) k9 (by decide), ?_⟩
      refine ⟨fun c13 => ?_, fun c13 => ?_⟩
      · have t14 : ¬ iand (shr x3 (iand (aI h (a + 2) x5) 31)) 1 = 1 := (fun e => c13 ((Jeq (rg_toInt _) (by decide)).mpr e))
        replace w := w.1 t14
        exact w
      · have t14 : iand (shr x3 (iand (aI h (a + 2) x5) 31)) 1 = 1 := ((Jeq (rg_toInt _) (by decide)).mp (Classical.byContradiction c13))
        replace w := w.2 t14
        refine ⟨(plan_0 K_h_0), _, (plan_13 K_h_0), ?_⟩
        refine ⟨congrArg Prod.fst (plan_3 K_h_0), ixs (plan_3 K_h_0) k9 (by decide), ?_⟩
        exact w
theorem q82_17 {X : Cst} {d : Nat} {a : Nat} {r x v : Int} {s : Nat} {S : Int → Int} {h : AH} {Q : Post} (C : Lay h) (K : PlanAt h a) (hd : 1 ≤ d) (P : PlanRep h a S) (W : WF 999 S) (hr : 0 ≤ r ∧ r < 2) (hs : s < 256)
    (k : ∀ l5, Ex X PG (d + 1) 82 7 [some (.ref a), some (.int (J r)), some (.int (J x)), some (.int (J (odr S (r = 1) (S 1).toNat s : Nat))), some (.int (J (v + 1))), l5] [] h Q) :
    ∀ (n : Nat) (i : Int), S 1 - i = n → 0 ≤ i → Ex X PG (d + 1) 82 17 [some (.ref a), some (.int (J r)), some (.int (J x)), some (.int (J (odr S (r = 1) i.toNat s : Nat))), some (.int (J v)), some (.int (J i))] [] h Q := by
  have b := W.1
  unfold WFb at b
  intro n
  induction n with
  | zero =>
    intro i h1 h2
    refine r82_17 C K (S := S) (by omega) ?_
    rw [P.1.2.1]
    refine ⟨by omega, fun _ => ?_, fun c => absurd (by omega) c⟩
    rw [show i = S 1 by omega]; exact k _
  | succ n ih =>
    intro i h1 h2
    have e : (i + 1).toNat = i.toNat + 1 := by omega
    have ei : (i.toNat : Int) = i := by omega
    have dd := W.2.2.2.1 i (by omega) (by omega)
    have pd := P.2.2.2.1 i (by omega) (by omega)
    have ol := odr_lt (S := S) (t := r = 1) hs i.toNat (fun d h1 h2 => by have := W.2.2.2.1 d h1 (by omega); omega)
    have nx := ih (i + 1) (by omega) (by omega)
    rw [e] at nx
    unfold odr at nx
    rw [ei] at nx
    refine r82_17 C K (S := S) (by omega) ?_
    rw [P.1.2.1, pd.1, pd.2, isof_iff (by omega) (by omega)]
    refine ⟨by omega, fun c => absurd c (by omega), fun _ => ⟨P, hr, by omega, fun c => ?_, fun c => ⟨fun c2 => ?_, fun c2 => ?_⟩⟩⟩
    · rw [if_neg (fun z => c ⟨by omega, z.1⟩)] at nx; exact nx
    · rw [if_neg (fun z => c2 z.2)] at nx; exact nx
    · rw [if_pos ⟨c.2, c2⟩] at nx
      have fl : (2 : Nat) ^ (fr S i).toNat < 2 ^ 8 := Nat.pow_lt_pow_right (by decide) (by omega)
      rw [shl_1 (by omega), ior_nat (by omega) (by omega)]
      exact nx
theorem q82_7 {X : Cst} {d : Nat} {a : Nat} {r x : Int} {S : Int → Int} {h : AH} {Q : Post} (C : Lay h) (K : PlanAt h a) (hd : 1 ≤ d) (P : PlanRep h a S) (W : WF 999 S) (hr : 0 ≤ r ∧ r < 2) (hx : 0 ≤ x ∧ x < 8) (k : Q (some (.int (J (outw S (r = 1) x)))) h) :
    ∀ (n : Nat) (i : Int) (l5 : Option Value), 8 - i = n → 0 ≤ i → Ex X PG (d + 1) 82 7 [some (.ref a), some (.int (J r)), some (.int (J x)), some (.int (J (ord S (r = 1) i.toNat (2 ^ x.toNat) : Nat))), some (.int (J i)), l5] [] h Q := by
  have rl : (2 : Nat) ^ x.toNat < 2 ^ 8 := Nat.pow_lt_pow_right (by decide) (by omega)
  have b := W.1
  unfold WFb at b
  intro n
  induction n with
  | zero =>
    intro i l5 h1 h2
    have e : i = 8 := by omega
    subst e
    have ol := ord_lt (t := r = 1) W (s := 2 ^ x.toNat) (by omega) 8
    refine r82_7 C K ⟨by omega, fun c => ?_, fun c => absurd (by omega) c⟩
    rw [shl_1 (by omega), show (8 : Int).toNat = 8 from rfl, iandn_nat (by omega)]
    exact k
  | succ n ih =>
    intro i l5 h1 h2
    refine r82_7 C K ⟨by omega, fun c => absurd c (by omega), fun c => ?_⟩
    refine q82_17 C K hd P W hr (ord_lt W (by omega) _) (fun l5 => ?_) (S 1).toNat 0 (by omega) (by omega)
    have := ih (i + 1) l5 (by omega) (by omega)
    rw [show (i + 1).toNat = i.toNat + 1 by omega] at this
    exact this
theorem m82 {X : Cst} {d : Nat} {a : Nat} {r x : Int} {S : Int → Int} {h : AH} {Q : Post} (C : Lay h) (K : PlanAt h a) (hd : 2 ≤ d) (P : PlanRep h a S) (W : WF 999 S) (hr : 0 ≤ r ∧ r < 2) (hx : 0 ≤ x ∧ x < 8) (k : Q (some (.int (J (outw S (r = 1) x)))) h) : Ex X PG d 82 0 [some (.ref a), some (.int (J r)), some (.int (J x)), none, none, none] [] h Q := by
  obtain ⟨d, rfl⟩ : ∃ e, d = e + 1 := ⟨d - 1, by omega⟩
  refine r82_0 C K ?_
  rw [shl_1 (by omega)]
  exact q82_7 C K (by omega) P W hr hx k 8 0 none (by omega) (by omega)
