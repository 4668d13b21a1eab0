/-! Doors and clauses as the class reads them. -/
-- OutwardDoors$Plan.joinedTo(I)I at 0
set_option maxRecDepth 20000 in
set_option maxHeartbeats 4000000 in
theorem r41_0 {X : Cst} {d : Nat} {a : Nat} {x1 : Int} {h : AH} {Q : Post} (C_h : Lay h) (K_h_0 : PlanAt h a)
  (w : Ex X PG (d + 1) 41 4 [some (.ref a), some (.int (J x1)), some (.int (J 0)), some (.int (J 0))] [] h Q) :
    Ex X PG (d + 1) 41 0 [some (.ref a), some (.int (J x1)), none, none] [] h Q := by
  refine wpx_ok (cut := [4]) 4 d 41 0 _ _ _ _ ?_
  show Ex X PG (d + 1) 41 4 [some (.ref a), some (.int (J x1)), some (.int (J 0)), some (.int (J 0))] [] h Q
  try simp only [aI_wAL, fI_wAL, aL_wA, aL_wF, aI_wA_ne, aI_wF_ne, fI_wA_ne, fI_wF_ne, fI_wF_nk, aL_wAL_ne, J_sameA, J_sameF, aL_same, Nat.add_left_cancel_iff, Nat.add_eq_left, Nat.left_eq_add, not_false_eq_true, Nat.reduceEqDiff, Nat.reduceAdd, J_add, J_sub, J_mul, J_neg, J_and, J_or, J_xor, J_shl, J_shr, J_div, J_i2b, J_i2l, J_l2i, J_lcm, J_max, J_min, J_nab, J_nao, rdA, rdF, rdL, wA_fold, wF_fold, wL_fold, wC_fold]
  exact w
-- OutwardDoors$Plan.joinedTo(I)I at 4
set_option maxRecDepth 20000 in
set_option maxHeartbeats 4000000 in
theorem r41_4 {X : Cst} {d : Nat} {a : Nat} {x1 : Int} {x2 : Int} {x3 : Int} {h : AH} {Q : Post} (C_h : Lay h) (K_h_0 : PlanAt h a) (hd : 1 ≤ d)
  (w : (-2147483648 ≤ x3 ∧ x3 < 2147483648) ∧ ((8 ≤ x3 → Q (some (.int (J x2))) h) ∧ (¬ 8 ≤ x3 → (0 ≤ x1 * 8 + x3 ∧ x1 * 8 + x3 < 64) ∧ ((aI h (a + 7) (x1 * 8 + x3) = (-1) → Ex X PG (d + 1) 41 4 [some (.ref a), some (.int (J x1)), some (.int (J x2)), some (.int (J (x3 + 1)))] [] h Q) ∧ (¬ aI h (a + 7) (x1 * 8 + x3) = (-1) → Ex X PG (d + 1) 41 4 [some (.ref a), some (.int (J x1)), some (.int (J (ior x2 (shl 1 (iand x3 31))))), some (.int (J (x3 + 1)))] [] h Q))))) :
    Ex X PG (d + 1) 41 4 [some (.ref a), some (.int (J x1)), some (.int (J x2)), some (.int (J x3))] [] h Q := by
  refine wpx_ok (cut := [4]) 17 d 41 4 _ _ _ _ ?_
  show (((J 8) ≤ (J x3) → Q (some (.int (J x2))) h) ∧ (¬ ((J 8) ≤ (J x3)) → hs h a = (0, 2) ∧ Ex X PG d 42 0 [some (.ref a), some (.int (J x1)), some (.int (J x3))] [] h (fun v4 h5 => ∃ r6, v4 = some (.int r6) ∧ ((r6 = (J (-1)) → Ex X PG (d + 1) 41 4 [some (.ref a), some (.int (J x1)), some (.int (J x2)), some (.int ((J x3) + (J 1)))] [] h5 Q) ∧ (¬ (r6 = (J (-1))) → Ex X PG (d + 1) 41 4 [some (.ref a), some (.int (J x1)), some (.int ((J x2) ||| ((J 1) <<< ((J x3) &&& J 31)))), some (.int ((J x3) + (J 1)))] [] h5 Q)))))
  try simp only [aI_wAL, fI_wAL, aL_wA, aL_wF, aI_wA_ne, aI_wF_ne, fI_wA_ne, fI_wF_ne, fI_wF_nk, aL_wAL_ne, J_sameA, J_sameF, aL_same, Nat.add_left_cancel_iff, Nat.add_eq_left, Nat.left_eq_add, not_false_eq_true, Nat.reduceEqDiff, Nat.reduceAdd, J_add, J_sub, J_mul, J_neg, J_and, J_or, J_xor, J_shl, J_shr, J_div, J_i2b, J_i2l, J_l2i, J_lcm, J_max, J_min, J_nab, J_nao, rdA, rdF, rdL, wA_fold, wF_fold, wL_fold, wC_fold]
  obtain ⟨k3, w⟩ := w
  refine ⟨fun c1 => ?_, fun c1 => ?_⟩
  · have t2 : 8 ≤ x3 := ((Jle (by decide) k3).mp c1)
    replace w := w.1 t2
    exact w
  · have t2 : ¬ 8 ≤ x3 := (fun e => c1 ((Jle (by decide) k3).mpr e))
    replace w := w.2 t2
    refine ⟨(plan_0 K_h_0), ?_⟩
    obtain ⟨k7, w⟩ := w
    refine m42 (h := h) (a := a) (x := x1) (y := x3) C_h K_h_0 (by omega) k7 ?_
    refine ⟨_, rfl, ?_⟩
    try simp only [aI_wAL, fI_wAL, aL_wA, aL_wF, aI_wA_ne, aI_wF_ne, fI_wA_ne, fI_wF_ne, fI_wF_nk, aL_wAL_ne, J_sameA, J_sameF, aL_same, Nat.add_left_cancel_iff, Nat.add_eq_left, Nat.left_eq_add, not_false_eq_true, Nat.reduceEqDiff, Nat.reduceAdd, J_add, J_sub, J_mul, J_neg, J_and, J_or, J_xor, J_shl, J_shr, J_div, J_i2b, J_i2l, J_l2i, J_lcm, J_max, J_min, J_nab, J_nao, rdA, rdF, rdL, wA_fold, wF_fold, wL_fold, wC_fold]
    refine ⟨fun c8 => ?_, fun c8 => ?_⟩
    · have t9 : aI h (a + 7) (x1 * 8 + x3) = (-1) := ((Jeq (rg_toInt _) (by decide)).mp c8)
      replace w := w.1 t9
      exact w
    · have t9 : ¬ aI h (a + 7) (x1 * 8 + x3) = (-1) := (fun e => c8 ((Jeq (rg_toInt _) (by decide)).mpr e))
      replace w := w.2 t9
      exact w
theorem m41 {X : Cst} {d a : Nat} {x : Int} {h : AH} {Q : Post} (C : Lay h) (K : PlanAt h a) (hd : 2 ≤ d) (hx : 0 ≤ x ∧ x < 8) (k : Q (some (.int (J ((bset 8 (fun r => ¬ aI h (a + 7) (x * 8 + r) = -1) : Nat) : Int)))) h) : Ex X PG d 41 0 [some (.ref a), some (.int (J x)), none, none] [] h Q := by
  obtain ⟨d, rfl⟩ : ∃ e, d = e + 1 := ⟨d - 1, by omega⟩
  have lp : ∀ (z n : Nat), 8 - n = z → n ≤ 8 → Ex X PG (d + 1) 41 4 [some (.ref a), some (.int (J x)), some (.int (J ((bset n (fun r => ¬ aI h (a + 7) (x * 8 + r) = -1) : Nat) : Int))), some (.int (J n))] [] h Q := by
    intro z
    induction z with
    | zero =>
      intro n ez hn
      have en : n = 8 := by omega
      subst en
      exact r41_4 C K (by omega) ⟨by omega, fun _ => k, fun c => absurd (by omega) c⟩
    | succ z ih =>
      intro n ez hn
      have bl := bset_lt (fun r => ¬ aI h (a + 7) (x * 8 + r) = -1) n
      have p8 : 2 ^ n ≤ 256 := by
        have : n = 0 ∨ n = 1 ∨ n = 2 ∨ n = 3 ∨ n = 4 ∨ n = 5 ∨ n = 6 ∨ n = 7 := by omega
        rcases this with e | e | e | e | e | e | e | e <;> rw [e] <;> decide
      refine r41_4 C K (by omega) ⟨by omega, fun c => absurd c (by omega), fun _ => ⟨by omega, fun c => ?_, fun c => ?_⟩⟩
      · have q := ih (n + 1) (by omega) (by omega)
        rw [← bset_no (fun z => z c)] at q
        exact q
      · have q := ih (n + 1) (by omega) (by omega)
        rw [← bset_or (P := fun r : Nat => ¬ aI h (a + 7) (x * 8 + r) = -1) c] at q
        rw [shl_1 (by omega), show (n : Int).toNat = n by omega, ior_nat (by omega) (by omega)]
        exact q
  refine r41_0 C K ?_
  exact lp 8 0 (by omega) (by omega)
-- OutwardDoors$Plan.addDoor(IIZ)V at 0
set_option maxRecDepth 20000 in
set_option maxHeartbeats 4000000 in
theorem r43_0 {X : Cst} {d : Nat} {a : Nat} {x1 : Int} {x2 : Int} {x3 : Int} {h : AH} {Q : Post} (C_h : Lay h) (K_h_0 : PlanAt h a)
  (w : (0 ≤ fI h a 1 ∧ fI h a 1 < 14) ∧ Ex X PG (d + 1) 43 10 [some (.ref a), some (.int (J x1)), some (.int (J x2)), some (.int (J x3))] [] (wA h (a + 2) (fI h a 1) x1) Q) :
    Ex X PG (d + 1) 43 0 [some (.ref a), some (.int (J x1)), some (.int (J x2)), some (.int (J x3))] [] h Q := by
  refine wpx_ok (cut := [10, 20, 35, 50, 69]) 6 d 43 0 _ _ _ _ ?_
  show hs h a = (0, 2) ∧ ∃ q1, hR h a 7 = some q1 ∧ hs h a = (0, 2) ∧ (hs h q1).1 = 1 ∧ ix (hF h a 1) (hs h q1).2 ∧ Ex X PG (d + 1) 43 10 [some (.ref a), some (.int (J x1)), some (.int (J x2)), some (.int (J x3))] [] (wI h q1 (Int32.toNatClampNeg (hF h a 1)) (J x1)) Q
  try simp only [aI_wAL, fI_wAL, aL_wA, aL_wF, aI_wA_ne, aI_wF_ne, fI_wA_ne, fI_wF_ne, fI_wF_nk, aL_wAL_ne, J_sameA, J_sameF, aL_same, Nat.add_left_cancel_iff, Nat.add_eq_left, Nat.left_eq_add, not_false_eq_true, Nat.reduceEqDiff, Nat.reduceAdd, J_add, J_sub, J_mul, J_neg, J_and, J_or, J_xor, J_shl, J_shr, J_div, J_i2b, J_i2l, J_l2i, J_lcm, J_max, J_min, J_nab, J_nao, rdA, rdF, rdL, wA_fold, wF_fold, wL_fold, wC_fold]
  refine ⟨(plan_0 K_h_0), _, (plan_12 K_h_0), ?_⟩
  refine ⟨(plan_0 K_h_0), ?_⟩
  obtain ⟨k2, w⟩ := w
  refine ⟨congrArg Prod.fst (plan_2 K_h_0), ixs (plan_2 K_h_0) k2 (by decide), ?_⟩
  exact w
-- OutwardDoors$Plan.addDoor(IIZ)V at 10
set_option maxRecDepth 20000 in
set_option maxHeartbeats 4000000 in
theorem r43_10 {X : Cst} {d : Nat} {a : Nat} {x1 : Int} {x2 : Int} {x3 : Int} {h : AH} {Q : Post} (C_h : Lay h) (K_h_0 : PlanAt h a)
  (w : (0 ≤ fI h a 1 ∧ fI h a 1 < 14) ∧ Ex X PG (d + 1) 43 20 [some (.ref a), some (.int (J x1)), some (.int (J x2)), some (.int (J x3))] [] (wA h (a + 3) (fI h a 1) x2) Q) :
    Ex X PG (d + 1) 43 10 [some (.ref a), some (.int (J x1)), some (.int (J x2)), some (.int (J x3))] [] h Q := by
  refine wpx_ok (cut := [10, 20, 35, 50, 69]) 6 d 43 10 _ _ _ _ ?_
  show hs h a = (0, 2) ∧ ∃ q1, hR h a 8 = some q1 ∧ hs h a = (0, 2) ∧ (hs h q1).1 = 1 ∧ ix (hF h a 1) (hs h q1).2 ∧ Ex X PG (d + 1) 43 20 [some (.ref a), some (.int (J x1)), some (.int (J x2)), some (.int (J x3))] [] (wI h q1 (Int32.toNatClampNeg (hF h a 1)) (J x2)) Q
  try simp only [aI_wAL, fI_wAL, aL_wA, aL_wF, aI_wA_ne, aI_wF_ne, fI_wA_ne, fI_wF_ne, fI_wF_nk, aL_wAL_ne, J_sameA, J_sameF, aL_same, Nat.add_left_cancel_iff, Nat.add_eq_left, Nat.left_eq_add, not_false_eq_true, Nat.reduceEqDiff, Nat.reduceAdd, J_add, J_sub, J_mul, J_neg, J_and, J_or, J_xor, J_shl, J_shr, J_div, J_i2b, J_i2l, J_l2i, J_lcm, J_max, J_min, J_nab, J_nao, rdA, rdF, rdL, wA_fold, wF_fold, wL_fold, wC_fold]
  refine ⟨(plan_0 K_h_0), _, (plan_13 K_h_0), ?_⟩
  refine ⟨(plan_0 K_h_0), ?_⟩
  obtain ⟨k2, w⟩ := w
  refine ⟨congrArg Prod.fst (plan_3 K_h_0), ixs (plan_3 K_h_0) k2 (by decide), ?_⟩
  exact w
-- OutwardDoors$Plan.addDoor(IIZ)V at 20
set_option maxRecDepth 20000 in
set_option maxHeartbeats 4000000 in
theorem r43_20 {X : Cst} {d : Nat} {a : Nat} {x1 : Int} {x2 : Int} {x3 : Int} {h : AH} {Q : Post} (C_h : Lay h) (K_h_0 : PlanAt h a)
  (w : (0 ≤ (x1 * 8) + x2 ∧ (x1 * 8) + x2 < 64) ∧ Ex X PG (d + 1) 43 35 [some (.ref a), some (.int (J x1)), some (.int (J x2)), some (.int (J x3))] [] (wA h (a + 7) ((x1 * 8) + x2) (fI h a 1)) Q) :
    Ex X PG (d + 1) 43 20 [some (.ref a), some (.int (J x1)), some (.int (J x2)), some (.int (J x3))] [] h Q := by
  refine wpx_ok (cut := [10, 20, 35, 50, 69]) 10 d 43 20 _ _ _ _ ?_
  show hs h a = (0, 2) ∧ ∃ q1, hR h a 12 = some q1 ∧ hs h a = (0, 2) ∧ (hs h q1).1 = 1 ∧ ix (((J x1) * (J 8)) + (J x2)) (hs h q1).2 ∧ Ex X PG (d + 1) 43 35 [some (.ref a), some (.int (J x1)), some (.int (J x2)), some (.int (J x3))] [] (wI h q1 (Int32.toNatClampNeg (((J x1) * (J 8)) + (J x2))) (hF h a 1)) Q
  try simp only [aI_wAL, fI_wAL, aL_wA, aL_wF, aI_wA_ne, aI_wF_ne, fI_wA_ne, fI_wF_ne, fI_wF_nk, aL_wAL_ne, J_sameA, J_sameF, aL_same, Nat.add_left_cancel_iff, Nat.add_eq_left, Nat.left_eq_add, not_false_eq_true, Nat.reduceEqDiff, Nat.reduceAdd, J_add, J_sub, J_mul, J_neg, J_and, J_or, J_xor, J_shl, J_shr, J_div, J_i2b, J_i2l, J_l2i, J_lcm, J_max, J_min, J_nab, J_nao, rdA, rdF, rdL, wA_fold, wF_fold, wL_fold, wC_fold]
  refine ⟨(plan_0 K_h_0), _, (plan_17 K_h_0), ?_⟩
  refine ⟨(plan_0 K_h_0), ?_⟩
  obtain ⟨k2, w⟩ := w
  refine ⟨congrArg Prod.fst (plan_7 K_h_0), ixs (plan_7 K_h_0) k2 (by decide), ?_⟩
  exact w
-- OutwardDoors$Plan.addDoor(IIZ)V at 35
set_option maxRecDepth 20000 in
set_option maxHeartbeats 4000000 in
theorem r43_35 {X : Cst} {d : Nat} {a : Nat} {x1 : Int} {x2 : Int} {x3 : Int} {h : AH} {Q : Post} (C_h : Lay h) (K_h_0 : PlanAt h a)
  (w : (0 ≤ (x2 * 8) + x1 ∧ (x2 * 8) + x1 < 64) ∧ Ex X PG (d + 1) 43 50 [some (.ref a), some (.int (J x1)), some (.int (J x2)), some (.int (J x3))] [] (wA h (a + 7) ((x2 * 8) + x1) (fI h a 1)) Q) :
    Ex X PG (d + 1) 43 35 [some (.ref a), some (.int (J x1)), some (.int (J x2)), some (.int (J x3))] [] h Q := by
  refine wpx_ok (cut := [10, 20, 35, 50, 69]) 10 d 43 35 _ _ _ _ ?_
  show hs h a = (0, 2) ∧ ∃ q1, hR h a 12 = some q1 ∧ hs h a = (0, 2) ∧ (hs h q1).1 = 1 ∧ ix (((J x2) * (J 8)) + (J x1)) (hs h q1).2 ∧ Ex X PG (d + 1) 43 50 [some (.ref a), some (.int (J x1)), some (.int (J x2)), some (.int (J x3))] [] (wI h q1 (Int32.toNatClampNeg (((J x2) * (J 8)) + (J x1))) (hF h a 1)) Q
  try simp only [aI_wAL, fI_wAL, aL_wA, aL_wF, aI_wA_ne, aI_wF_ne, fI_wA_ne, fI_wF_ne, fI_wF_nk, aL_wAL_ne, J_sameA, J_sameF, aL_same, Nat.add_left_cancel_iff, Nat.add_eq_left, Nat.left_eq_add, not_false_eq_true, Nat.reduceEqDiff, Nat.reduceAdd, J_add, J_sub, J_mul, J_neg, J_and, J_or, J_xor, J_shl, J_shr, J_div, J_i2b, J_i2l, J_l2i, J_lcm, J_max, J_min, J_nab, J_nao, rdA, rdF, rdL, wA_fold, wF_fold, wL_fold, wC_fold]
  refine ⟨(plan_0 K_h_0), _, (plan_17 K_h_0), ?_⟩
  refine ⟨(plan_0 K_h_0), ?_⟩
  obtain ⟨k2, w⟩ := w
  refine ⟨congrArg Prod.fst (plan_7 K_h_0), ixs (plan_7 K_h_0) k2 (by decide), ?_⟩
  exact w
-- OutwardDoors$Plan.addDoor(IIZ)V at 50
set_option maxRecDepth 20000 in
set_option maxHeartbeats 4000000 in
theorem r43_50 {X : Cst} {d : Nat} {a : Nat} {x1 : Int} {x2 : Int} {x3 : Int} {h : AH} {Q : Post} (C_h : Lay h) (K_h_0 : PlanAt h a)
  (w : (-2147483648 ≤ x3 ∧ x3 < 2147483648) ∧ ((x3 = 0 → Ex X PG (d + 1) 43 69 [some (.ref a), some (.int (J x1)), some (.int (J x2)), some (.int (J x3))] [] h Q) ∧ (¬ x3 = 0 → Ex X PG (d + 1) 43 69 [some (.ref a), some (.int (J x1)), some (.int (J x2)), some (.int (J x3))] [] (wF h a 3 (ior (fI h a 3) (shl 1 (iand (fI h a 1) 31)))) Q))) :
    Ex X PG (d + 1) 43 50 [some (.ref a), some (.int (J x1)), some (.int (J x2)), some (.int (J x3))] [] h Q := by
  refine wpx_ok (cut := [10, 20, 35, 50, 69]) 11 d 43 50 _ _ _ _ ?_
  show (((J x3) = (J 0) → Ex X PG (d + 1) 43 69 [some (.ref a), some (.int (J x1)), some (.int (J x2)), some (.int (J x3))] [] h Q) ∧ (¬ ((J x3) = (J 0)) → hs h a = (0, 2) ∧ hs h a = (0, 2) ∧ hs h a = (0, 2) ∧ Ex X PG (d + 1) 43 69 [some (.ref a), some (.int (J x1)), some (.int (J x2)), some (.int (J x3))] [] (wG h a 3 ((hF h a 3) ||| ((J 1) <<< ((hF h a 1) &&& J 31)))) Q))
  try simp only [aI_wAL, fI_wAL, aL_wA, aL_wF, aI_wA_ne, aI_wF_ne, fI_wA_ne, fI_wF_ne, fI_wF_nk, aL_wAL_ne, J_sameA, J_sameF, aL_same, Nat.add_left_cancel_iff, Nat.add_eq_left, Nat.left_eq_add, not_false_eq_true, Nat.reduceEqDiff, Nat.reduceAdd, J_add, J_sub, J_mul, J_neg, J_and, J_or, J_xor, J_shl, J_shr, J_div, J_i2b, J_i2l, J_l2i, J_lcm, J_max, J_min, J_nab, J_nao, rdA, rdF, rdL, wA_fold, wF_fold, wL_fold, wC_fold]
  obtain ⟨k3, w⟩ := w
  refine ⟨fun c1 => ?_, fun c1 => ?_⟩
  · have t2 : x3 = 0 := ((Jeq k3 (by decide)).mp c1)
    replace w := w.1 t2
    exact w
  · have t2 : ¬ x3 = 0 := (fun e => c1 ((Jeq k3 (by decide)).mpr e))
    replace w := w.2 t2
    refine ⟨(plan_0 K_h_0), ?_⟩
    refine ⟨(plan_0 K_h_0), ?_⟩
    refine ⟨(plan_0 K_h_0), ?_⟩
    exact w
-- OutwardDoors$Plan.addDoor(IIZ)V at 69
set_option maxRecDepth 20000 in
set_option maxHeartbeats 4000000 in
theorem r43_69 {X : Cst} {d : Nat} {a : Nat} {x1 : Int} {x2 : Int} {x3 : Int} {h : AH} {Q : Post} (C_h : Lay h) (K_h_0 : PlanAt h a)
  (w : Q none (wF h a 1 ((fI h a 1) + 1))) :
    Ex X PG (d + 1) 43 69 [some (.ref a), some (.int (J x1)), some (.int (J x2)), some (.int (J x3))] [] h Q := by
  refine wpx_ok (cut := [10, 20, 35, 50, 69]) 7 d 43 69 _ _ _ _ ?_
  show hs h a = (0, 2) ∧ hs h a = (0, 2) ∧ Q none (wG h a 1 ((hF h a 1) + (J 1)))
  try simp only [aI_wAL, fI_wAL, aL_wA, aL_wF, aI_wA_ne, aI_wF_ne, fI_wA_ne, fI_wF_ne, fI_wF_nk, aL_wAL_ne, J_sameA, J_sameF, aL_same, Nat.add_left_cancel_iff, Nat.add_eq_left, Nat.left_eq_add, not_false_eq_true, Nat.reduceEqDiff, Nat.reduceAdd, J_add, J_sub, J_mul, J_neg, J_and, J_or, J_xor, J_shl, J_shr, J_div, J_i2b, J_i2l, J_l2i, J_lcm, J_max, J_min, J_nab, J_nao, rdA, rdF, rdL, wA_fold, wF_fold, wL_fold, wC_fold]
  refine ⟨(plan_0 K_h_0), ?_⟩
  refine ⟨(plan_0 K_h_0), ?_⟩
  exact w
def dH (h : AH) (a : Nat) (p u v : Int) : AH := wA (wA (wA (wA h (a + 2) p u) (a + 3) p v) (a + 7) (u * 8 + v) p) (a + 7) (v * 8 + u) p
theorem m43 {X : Cst} {d a : Nat} {p u v w : Int} {h : AH} {Q : Post} (C : Lay h) (K : PlanAt h a) (hd : 1 ≤ d) (ep : fI h a 1 = p) (hp : 0 ≤ p ∧ p < 14) (hu : 0 ≤ u ∧ u < 8) (hv : 0 ≤ v ∧ v < 8) (hw : w = 0 ∨ w = 1)
    (k0 : w = 0 → Q none (wF (dH h a p u v) a 1 (p + 1))) (k1 : w = 1 → Q none (wF (wF (dH h a p u v) a 3 (ior (fI h a 3) (shl 1 (iand p 31)))) a 1 (p + 1))) : Ex X PG d 43 0 [some (.ref a), some (.int (J u)), some (.int (J v)), some (.int (J w))] [] h Q := by
  obtain ⟨d, rfl⟩ : ∃ e, d = e + 1 := ⟨d - 1, by omega⟩
  unfold dH at k0 k1
  have s1 : SH h (wA h (a + 2) p u) := SH.rf.wA
  have s2 : SH h (wA (wA h (a + 2) p u) (a + 3) p v) := s1.wA
  have s3 : SH h (wA (wA (wA h (a + 2) p u) (a + 3) p v) (a + 7) (u * 8 + v) p) := s2.wA
  have s4 : SH h (wA (wA (wA (wA h (a + 2) p u) (a + 3) p v) (a + 7) (u * 8 + v) p) (a + 7) (v * 8 + u) p) := s3.wA
  have e1 : ∀ k, fI (wA h (a + 2) p u) a k = fI h a k := fun k => by rw [fI_wA_ne (by omega)]
  have e2 : ∀ k, fI (wA (wA h (a + 2) p u) (a + 3) p v) a k = fI h a k := fun k => by rw [fI_wA_ne (by omega)]; exact e1 k
  have e3 : ∀ k, fI (wA (wA (wA h (a + 2) p u) (a + 3) p v) (a + 7) (u * 8 + v) p) a k = fI h a k := fun k => by rw [fI_wA_ne (by omega)]; exact e2 k
  have e4 : ∀ k, fI (wA (wA (wA (wA h (a + 2) p u) (a + 3) p v) (a + 7) (u * 8 + v) p) (a + 7) (v * 8 + u) p) a k = fI h a k := fun k => by rw [fI_wA_ne (by omega)]; exact e3 k
  refine r43_0 C K ?_
  rw [ep]
  refine ⟨by omega, r43_10 (Lay_SH s1 C) (PlanAt_SH s1 K) ?_⟩
  rw [e1, ep]
  refine ⟨by omega, r43_20 (Lay_SH s2 C) (PlanAt_SH s2 K) ?_⟩
  rw [e2, ep]
  refine ⟨by omega, r43_35 (Lay_SH s3 C) (PlanAt_SH s3 K) ?_⟩
  rw [e3, ep]
  refine ⟨by omega, r43_50 (Lay_SH s4 C) (PlanAt_SH s4 K) ?_⟩
  rw [e4, e4, ep]
  refine ⟨by omega, fun c => ?_, fun c => ?_⟩
  · refine r43_69 (Lay_SH s4 C) (PlanAt_SH s4 K) ?_
    rw [e4, ep]
    exact k0 c
  · have s5 := s4.wF (c := a) (k := 3) (v := ior (fI h a 3) (shl 1 (iand p 31)))
    refine r43_69 (Lay_SH s5 C) (PlanAt_SH s5 K) ?_
    rw [fI_wF_nk (by decide), e4, ep]
    exact k1 (by omega)
theorem PlanRd.dor {h : AH} {a : Nat} {R : Int → Int} {n u v w W : Int} (D : PlanRd h a R) (I : CI n R) (h14 : R 1 < 14) (hw : w = 0 ∨ w = 1) (hu : 0 ≤ u ∧ u < 8) (hv : 0 ≤ v ∧ v < 8) (nb : ¬ dbar R u v) (eW : (w = 0 ∧ W = fI h a 3) ∨ (w = 1 ∧ W = ior (fI h a 3) (shl 1 (iand (R 1) 31)))) {h' : AH} (F : Fr (fun c k => c = a ∧ (k = 1 ∨ k = 3)) (dH h a (R 1) u v) h') (f1 : fI h' a 1 = R 1 + 1) (f3 : fI h' a 3 = W) : PlanRd h' a (dorR R w u v) := by
  obtain ⟨d1, d2, d3, d4, d5, d6⟩ := D
  have I1 := I.2.1
  obtain ⟨v1, va, vb, vw, vo⟩ := dorR_v (w := w) (a := u) (b := v) (R := R) (by omega)
  have hf' : ∀ k, ¬ k = 1 → ¬ k = 3 → fI h' a k = fI h a k := fun k h1 h3 => by
    rw [F.f a k (by omega)]
    unfold dH
    rw [fI_wA_ne (by omega), fI_wA_ne (by omega), fI_wA_ne (by omega), fI_wA_ne (by omega)]
  have hA : ∀ i, 0 < i → aI h' (a + i) = aI (dH h a (R 1) u v) (a + i) := fun i hi => F.a (a + i) (by omega)
  have ha : ∀ i, 0 < i → ¬ i = 2 → ¬ i = 3 → ¬ i = 7 → aI h' (a + i) = aI h (a + i) := fun i hi h2 h3 h7 => by
    rw [hA i hi]
    unfold dH
    rw [aI_wA_ne (by omega), aI_wA_ne (by omega), aI_wA_ne (by omega), aI_wA_ne (by omega)]
  have a2 : aI h' (a + 2) = uu_ (aI h (a + 2)) (R 1) u := by
    rw [hA 2 (by omega)]; unfold dH
    rw [aI_wA_ne (by omega), aI_wA_ne (by omega), aI_wA_ne (by omega), aI_wA (by omega)]
  have a3 : aI h' (a + 3) = uu_ (aI h (a + 3)) (R 1) v := by
    rw [hA 3 (by omega)]; unfold dH
    rw [aI_wA_ne (by omega), aI_wA_ne (by omega), aI_wA (by omega), aI_wA_ne (by omega)]
  have a7 : aI h' (a + 7) = uu_ (uu_ (aI h (a + 7)) (u * 8 + v) (R 1)) (v * 8 + u) (R 1) := by
    rw [hA 7 (by omega)]; unfold dH
    rw [aI_wA (by omega), aI_wA (by omega), aI_wA_ne (by omega), aI_wA_ne (by omega)]
  have w0 := vo 0 (by omega) (by omega) (by omega) (by omega)
  have w2 := vo 2 (by omega) (by omega) (by omega) (by omega)
  have w4 := vo 4 (by omega) (by omega) (by omega) (by omega)
  have w5 := vo 5 (by omega) (by omega) (by omega) (by omega)
  have nuv : ¬ u = v := fun e => nb (Or.inl e.symm)
  have nl : ∀ m, 0 ≤ m → m < R 1 → ¬ dpr R m u v := fun m m0 m1 y => nb (Or.inr ⟨m, ⟨m0, m1⟩, y⟩)
  have bits : (0 ≤ W ∧ W < 16384) ∧ ∀ e, 0 ≤ e → e < 14 → (bt W e ↔ bt (fI h a 3) e ∨ (w = 1 ∧ e = R 1)) := by
    rcases eW with ⟨ew, eq⟩ | ⟨ew, eq⟩
    · rw [eq]
      exact ⟨⟨d2.1, d2.2.1⟩, fun e e0 e1 => ⟨Or.inl, fun z => by rcases z with z | z; exact z; omega⟩⟩
    · obtain ⟨m, hm⟩ := Int.eq_ofNat_of_zero_le d2.1
      have pp : 2 ^ (R 1).toNat < 16384 := Nat.pow_lt_pow_right (by decide : 1 < 2) (show (R 1).toNat < 14 by omega)
      have m4 : m < 2 ^ 14 := by have := d2.2.1; rw [hm] at this; omega
      have ol : m ||| 2 ^ (R 1).toNat < 2 ^ 14 := Nat.or_lt_two_pow m4 pp
      rw [eq, hm, shl_1 (by omega), ior_nat (by omega) (by omega)]
      refine ⟨⟨by omega, by omega⟩, fun e e0 e1 => ?_⟩
      unfold bt
      rw [Int.toNat_natCast, Int.toNat_natCast, Nat.testBit_or, Bool.or_eq_true, Nat.testBit_two_pow]
      constructor
      · intro z
        rcases z with z | z
        · exact Or.inl z
        · have := of_decide_eq_true z
          exact Or.inr ⟨ew, by omega⟩
      · intro z
        rcases z with z | z
        · exact Or.inl z
        · exact Or.inr (decide_eq_true (by omega))
  unfold PlanRd
  rw [v1, w0, w2, w4, w5, f1, f3, a2, a3, a7, hf' 0 (by omega) (by omega), hf' 2 (by omega) (by omega), hf' 4 (by omega) (by omega), hf' 5 (by omega) (by omega), ha 1 (by omega) (by omega) (by omega) (by omega), ha 4 (by omega) (by omega) (by omega) (by omega), ha 5 (by omega) (by omega) (by omega) (by omega), ha 6 (by omega) (by omega) (by omega) (by omega)]
  refine ⟨⟨d1.1, rfl, d1.2.2⟩, ⟨bits.1.1, bits.1.2, fun e e0 e1 => ?_⟩, fun r r0 r1 => ?_, fun e e0 e1 => ?_, fun p p0 p1 => ?_, fun x y x0 x1 y0 y1 => ?_⟩
  · rw [bits.2 e e0 e1, d2.2.2 e e0 e1]
    by_cases c : e = R 1
    · rw [c, vw]
      constructor
      · intro z; rcases z with z | z
        · omega
        · exact ⟨by omega, z.1⟩
      · intro z; exact Or.inr ⟨z.2, rfl⟩
    · by_cases c2 : e < R 1
      · rw [vo _ (by omega) (by omega) (by omega) (by omega)]
        constructor
        · intro z; rcases z with z | z
          · exact ⟨by omega, z.2⟩
          · omega
        · intro z; exact Or.inl ⟨c2, z.2⟩
      · constructor
        · intro z; omega
        · intro z; omega
  · rw [vo _ (by omega) (by omega) (by omega) (by omega)]; exact d3 r r0 r1
  · by_cases c : e = R 1
    · rw [c, uu_eq, uu_eq, va, vb]; exact ⟨rfl, rfl⟩
    · rw [uu_ne (by omega) (by omega) (by omega), uu_ne (by omega) (by omega) (by omega), vo _ (by omega) (by omega) (by omega) (by omega), vo _ (by omega) (by omega) (by omega) (by omega)]; exact d4 e e0 (by omega)
  · rw [vo _ (by omega) (by omega) (by omega) (by omega), vo _ (by omega) (by omega) (by omega) (by omega), vo _ (by omega) (by omega) (by omega) (by omega)]; exact d5 p p0 p1
  · have op : ∀ e, 0 ≤ e → e < R 1 → (dpr (dorR R w u v) e x y ↔ dpr R e x y) := fun e e0 e1 => by
      unfold dpr
      rw [vo _ (by omega) (by omega) (by omega) (by omega), vo _ (by omega) (by omega) (by omega) (by omega)]
    have np : dpr (dorR R w u v) (R 1) x y ↔ (u = x ∧ v = y) ∨ (u = y ∧ v = x) := by
      unfold dpr; rw [va, vb]
    by_cases c1 : x = v ∧ y = u
    · have : x * 8 + y = v * 8 + u := by omega
      rw [this, uu_eq]
      exact Or.inr ⟨by omega, np.mpr (Or.inr ⟨c1.2.symm, c1.1.symm⟩)⟩
    · rw [uu_ne (by omega) (by omega) (by omega)]
      by_cases c2 : x = u ∧ y = v
      · have : x * 8 + y = u * 8 + v := by omega
        rw [this, uu_eq]
        exact Or.inr ⟨by omega, np.mpr (Or.inl ⟨c2.1.symm, c2.2.symm⟩)⟩
      · rw [uu_ne (by omega) (by omega) (by omega)]
        rcases d6 x y x0 x1 y0 y1 with q | q
        · refine Or.inl ⟨q.1, fun e e0 e1 => ?_⟩
          by_cases c : e = R 1
          · rw [c, np]; omega
          · rw [op e e0 (by omega)]; exact q.2 e e0 (by omega)
        · exact Or.inr ⟨by omega, (op _ q.1.1 q.1.2).mpr q.2⟩
