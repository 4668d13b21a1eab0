/-! THE CLASS: a moment of a world. -/
noncomputable def DR (S : Int → Int) (R : Ru) (p : Int) : Int := wdoN S (wl R fun k => i2l (wd S (nightP S) p k)) p
theorem imn_e {m : Int} (h : 0 ≤ m ∧ m ≤ 998) : imn 999 (m + 1) = m + 1 := by
  unfold imn
  by_cases c : m + 1 < 999
  · rw [if_pos ((Jlt (by omega) (by decide)).mpr c)]; exact toInt_J (by omega)
  · rw [if_neg (fun z => c ((Jlt (by omega) (by decide)).mp z)), show m + 1 = 999 by omega]; exact toInt_J (by decide)
def TM (b g : Nat) (c k : Nat) : Prop := (b ≤ c ∧ c ≤ b + 5) ∨ (242 ≤ c ∧ c ≤ 246) ∨ c = g + 4 ∨ (c = 241 ∧ (k = 5 ∨ k = 6))
-- OutwardDoors$Mover.advance(LOutwardDoors$Plan;LOutwardDoors$World;LOutwardDoors$Rule;)V at 0
set_option maxRecDepth 20000 in
set_option maxHeartbeats 4000000 in
theorem r90_0 {X : Cst} {d : Nat} {a : Nat} {b : Nat} {g : Nat} {S : Int → Int} {h : AH} {Q : Post} (C_h : Lay h) (K_h_0 : PlanAt h a) (K_h_1 : WorldAt h b) (K_h_2 : RuleAt h g) (apa : a = 4 ∨ a = 4 ∨ a = 53 ∨ 281 ≤ a) (apb : b = 64 ∨ b = 114) (hd : 2 ≤ d)
  (w : (PlanRep h a S) ∧ (0 ≤ (fI h b 5) ∧ (fI h b 5) < 2147483648) ∧ Ex X PG (d + 1) 90 23 [some (.ref 241), some (.ref a), some (.ref b), some (.ref g), some (.int (J (bI (nightM S (fI h b 5))))), some (.int (J 0))] [] (wF (wF h 241 5 0) 241 6 0) Q) :
    Ex X PG (d + 1) 90 0 [some (.ref 241), some (.ref a), some (.ref b), some (.ref g), none, none] [] h Q := by
  refine wpx_ok (cut := [23, 68, 117]) 13 d 90 0 _ _ _ _ ?_
  show hs h b = (0, 9) ∧ hs h a = (0, 2) ∧ Ex X PG d 77 0 [some (.ref a), some (.int (hF h b 5)), none] [] h (fun v1 h2 => ∃ r3, v1 = some (.int r3) ∧ hs h2 241 = (0, 1) ∧ hs (wG h2 241 5 (J 0)) 241 = (0, 1) ∧ Ex X PG (d + 1) 90 23 [some (.ref 241), some (.ref a), some (.ref b), some (.ref g), some (.int r3), some (.int (J 0))] [] (wG (wG h2 241 5 (J 0)) 241 6 (J 0)) Q)
  try simp only [aI_wAL, fI_wAL, aL_wA, aL_wF, aI_wA_ne, aI_wF_ne, fI_wA_ne, fI_wF_ne, fI_wF_nk, aL_wAL_ne, J_sameA, J_sameF, aL_same, Nat.add_left_cancel_iff, Nat.add_eq_left, Nat.left_eq_add, not_false_eq_true, Nat.reduceEqDiff, Nat.reduceAdd, J_add, J_sub, J_mul, J_neg, J_and, J_or, J_xor, J_shl, J_shr, J_div, J_i2b, J_i2l, J_l2i, J_lcm, J_max, J_min, J_nab, J_nao, rdA, rdF, rdL, wA_fold, wF_fold, wL_fold, wC_fold]
  refine ⟨(world_0 K_h_1), ?_⟩
  refine ⟨(plan_0 K_h_0), ?_⟩
  obtain ⟨k4, w⟩ := w
  obtain ⟨k5, w⟩ := w
  refine m77 (h := h) (a := a) (m := (fI h b 5)) (S := S) C_h K_h_0 (by omega) k4 k5 ?_
  refine ⟨_, rfl, ?_⟩
  try simp only [aI_wAL, fI_wAL, aL_wA, aL_wF, aI_wA_ne, aI_wF_ne, fI_wA_ne, fI_wF_ne, fI_wF_nk, aL_wAL_ne, J_sameA, J_sameF, aL_same, Nat.add_left_cancel_iff, Nat.add_eq_left, Nat.left_eq_add, not_false_eq_true, Nat.reduceEqDiff, Nat.reduceAdd, J_add, J_sub, J_mul, J_neg, J_and, J_or, J_xor, J_shl, J_shr, J_div, J_i2b, J_i2l, J_l2i, J_lcm, J_max, J_min, J_nab, J_nao, rdA, rdF, rdL, wA_fold, wF_fold, wL_fold, wC_fold]
  refine ⟨(ls241 C_h), ?_⟩
  refine ⟨(ls241 C_h), ?_⟩
  exact w
-- OutwardDoors$Mover.advance(LOutwardDoors$Plan;LOutwardDoors$World;LOutwardDoors$Rule;)V at 23
set_option maxRecDepth 20000 in
set_option maxHeartbeats 4000000 in
theorem r90_23 {X : Cst} {d : Nat} {a : Nat} {b : Nat} {g : Nat} {x4 : Int} {x5 : Int} {S : Int → Int} {h : AH} {Q : Post} (C_h : Lay h) (K_h_0 : PlanAt h a) (K_h_1 : WorldAt h b) (K_h_2 : RuleAt h g) (apa : a = 4 ∨ a = 4 ∨ a = 53 ∨ 281 ≤ a) (apb : b = 64 ∨ b = 114) (hd : 3 ≤ d)
  (w : (-2147483648 ≤ x5 ∧ x5 < 2147483648) ∧ ((fI h a 2 ≤ x5 → Ex X PG (d + 1) 90 68 [some (.ref 241), some (.ref a), some (.ref b), some (.ref g), some (.int (J x4)), some (.int (J 0))] [] h Q) ∧ (¬ fI h a 2 ≤ x5 → (0 ≤ x5 ∧ x5 < 4) ∧ (PlanRep h a S) ∧ (WF 999 S) ∧ (0 ≤ x4 ∧ x4 < 2) ∧ (0 ≤ (aI h (b + 1) x5) ∧ (aI h (b + 1) x5) < S 0) ∧ (0 ≤ (aI h (b + 2) x5) ∧ (aI h (b + 2) x5) < S 0) ∧ Ex X PG (d + 1) 90 23 [some (.ref 241), some (.ref a), some (.ref b), some (.ref g), some (.int (J x4)), some (.int (J (x5 + 1)))] [] (wA h 242 x5 (stp S (x4 = 1) (aI h (b + 1) x5) (aI h (b + 2) x5))) Q))) :
    Ex X PG (d + 1) 90 23 [some (.ref 241), some (.ref a), some (.ref b), some (.ref g), some (.int (J x4)), some (.int (J x5))] [] h Q := by
  refine wpx_ok (cut := [23, 68, 117]) 21 d 90 23 _ _ _ _ ?_
  show hs h a = (0, 2) ∧ (((hF h a 2) ≤ (J x5) → Ex X PG (d + 1) 90 68 [some (.ref 241), some (.ref a), some (.ref b), some (.ref g), some (.int (J x4)), some (.int (J 0))] [] h Q) ∧ (¬ ((hF h a 2) ≤ (J x5)) → hs h 241 = (0, 1) ∧ ∃ q4, hR h 241 0 = some q4 ∧ hs h b = (0, 9) ∧ ∃ q5, hR h b 0 = some q5 ∧ (hs h q5).1 = 1 ∧ ix (J x5) (hs h q5).2 ∧ hs h b = (0, 9) ∧ ∃ q7, hR h b 1 = some q7 ∧ (hs h q7).1 = 1 ∧ ix (J x5) (hs h q7).2 ∧ hs h a = (0, 2) ∧ Ex X PG d 78 0 [some (.ref a), some (.int (J x4)), some (.int (hI h q5 (Int32.toNatClampNeg (J x5)))), some (.int (hI h q7 (Int32.toNatClampNeg (J x5)))), none, none, none] [] h (fun v8 h9 => ∃ r10, v8 = some (.int r10) ∧ (hs h9 q4).1 = 1 ∧ ix (J x5) (hs h9 q4).2 ∧ Ex X PG (d + 1) 90 23 [some (.ref 241), some (.ref a), some (.ref b), some (.ref g), some (.int (J x4)), some (.int ((J x5) + (J 1)))] [] (wI h9 q4 (Int32.toNatClampNeg (J x5)) r10) Q)))
  try simp only [aI_wAL, fI_wAL, aL_wA, aL_wF, aI_wA_ne, aI_wF_ne, fI_wA_ne, fI_wF_ne, fI_wF_nk, aL_wAL_ne, J_sameA, J_sameF, aL_same, Nat.add_left_cancel_iff, Nat.add_eq_left, Nat.left_eq_add, not_false_eq_true, Nat.reduceEqDiff, Nat.reduceAdd, J_add, J_sub, J_mul, J_neg, J_and, J_or, J_xor, J_shl, J_shr, J_div, J_i2b, J_i2l, J_l2i, J_lcm, J_max, J_min, J_nab, J_nao, rdA, rdF, rdL, wA_fold, wF_fold, wL_fold, wC_fold]
  refine ⟨(plan_0 K_h_0), ?_⟩
  obtain ⟨k3, w⟩ := w
  refine ⟨fun c1 => ?_, fun c1 => ?_⟩
  · have t2 : fI h a 2 ≤ x5 := ((Jle (rg_toInt _) k3).mp c1)
    replace w := w.1 t2
    exact w
  · have t2 : ¬ fI h a 2 ≤ x5 := (fun e => c1 ((Jle (rg_toInt _) k3).mpr e))
    replace w := w.2 t2
    refine ⟨(ls241 C_h), _, (lr241_0 C_h), ?_⟩
    refine ⟨(world_0 K_h_1), _, (world_6 K_h_1), ?_⟩
    obtain ⟨k6, w⟩ := w
    refine ⟨congrArg Prod.fst (world_1 K_h_1), ixs (world_1 K_h_1) k6 (by decide), ?_⟩
    refine ⟨(world_0 K_h_1), _, (world_7 K_h_1), ?_⟩
    refine ⟨congrArg Prod.fst (world_2 K_h_1), ixs (world_2 K_h_1) k6 (by decide), ?_⟩
    refine ⟨(plan_0 K_h_0), ?_⟩
    obtain ⟨k11, w⟩ := w
    obtain ⟨k12, w⟩ := w
    obtain ⟨k13, w⟩ := w
    obtain ⟨k14, w⟩ := w
    obtain ⟨k15, w⟩ := w
    refine m78 (h := h) (a := a) (r := x4) (f := (aI h (b + 1) x5)) (g := (aI h (b + 2) x5)) (S := S) C_h K_h_0 (by omega) k11 k12 k13 k14 k15 ?_
    refine ⟨_, rfl, ?_⟩
    try simp only [aI_wAL, fI_wAL, aL_wA, aL_wF, aI_wA_ne, aI_wF_ne, fI_wA_ne, fI_wF_ne, fI_wF_nk, aL_wAL_ne, J_sameA, J_sameF, aL_same, Nat.add_left_cancel_iff, Nat.add_eq_left, Nat.left_eq_add, not_false_eq_true, Nat.reduceEqDiff, Nat.reduceAdd, J_add, J_sub, J_mul, J_neg, J_and, J_or, J_xor, J_shl, J_shr, J_div, J_i2b, J_i2l, J_l2i, J_lcm, J_max, J_min, J_nab, J_nao, rdA, rdF, rdL, wA_fold, wF_fold, wL_fold, wC_fold]
    refine ⟨congrArg Prod.fst (ls242 C_h), ixs (ls242 C_h) k6 (by decide), ?_⟩
    exact w
-- OutwardDoors$Mover.advance(LOutwardDoors$Plan;LOutwardDoors$World;LOutwardDoors$Rule;)V at 68
set_option maxRecDepth 20000 in
set_option maxHeartbeats 4000000 in
theorem r90_68 {X : Cst} {d : Nat} {a : Nat} {b : Nat} {g : Nat} {x4 : Int} {x5 : Int} {h : AH} {Q : Post} (C_h : Lay h) (K_h_0 : PlanAt h a) (K_h_1 : WorldAt h b) (K_h_2 : RuleAt h g) (apa : a = 4 ∨ a = 4 ∨ a = 53 ∨ 281 ≤ a) (apb : b = 64 ∨ b = 114)
  (w : (-2147483648 ≤ x5 ∧ x5 < 2147483648) ∧ ((fI h a 2 ≤ x5 → Ex X PG (d + 1) 90 117 [some (.ref 241), some (.ref a), some (.ref b), some (.ref g), some (.int (J x4)), some (.int (J 0))] [] h Q) ∧ (¬ fI h a 2 ≤ x5 → Ex X PG d 91 0 [some (.ref 241), some (.ref a), some (.ref b), some (.int (J x5)), none, none, none, none, none] [] h (fun v4 h5 => v4 = none ∧ SH h h5 ∧ Ex X PG d 92 0 [some (.ref g), some (.ref 246), none, none, none, none] [] h5 (fun v8 h9 => ∃ r10, v8 = some (.long r10) ∧ SH h5 h9 ∧ Ex X PG d 96 0 [some (.ref 241), some (.ref a), some (.ref b), some (.int (J x5)), some (.long r10), none, none] [] h9 (fun v11 h12 => ∃ r13 : Int, (-2147483648 ≤ r13 ∧ r13 < 2147483648) ∧ v11 = some (.int (J r13)) ∧ SH h9 h12 ∧ (0 ≤ x5 ∧ x5 < 4) ∧ Ex X PG (d + 1) 90 68 [some (.ref 241), some (.ref a), some (.ref b), some (.ref g), some (.int (J x4)), some (.int (J (x5 + 1)))] [] (wA h12 243 x5 r13) Q)))))) :
    Ex X PG (d + 1) 90 68 [some (.ref 241), some (.ref a), some (.ref b), some (.ref g), some (.int (J x4)), some (.int (J x5))] [] h Q := by
  refine wpx_ok (cut := [23, 68, 117]) 24 d 90 68 _ _ _ _ ?_
  show hs h a = (0, 2) ∧ (((hF h a 2) ≤ (J x5) → Ex X PG (d + 1) 90 117 [some (.ref 241), some (.ref a), some (.ref b), some (.ref g), some (.int (J x4)), some (.int (J 0))] [] h Q) ∧ (¬ ((hF h a 2) ≤ (J x5)) → hs h 241 = (0, 1) ∧ Ex X PG d 91 0 [some (.ref 241), some (.ref a), some (.ref b), some (.int (J x5)), none, none, none, none, none] [] h (fun v4 h5 => v4 = none ∧ hs h5 241 = (0, 1) ∧ ∃ q6, hR h5 241 1 = some q6 ∧ hs h5 241 = (0, 1) ∧ ∃ q7, hR h5 241 4 = some q7 ∧ hs h5 g = (0, 4) ∧ Ex X PG d 92 0 [some (.ref g), some (.ref q7), none, none, none, none] [] h5 (fun v8 h9 => ∃ r10, v8 = some (.long r10) ∧ hs h9 241 = (0, 1) ∧ Ex X PG d 96 0 [some (.ref 241), some (.ref a), some (.ref b), some (.int (J x5)), some (.long r10), none, none] [] h9 (fun v11 h12 => ∃ r13, v11 = some (.int r13) ∧ (hs h12 q6).1 = 1 ∧ ix (J x5) (hs h12 q6).2 ∧ Ex X PG (d + 1) 90 68 [some (.ref 241), some (.ref a), some (.ref b), some (.ref g), some (.int (J x4)), some (.int ((J x5) + (J 1)))] [] (wI h12 q6 (Int32.toNatClampNeg (J x5)) r13) Q)))))
  try simp only [aI_wAL, fI_wAL, aL_wA, aL_wF, aI_wA_ne, aI_wF_ne, fI_wA_ne, fI_wF_ne, fI_wF_nk, aL_wAL_ne, J_sameA, J_sameF, aL_same, Nat.add_left_cancel_iff, Nat.add_eq_left, Nat.left_eq_add, not_false_eq_true, Nat.reduceEqDiff, Nat.reduceAdd, J_add, J_sub, J_mul, J_neg, J_and, J_or, J_xor, J_shl, J_shr, J_div, J_i2b, J_i2l, J_l2i, J_lcm, J_max, J_min, J_nab, J_nao, rdA, rdF, rdL, wA_fold, wF_fold, wL_fold, wC_fold]
  refine ⟨(plan_0 K_h_0), ?_⟩
  obtain ⟨k3, w⟩ := w
  refine ⟨fun c1 => ?_, fun c1 => ?_⟩
  · have t2 : fI h a 2 ≤ x5 := ((Jle (rg_toInt _) k3).mp c1)
    replace w := w.1 t2
    exact w
  · have t2 : ¬ fI h a 2 ≤ x5 := (fun e => c1 ((Jle (rg_toInt _) k3).mpr e))
    replace w := w.2 t2
    refine ⟨(ls241 C_h), ?_⟩
    refine Ex.mono w (Nat.le_refl _) ?_
    rintro v4 h5 ⟨rfl, s17, w⟩
    refine ⟨rfl, ?_⟩
    have C_h5 := Lay_SH s17 C_h
    have K_h5_0 := PlanAt_SH s17 K_h_0
    have K_h5_1 := WorldAt_SH s17 K_h_1
    have K_h5_2 := RuleAt_SH s17 K_h_2
    try simp only [aI_wAL, fI_wAL, aL_wA, aL_wF, aI_wA_ne, aI_wF_ne, fI_wA_ne, fI_wF_ne, fI_wF_nk, aL_wAL_ne, J_sameA, J_sameF, aL_same, Nat.add_left_cancel_iff, Nat.add_eq_left, Nat.left_eq_add, not_false_eq_true, Nat.reduceEqDiff, Nat.reduceAdd, J_add, J_sub, J_mul, J_neg, J_and, J_or, J_xor, J_shl, J_shr, J_div, J_i2b, J_i2l, J_l2i, J_lcm, J_max, J_min, J_nab, J_nao, rdA, rdF, rdL, wA_fold, wF_fold, wL_fold, wC_fold]
    refine ⟨(ls241 C_h5), _, (lr241_1 C_h5), ?_⟩
    refine ⟨(ls241 C_h5), _, (lr241_4 C_h5), ?_⟩
    refine ⟨(rule_0 K_h5_2), ?_⟩
    refine Ex.mono w (Nat.le_refl _) ?_
    rintro v8 h9 ⟨r10, rfl, s16, w⟩
    refine ⟨_, rfl, ?_⟩
    have C_h9 := Lay_SH s16 C_h5
    have K_h9_0 := PlanAt_SH s16 K_h5_0
    have K_h9_1 := WorldAt_SH s16 K_h5_1
    have K_h9_2 := RuleAt_SH s16 K_h5_2
    try simp only [aI_wAL, fI_wAL, aL_wA, aL_wF, aI_wA_ne, aI_wF_ne, fI_wA_ne, fI_wF_ne, fI_wF_nk, aL_wAL_ne, J_sameA, J_sameF, aL_same, Nat.add_left_cancel_iff, Nat.add_eq_left, Nat.left_eq_add, not_false_eq_true, Nat.reduceEqDiff, Nat.reduceAdd, J_add, J_sub, J_mul, J_neg, J_and, J_or, J_xor, J_shl, J_shr, J_div, J_i2b, J_i2l, J_l2i, J_lcm, J_max, J_min, J_nab, J_nao, rdA, rdF, rdL, wA_fold, wF_fold, wL_fold, wC_fold]
    refine ⟨(ls241 C_h9), ?_⟩
    refine Ex.mono w (Nat.le_refl _) ?_
    rintro v11 h12 ⟨r13, gr13, rfl, s15, w⟩
    refine ⟨_, rfl, ?_⟩
    have C_h12 := Lay_SH s15 C_h9
    have K_h12_0 := PlanAt_SH s15 K_h9_0
    have K_h12_1 := WorldAt_SH s15 K_h9_1
    have K_h12_2 := RuleAt_SH s15 K_h9_2
    try simp only [aI_wAL, fI_wAL, aL_wA, aL_wF, aI_wA_ne, aI_wF_ne, fI_wA_ne, fI_wF_ne, fI_wF_nk, aL_wAL_ne, J_sameA, J_sameF, aL_same, Nat.add_left_cancel_iff, Nat.add_eq_left, Nat.left_eq_add, not_false_eq_true, Nat.reduceEqDiff, Nat.reduceAdd, J_add, J_sub, J_mul, J_neg, J_and, J_or, J_xor, J_shl, J_shr, J_div, J_i2b, J_i2l, J_l2i, J_lcm, J_max, J_min, J_nab, J_nao, rdA, rdF, rdL, wA_fold, wF_fold, wL_fold, wC_fold]
    obtain ⟨k14, w⟩ := w
    refine ⟨congrArg Prod.fst (ls243 C_h12), ixs (ls243 C_h12) k14 (by decide), ?_⟩
    exact w
-- OutwardDoors$Mover.advance(LOutwardDoors$Plan;LOutwardDoors$World;LOutwardDoors$Rule;)V at 117
set_option maxRecDepth 20000 in
set_option maxHeartbeats 4000000 in
theorem r90_117 {X : Cst} {d : Nat} {a : Nat} {b : Nat} {g : Nat} {x4 : Int} {x5 : Int} {h : AH} {Q : Post} (C_h : Lay h) (K_h_0 : PlanAt h a) (K_h_1 : WorldAt h b) (K_h_2 : RuleAt h g) (apa : a = 4 ∨ a = 4 ∨ a = 53 ∨ 281 ≤ a) (apb : b = 64 ∨ b = 114)
  (w : (-2147483648 ≤ x5 ∧ x5 < 2147483648) ∧ ((fI h a 2 ≤ x5 → Ex X PG d 101 0 [some (.ref 241), some (.ref a), some (.ref b), none] [] h (fun v4 h5 => v4 = none ∧ SH h h5 ∧ Ex X PG d 103 0 [some (.ref 241), some (.ref a), some (.ref b), none, none] [] h5 (fun v6 h7 => v6 = none ∧ SH h5 h7 ∧ Q none (wF h7 b 5 (imn 999 ((fI h7 b 5) + 1)))))) ∧ (¬ fI h a 2 ≤ x5 → Ex X PG d 100 0 [some (.ref 241), some (.ref a), some (.ref b), some (.int (J x5)), none] [] h (fun v10 h11 => v10 = none ∧ SH h h11 ∧ Ex X PG (d + 1) 90 117 [some (.ref 241), some (.ref a), some (.ref b), some (.ref g), some (.int (J x4)), some (.int (J (x5 + 1)))] [] h11 Q)))) :
    Ex X PG (d + 1) 90 117 [some (.ref 241), some (.ref a), some (.ref b), some (.ref g), some (.int (J x4)), some (.int (J x5))] [] h Q := by
  refine wpx_ok (cut := [23, 68, 117]) 21 d 90 117 _ _ _ _ ?_
  show hs h a = (0, 2) ∧ (((hF h a 2) ≤ (J x5) → hs h 241 = (0, 1) ∧ Ex X PG d 101 0 [some (.ref 241), some (.ref a), some (.ref b), none] [] h (fun v4 h5 => v4 = none ∧ hs h5 241 = (0, 1) ∧ Ex X PG d 103 0 [some (.ref 241), some (.ref a), some (.ref b), none, none] [] h5 (fun v6 h7 => v6 = none ∧ hs h7 b = (0, 9) ∧ hs h7 b = (0, 9) ∧ Q none (wG h7 b 5 (if ((hF h7 b 5) + (J 1)) < (J 999) then ((hF h7 b 5) + (J 1)) else (J 999)))))) ∧ (¬ ((hF h a 2) ≤ (J x5)) → hs h 241 = (0, 1) ∧ Ex X PG d 100 0 [some (.ref 241), some (.ref a), some (.ref b), some (.int (J x5)), none] [] h (fun v10 h11 => v10 = none ∧ Ex X PG (d + 1) 90 117 [some (.ref 241), some (.ref a), some (.ref b), some (.ref g), some (.int (J x4)), some (.int ((J x5) + (J 1)))] [] h11 Q)))
  try simp only [aI_wAL, fI_wAL, aL_wA, aL_wF, aI_wA_ne, aI_wF_ne, fI_wA_ne, fI_wF_ne, fI_wF_nk, aL_wAL_ne, J_sameA, J_sameF, aL_same, Nat.add_left_cancel_iff, Nat.add_eq_left, Nat.left_eq_add, not_false_eq_true, Nat.reduceEqDiff, Nat.reduceAdd, J_add, J_sub, J_mul, J_neg, J_and, J_or, J_xor, J_shl, J_shr, J_div, J_i2b, J_i2l, J_l2i, J_lcm, J_max, J_min, J_nab, J_nao, rdA, rdF, rdL, wA_fold, wF_fold, wL_fold, wC_fold]
  refine ⟨(plan_0 K_h_0), ?_⟩
  obtain ⟨k3, w⟩ := w
  refine ⟨fun c1 => ?_, fun c1 => ?_⟩
  · have t2 : fI h a 2 ≤ x5 := ((Jle (rg_toInt _) k3).mp c1)
    replace w := w.1 t2
    refine ⟨(ls241 C_h), ?_⟩
    refine Ex.mono w (Nat.le_refl _) ?_
    rintro v4 h5 ⟨rfl, s9, w⟩
    refine ⟨rfl, ?_⟩
    have C_h5 := Lay_SH s9 C_h
    have K_h5_0 := PlanAt_SH s9 K_h_0
    have K_h5_1 := WorldAt_SH s9 K_h_1
    have K_h5_2 := RuleAt_SH s9 K_h_2
    try simp only [aI_wAL, fI_wAL, aL_wA, aL_wF, aI_wA_ne, aI_wF_ne, fI_wA_ne, fI_wF_ne, fI_wF_nk, aL_wAL_ne, J_sameA, J_sameF, aL_same, Nat.add_left_cancel_iff, Nat.add_eq_left, Nat.left_eq_add, not_false_eq_true, Nat.reduceEqDiff, Nat.reduceAdd, J_add, J_sub, J_mul, J_neg, J_and, J_or, J_xor, J_shl, J_shr, J_div, J_i2b, J_i2l, J_l2i, J_lcm, J_max, J_min, J_nab, J_nao, rdA, rdF, rdL, wA_fold, wF_fold, wL_fold, wC_fold]
    refine ⟨(ls241 C_h5), ?_⟩
    refine Ex.mono w (Nat.le_refl _) ?_
    rintro v6 h7 ⟨rfl, s8, w⟩
    refine ⟨rfl, ?_⟩
    have C_h7 := Lay_SH s8 C_h5
    have K_h7_0 := PlanAt_SH s8 K_h5_0
    have K_h7_1 := WorldAt_SH s8 K_h5_1
    have K_h7_2 := RuleAt_SH s8 K_h5_2
    try simp only [aI_wAL, fI_wAL, aL_wA, aL_wF, aI_wA_ne, aI_wF_ne, fI_wA_ne, fI_wF_ne, fI_wF_nk, aL_wAL_ne, J_sameA, J_sameF, aL_same, Nat.add_left_cancel_iff, Nat.add_eq_left, Nat.left_eq_add, not_false_eq_true, Nat.reduceEqDiff, Nat.reduceAdd, J_add, J_sub, J_mul, J_neg, J_and, J_or, J_xor, J_shl, J_shr, J_div, J_i2b, J_i2l, J_l2i, J_lcm, J_max, J_min, J_nab, J_nao, rdA, rdF, rdL, wA_fold, wF_fold, wL_fold, wC_fold]
    refine ⟨(world_0 K_h7_1), ?_⟩
    refine ⟨(world_0 K_h7_1), ?_⟩
    exact w
  · have t2 : ¬ fI h a 2 ≤ x5 := (fun e => c1 ((Jle (rg_toInt _) k3).mpr e))
    replace w := w.2 t2
    refine ⟨(ls241 C_h), ?_⟩
    refine Ex.mono w (Nat.le_refl _) ?_
    rintro v10 h11 ⟨rfl, s12, w⟩
    refine ⟨rfl, ?_⟩
    have C_h11 := Lay_SH s12 C_h
    have K_h11_0 := PlanAt_SH s12 K_h_0
    have K_h11_1 := WorldAt_SH s12 K_h_1
    have K_h11_2 := RuleAt_SH s12 K_h_2
    try simp only [aI_wAL, fI_wAL, aL_wA, aL_wF, aI_wA_ne, aI_wF_ne, fI_wA_ne, fI_wF_ne, fI_wF_nk, aL_wAL_ne, J_sameA, J_sameF, aL_same, Nat.add_left_cancel_iff, Nat.add_eq_left, Nat.left_eq_add, not_false_eq_true, Nat.reduceEqDiff, Nat.reduceAdd, J_add, J_sub, J_mul, J_neg, J_and, J_or, J_xor, J_shl, J_shr, J_div, J_i2b, J_i2l, J_l2i, J_lcm, J_max, J_min, J_nab, J_nao, rdA, rdF, rdL, wA_fold, wF_fold, wL_fold, wC_fold]
    exact w
theorem m90 {X : Cst} {d : Nat} {a b g : Nat} {R : Ru} {S : Int → Int} {h : AH} {Q : Post} (C : Lay h) (K : PlanAt h a) (L : WorldAt h b) (M : RuleAt h g) (apa : a = 4 ∨ a = 4 ∨ a = 53 ∨ 281 ≤ a) (apb : b = 64 ∨ b = 114) (apg : (16 ≤ g ∧ g ≤ 41) ∨ g = 47) (hd : 5 ≤ d) (P : PlanRep h a S) (V : WorldRep h b S) (W : WF 998 S) (O : RuleOK R) (CR : ClsRule h g R)
    (k : ∀ h', SH h h' → (Fr (TM b g) h h' ∧ WorldRep h' b (mom S (DR S R)) ∧ fI h' 241 5 = cnt (cmI S (DR S R)) (S 2) ∧ fI h' 241 6 = cnt (gO S (DR S R)) (S 2)) → Q none h') : Ex X PG d 90 0 [some (.ref 241), some (.ref a), some (.ref b), some (.ref g), none, none] [] h Q := by
  obtain ⟨d, rfl⟩ : ∃ e, d = e + 1 := ⟨d - 1, by omega⟩
  have W9 := W.up (M := 999) (by decide)
  have bb := W.1
  unfold WFb at bb
  have hr := bI_or (nightP S)
  have hD : ∀ p, 0 ≤ p → p < S 2 → DR S R p = -1 ∨ (0 ≤ DR S R p ∧ DR S R p < S 1) := fun p _ _ => wdoN_b W _ p
  -- the third loop and what follows
  have l3 : ∀ (n : Nat) (i : Int) (h' : AH), Fr (fun c k => (242 ≤ c ∧ c ≤ 246) ∨ c = g + 4 ∨ (c = 241 ∧ (k = 5 ∨ k = 6))) h h' → S 2 - i = n → 0 ≤ i → fI h' 241 5 = 0 → fI h' 241 6 = 0 → (∀ q, 0 ≤ q → q < S 2 → aI h' 243 q = tgt S (wl R fun k => i2l (wd S (nightP S) q k)) q) →
      (∀ q, 0 ≤ q → q < i → aI h' 244 q = @ite Int (gO S (DR S R) q) (Classical.propDecidable _) (DR S R q) (-1) ∧ aI h' 245 q = @ite Int (gO S (DR S R) q) (Classical.propDecidable _) (-1) (DR S R q)) →
      Ex X PG (d + 1) 90 117 [some (.ref 241), some (.ref a), some (.ref b), some (.ref g), some (.int (J (bI (nightP S)))), some (.int (J i))] [] h' Q := by
    intro n
    induction n with
    | zero =>
      intro i h' F h1 h2 f5 f6 ht ho
      have P' := P.fr F (fun c k z => by omega)
      have V' := V.fr F (fun c k z => by omega)
      refine r90_117 (F.C C) (PlanAt_SH F.1 K) (WorldAt_SH F.1 L) (RuleAt_SH F.1 M) apa apb ?_
      rw [P'.1.2.2.1]
      refine ⟨by omega, fun _ => ?_, fun c => absurd (by omega) c⟩
      have OB : OutB h' S (DR S R) 0 := by
        intro q q0 q1
        rw [(ho q q0 (by omega)).1]
        have c0 : ¬ cnt (ouB S (DR S R) (DR S R q)) q < cnt (inB S (DR S R) (DR S R q)) 0 := by rw [cnt_0]; have := (cnt_b (ouB S (DR S R) (DR S R q)) q0).1; omega
        by_cases z : gO S (DR S R) q
        · rw [if_pos z, if_pos ⟨z, c0⟩]
        · rw [if_neg z, if_neg (fun y => z y.1)]
      refine m101 (D := DR S R) (F.C C) (PlanAt_SH F.1 K) (WorldAt_SH F.1 L) apa apb (by omega) P' W9 hD OB (fun p p0 p1 => V'.1 p p0 p1) (fun p p0 p1 => V'.2.1 p p0 p1) f6 (fun h5 s5 p5 => ⟨rfl, s5, ?_⟩)
      have F5 := F.1.tr s5
      have P5 := P'.fr p5.1 (fun c k z => by omega)
      have O5 : OutB h5 S (DR S R) 0 := fun q q0 q1 => by rw [p5.1.a 244 (fun k z => by omega)]; exact OB q q0 q1
      have I5 : InB h5 S (DR S R) := fun q q0 q1 => by rw [p5.1.a 245 (fun k z => by omega)]; exact (ho q q0 (by omega)).2
      refine m103 (D := DR S R) (Lay_SH F5 C) (PlanAt_SH F5 K) (WorldAt_SH F5 L) apa apb (by omega) P5 W9 hD O5 I5 p5.2.1 p5.2.2.1 (by rw [p5.1.f 241 5 (by omega)]; exact f5) (fun h7 s7 p7 => ⟨rfl, s7, ?_⟩)
      have m7 : fI h7 b 5 = S 3 := by rw [p7.1.f b 5 (by omega), p5.1.f b 5 (by omega)]; exact V'.2.2
      rw [m7, imn_e (by omega)]
      have F7 : Fr (TM b g) h (wF h7 b 5 (S 3 + 1)) := by
        refine Fr.wF ?_ (Or.inl (by omega))
        exact ((F.mo fun c k z => by unfold TM; omega).tr (p5.1.mo fun c k z => by unfold TM; omega)).tr (p7.1.mo fun c k z => by unfold TM; omega)
      have e2 : mom S (DR S R) 2 = S 2 := mom_k (by decide) (by decide) (Or.inl (by decide))
      refine k _ F7.1 ⟨F7, ⟨fun p p0 p1 => ?_, fun p p0 p1 => ?_, ?_⟩, ?_, ?_⟩
      · rw [e2] at p1
        have w7 := p7.2.1 p p0 p1
        rw [aI_wF_ne (by omega), aI_wF_ne (by omega), aI_wF_ne (by omega), aI_wF_ne (by omega), aI_wF_ne (by omega)]
        rw [mom_p (by omega) ⟨p0, p1⟩ (by decide), mom_p (by omega) ⟨p0, p1⟩ (by decide), mom_p (by omega) ⟨p0, p1⟩ (by decide), mom_p (by omega) ⟨p0, p1⟩ (by decide), mom_p (by omega) ⟨p0, p1⟩ (by decide)]
        exact w7
      · rw [e2] at p0
        rw [aI_wF_ne (by omega), aI_wF_ne (by omega)]
        exact p7.2.2.1 p p0 p1
      · rw [fI_wF_eq (by omega), mom_3]
      · rw [fI_wF_ne (by omega)]; exact p7.2.2.2
      · rw [fI_wF_ne (by omega), p7.1.f 241 6 (by omega)]; exact p5.2.2.2
    | succ n ih =>
      intro i h' F h1 h2 f5 f6 ht ho
      have P' := P.fr F (fun c k z => by omega)
      have V' := V.fr F (fun c k z => by omega)
      refine r90_117 (F.C C) (PlanAt_SH F.1 K) (WorldAt_SH F.1 L) (RuleAt_SH F.1 M) apa apb ?_
      rw [P'.1.2.2.1]
      refine ⟨by omega, fun c => absurd c (by omega), fun _ => ?_⟩
      refine m100 (n := wl R fun k => i2l (wd S (nightP S) i k)) (F.C C) (PlanAt_SH F.1 K) (WorldAt_SH F.1 L) apa apb (by omega) P' V' W9 (by omega) (ht i h2 (by omega)) (fun h11 s11 p11 => ⟨rfl, s11, ?_⟩)
      have F11 := F.tr (p11.1.mo (U := fun c k => (242 ≤ c ∧ c ≤ 246) ∨ c = g + 4 ∨ (c = 241 ∧ (k = 5 ∨ k = 6))) fun c k z => by omega)
      refine ih (i + 1) h11 F11 (by omega) (by omega) (by rw [p11.1.f 241 5 (by decide)]; exact f5) (by rw [p11.1.f 241 6 (by decide)]; exact f6) (fun q q0 q1 => by rw [p11.1.a 243 (fun k => by decide)]; exact ht q q0 q1) (fun q q0 q1 => ?_)
      rw [p11.2.1, p11.2.2]
      by_cases z : q = i
      · subst z
        rw [uu_eq, uu_eq]
        exact ⟨rfl, rfl⟩
      · rw [uu_ne (by omega) (by omega) z, uu_ne (by omega) (by omega) z]
        exact ho q q0 (by omega)
  -- the second loop: words, will, target
  have l2 : ∀ (n : Nat) (i : Int) (h' : AH), Fr (fun c k => (242 ≤ c ∧ c ≤ 246) ∨ c = g + 4 ∨ (c = 241 ∧ (k = 5 ∨ k = 6))) h h' → S 2 - i = n → 0 ≤ i → fI h' 241 5 = 0 → fI h' 241 6 = 0 → (∀ q, 0 ≤ q → q < S 2 → aI h' 242 q = stp S (nightP S) (pS S q 0) (pS S q 1)) → (∀ q, 0 ≤ q → q < i → aI h' 243 q = tgt S (wl R fun k => i2l (wd S (nightP S) q k)) q) →
      Ex X PG (d + 1) 90 68 [some (.ref 241), some (.ref a), some (.ref b), some (.ref g), some (.int (J (bI (nightP S)))), some (.int (J i))] [] h' Q := by
    intro n
    induction n with
    | zero =>
      intro i h' F h1 h2 f5 f6 hs ht
      have P' := P.fr F (fun c k z => by omega)
      refine r90_68 (F.C C) (PlanAt_SH F.1 K) (WorldAt_SH F.1 L) (RuleAt_SH F.1 M) apa apb ?_
      rw [P'.1.2.2.1]
      refine ⟨by omega, fun _ => ?_, fun c => absurd (by omega) c⟩
      exact l3 (S 2).toNat 0 h' F (by omega) (by omega) f5 f6 (fun q q0 q1 => ht q q0 (by omega)) (fun q q0 q1 => by omega)
    | succ n ih =>
      intro i h' F h1 h2 f5 f6 hs ht
      have P' := P.fr F (fun c k z => by omega)
      have V' := V.fr F (fun c k z => by omega)
      refine r90_68 (F.C C) (PlanAt_SH F.1 K) (WorldAt_SH F.1 L) (RuleAt_SH F.1 M) apa apb ?_
      rw [P'.1.2.2.1]
      refine ⟨by omega, fun c => absurd c (by omega), fun _ => ?_⟩
      refine m91 (F.C C) (PlanAt_SH F.1 K) (WorldAt_SH F.1 L) apa apb (by omega) P' V' W9 (by omega) hs (fun h5 s5 p5 => ⟨rfl, s5, ?_⟩)
      have F5 := F.tr (p5.1.mo (U := fun c k => (242 ≤ c ∧ c ≤ 246) ∨ c = g + 4 ∨ (c = 241 ∧ (k = 5 ∨ k = 6))) fun c k z => by omega)
      refine m92 (R := R) (F5.C C) (RuleAt_SH F5.1 M) (by omega) O (CR.fr F5 (fun c k z => by omega)) (Or.inl (by omega)) (fun h9 s9 p9 => ⟨_, rfl, s9, ?_⟩)
      have F9 := F5.tr (p9.mo (U := fun c k => (242 ≤ c ∧ c ≤ 246) ∨ c = g + 4 ∨ (c = 241 ∧ (k = 5 ∨ k = 6))) fun c k z => by omega)
      have we : wl R (fun k => i2l (aI h5 246 k)) = wl R fun k => i2l (wd S (nightP S) i k) := wl_cong (fun j j0 j1 => by rw [p5.2 j j0 j1]) O
      rw [we]
      have s242 : aI h9 242 = aI h' 242 := by rw [p9.a 242 (fun k z => by omega), p5.1.a 242 (fun k z => by omega)]
      have s243 : aI h9 243 = aI h' 243 := by rw [p9.a 243 (fun k z => by omega), p5.1.a 243 (fun k z => by omega)]
      refine m96 (S := S) (F9.C C) (PlanAt_SH F9.1 K) (WorldAt_SH F9.1 L) (by omega) (P.fr F9 (fun c k z => by omega)) (V.fr F9 (fun c k z => by omega)) W9 (by omega) (by rw [s242]; exact hs i h2 (by omega)) ?_
      have tb := tgt_door W9 (n := wl R fun k => i2l (wd S (nightP S) i k)) (p := i) (by omega)
      refine ⟨tgt S (wl R fun k => i2l (wd S (nightP S) i k)) i, by omega, rfl, SH.rf, by omega, ?_⟩
      refine ih (i + 1) _ (F9.wA (Or.inl (by omega))) (by omega) (by omega) ?_ ?_ ?_ ?_
      · rw [fI_wA_ne (by decide), p9.f 241 5 (by omega), p5.1.f 241 5 (by omega)]; exact f5
      · rw [fI_wA_ne (by decide), p9.f 241 6 (by omega), p5.1.f 241 6 (by omega)]; exact f6
      · intro q q0 q1
        rw [aI_wA_ne (by decide), s242]; exact hs q q0 q1
      · intro q q0 q1
        rw [aI_wA (by omega), s243]
        by_cases z : q = i
        · subst z; rw [uu_eq]
        · rw [uu_ne (by omega) (by omega) z]; exact ht q q0 (by omega)
  -- the first loop: steps
  have l1 : ∀ (n : Nat) (i : Int) (h' : AH), Fr (fun c k => (242 ≤ c ∧ c ≤ 246) ∨ c = g + 4 ∨ (c = 241 ∧ (k = 5 ∨ k = 6))) h h' → S 2 - i = n → 0 ≤ i → fI h' 241 5 = 0 → fI h' 241 6 = 0 → (∀ q, 0 ≤ q → q < i → aI h' 242 q = stp S (nightP S) (pS S q 0) (pS S q 1)) →
      Ex X PG (d + 1) 90 23 [some (.ref 241), some (.ref a), some (.ref b), some (.ref g), some (.int (J (bI (nightP S)))), some (.int (J i))] [] h' Q := by
    intro n
    induction n with
    | zero =>
      intro i h' F h1 h2 f5 f6 hs
      have P' := P.fr F (fun c k z => by omega)
      refine r90_23 (S := S) (F.C C) (PlanAt_SH F.1 K) (WorldAt_SH F.1 L) (RuleAt_SH F.1 M) apa apb (by omega) ?_
      rw [P'.1.2.2.1]
      refine ⟨by omega, fun _ => ?_, fun c => absurd (by omega) c⟩
      exact l2 (S 2).toNat 0 h' F (by omega) (by omega) f5 f6 (fun q q0 q1 => hs q q0 (by omega)) (fun q q0 q1 => by omega)
    | succ n ih =>
      intro i h' F h1 h2 f5 f6 hs
      have P' := P.fr F (fun c k z => by omega)
      have V' := V.fr F (fun c k z => by omega)
      have vi := V'.1 i h2 (by omega)
      have pi := W.2.1 i h2 (by omega)
      have sb := stp_b W9 (nightP S) (pS S i 0) (pS S i 1)
      refine r90_23 (S := S) (F.C C) (PlanAt_SH F.1 K) (WorldAt_SH F.1 L) (RuleAt_SH F.1 M) apa apb (by omega) ?_
      rw [P'.1.2.2.1, vi.1, vi.2.1, bI_1]
      refine ⟨by omega, fun c => absurd c (by omega), fun _ => ⟨by omega, P', W9, by omega, by omega, by omega, ?_⟩⟩
      refine ih (i + 1) _ (F.wA (Or.inl (by omega))) (by omega) (by omega) (by rw [fI_wA_ne (by decide)]; exact f5) (by rw [fI_wA_ne (by decide)]; exact f6) (fun q q0 q1 => ?_)
      rw [aI_wA (by omega)]
      by_cases z : q = i
      · subst z; rw [uu_eq]
      · rw [uu_ne (by omega) (by omega) z]; exact hs q q0 (by omega)
  refine r90_0 (S := S) C K L M apa apb (by omega) ?_
  rw [V.2.2, nightM_P]
  refine ⟨P, by omega, ?_⟩
  have F0 : Fr (fun c k => (242 ≤ c ∧ c ≤ 246) ∨ c = g + 4 ∨ (c = 241 ∧ (k = 5 ∨ k = 6))) h (wF (wF h 241 5 0) 241 6 0) := (Fr.rf.wF (Or.inr (Or.inr ⟨rfl, Or.inl rfl⟩))).wF (Or.inr (Or.inr ⟨rfl, Or.inr rfl⟩))
  exact l1 (S 2).toNat 0 _ F0 (by omega) (by omega) (by rw [fI_wF_nk (by decide), fI_wF_eq (by decide)]) (by rw [fI_wF_eq (by decide)]) (fun q q0 q1 => by omega)
