/-! THE TAPE of the class. -/
-- OutwardDoors$Tape.put(I)V at 0
set_option maxRecDepth 20000 in
set_option maxHeartbeats 4000000 in
theorem r18_0 {X : Cst} {d : Nat} {x1 : Int} {h : AH} {Q : Post} (C_h : Lay h)
  (w : Ex X PG (d + 1) 18 3 [some (.ref 1), some (.int (J x1)), some (.int (J 24))] [] h Q) :
    Ex X PG (d + 1) 18 0 [some (.ref 1), some (.int (J x1)), none] [] h Q := by
  refine wpx_ok (cut := [3]) 2 d 18 0 _ _ _ _ ?_
  show Ex X PG (d + 1) 18 3 [some (.ref 1), some (.int (J x1)), some (.int (J 24))] [] h Q
  try simp only [aI_wAL, fI_wAL, aL_wA, aL_wF, aI_wA_ne, aI_wF_ne, fI_wA_ne, fI_wF_ne, fI_wF_nk, aL_wAL_ne, J_sameA, J_sameF, aL_same, Nat.add_left_cancel_iff, Nat.add_eq_left, Nat.left_eq_add, not_false_eq_true, Nat.reduceEqDiff, Nat.reduceAdd, J_add, J_sub, J_mul, J_neg, J_and, J_or, J_xor, J_shl, J_shr, J_div, J_i2b, J_i2l, J_l2i, J_lcm, J_max, J_min, J_nab, J_nao, rdA, rdF, rdL, wA_fold, wF_fold, wL_fold, wC_fold]
  exact w
-- OutwardDoors$Tape.put(I)V at 3
set_option maxRecDepth 20000 in
set_option maxHeartbeats 4000000 in
theorem r18_3 {X : Cst} {d : Nat} {x1 : Int} {x2 : Int} {h : AH} {Q : Post} (C_h : Lay h)
  (w : (-2147483648 ≤ x2 ∧ x2 < 2147483648) ∧ ((x2 < 0 → Q none h) ∧ (¬ x2 < 0 → ((400 ≤ fI h 1 1 → Q none h) ∧ (¬ 400 ≤ fI h 1 1 → (0 ≤ fI h 1 1 ∧ fI h 1 1 < 400) ∧ Ex X PG (d + 1) 18 3 [some (.ref 1), some (.int (J x1)), some (.int (J (x2 + (-8))))] [] (wF (wA h 2 (fI h 1 1) (nab (i2b (shr x1 (iand x2 31))))) 1 1 ((fI h 1 1) + 1)) Q))))) :
    Ex X PG (d + 1) 18 3 [some (.ref 1), some (.int (J x1)), some (.int (J x2))] [] h Q := by
  refine wpx_ok (cut := [3]) 23 d 18 3 _ _ _ _ ?_
  show (((J x2) < (J 0) → Q none h) ∧ (¬ ((J x2) < (J 0)) → hs h 1 = (0, 8) ∧ (((J 400) ≤ (hF h 1 1) → Q none h) ∧ (¬ ((J 400) ≤ (hF h 1 1)) → hs h 1 = (0, 8) ∧ ∃ q6, hR h 1 0 = some q6 ∧ hs h 1 = (0, 8) ∧ (((hs h q6).1 = 3 ∧ ix (hF h 1 1) (hs h q6).2 ∧ hs (wI h q6 (Int32.toNatClampNeg (hF h 1 1)) (vp_nar .byte ((Int32.toInt8 ((J x1) >>> ((J x2) &&& J 31))).toInt32))) 1 = (0, 8) ∧ hs (wI h q6 (Int32.toNatClampNeg (hF h 1 1)) (vp_nar .byte ((Int32.toInt8 ((J x1) >>> ((J x2) &&& J 31))).toInt32))) 1 = (0, 8) ∧ Ex X PG (d + 1) 18 3 [some (.ref 1), some (.int (J x1)), some (.int ((J x2) + (J (-8))))] [] (wG (wI h q6 (Int32.toNatClampNeg (hF h 1 1)) (vp_nar .byte ((Int32.toInt8 ((J x1) >>> ((J x2) &&& J 31))).toInt32))) 1 1 ((hF (wI h q6 (Int32.toNatClampNeg (hF h 1 1)) (vp_nar .byte ((Int32.toInt8 ((J x1) >>> ((J x2) &&& J 31))).toInt32))) 1 1) + (J 1))) Q) ∨ ((hs h q6).1 = 4 ∧ ix (hF h 1 1) (hs h q6).2 ∧ hs (wI h q6 (Int32.toNatClampNeg (hF h 1 1)) (vp_nar .boolean ((Int32.toInt8 ((J x1) >>> ((J x2) &&& J 31))).toInt32))) 1 = (0, 8) ∧ hs (wI h q6 (Int32.toNatClampNeg (hF h 1 1)) (vp_nar .boolean ((Int32.toInt8 ((J x1) >>> ((J x2) &&& J 31))).toInt32))) 1 = (0, 8) ∧ Ex X PG (d + 1) 18 3 [some (.ref 1), some (.int (J x1)), some (.int ((J x2) + (J (-8))))] [] (wG (wI h q6 (Int32.toNatClampNeg (hF h 1 1)) (vp_nar .boolean ((Int32.toInt8 ((J x1) >>> ((J x2) &&& J 31))).toInt32))) 1 1 ((hF (wI h q6 (Int32.toNatClampNeg (hF h 1 1)) (vp_nar .boolean ((Int32.toInt8 ((J x1) >>> ((J x2) &&& J 31))).toInt32))) 1 1) + (J 1))) Q))))))
  try simp only [aI_wAL, fI_wAL, aL_wA, aL_wF, aI_wA_ne, aI_wF_ne, fI_wA_ne, fI_wF_ne, fI_wF_nk, aL_wAL_ne, J_sameA, J_sameF, aL_same, Nat.add_left_cancel_iff, Nat.add_eq_left, Nat.left_eq_add, not_false_eq_true, Nat.reduceEqDiff, Nat.reduceAdd, J_add, J_sub, J_mul, J_neg, J_and, J_or, J_xor, J_shl, J_shr, J_div, J_i2b, J_i2l, J_l2i, J_lcm, J_max, J_min, J_nab, J_nao, rdA, rdF, rdL, wA_fold, wF_fold, wL_fold, wC_fold]
  obtain ⟨k3, w⟩ := w
  refine ⟨fun c1 => ?_, fun c1 => ?_⟩
  · have t2 : x2 < 0 := ((Jlt k3 (by decide)).mp c1)
    replace w := w.1 t2
    exact w
  · have t2 : ¬ x2 < 0 := (fun e => c1 ((Jlt k3 (by decide)).mpr e))
    replace w := w.2 t2
    refine ⟨(ls1 C_h), ?_⟩
    refine ⟨fun c4 => ?_, fun c4 => ?_⟩
    · have t5 : 400 ≤ fI h 1 1 := ((Jle (by decide) (rg_toInt _)).mp c4)
      replace w := w.1 t5
      exact w
    · have t5 : ¬ 400 ≤ fI h 1 1 := (fun e => c4 ((Jle (by decide) (rg_toInt _)).mpr e))
      replace w := w.2 t5
      refine ⟨(ls1 C_h), _, (lr1_0 C_h), ?_⟩
      refine ⟨(ls1 C_h), ?_⟩
      obtain ⟨k7, w⟩ := w
      refine Or.inl ⟨congrArg Prod.fst (ls2 C_h), ixs (ls2 C_h) k7 (by decide), ?_⟩
      refine ⟨(ls1 C_h), ?_⟩
      refine ⟨(ls1 C_h), ?_⟩
      exact w
theorem m18 {X : Cst} {d : Nat} {v l : Int} {h : AH} {Q : Post} (C : Lay h) (hd : 1 ≤ d) (el : fI h 1 1 = l) (hl : 0 ≤ l ∧ l + 4 ≤ 400)
    (k : ∀ h', SH h h' → (Fr (fun c j => c = 2 ∨ (c = 1 ∧ j = 1)) h h' ∧ fI h' 1 1 = l + 4 ∧ aI h' 2 = put4 (aI h 2) l v) → Q none h') : Ex X PG d 18 0 [some (.ref 1), some (.int (J v)), none] [] h Q := by
  obtain ⟨d, rfl⟩ : ∃ e, d = e + 1 := ⟨d - 1, by omega⟩
  have st : ∀ (s m : Int) (h' : AH), 0 ≤ s ∧ s ≤ 24 → 0 ≤ m ∧ m < 400 → Lay h' → fI h' 1 1 = m → Ex X PG (d + 1) 18 3 [some (.ref 1), some (.int (J v)), some (.int (J (s + -8)))] [] (wF (wA h' 2 m (byv v s)) 1 1 (m + 1)) Q → Ex X PG (d + 1) 18 3 [some (.ref 1), some (.int (J v)), some (.int (J s))] [] h' Q := by
    intro s m h' hs hm C' em w
    refine r18_3 C' ⟨by omega, fun c => absurd c (by omega), fun _ => ?_⟩
    rw [em]
    exact ⟨fun c => absurd c (by omega), fun _ => ⟨by omega, w⟩⟩
  have s1 : ∀ (m : Int) (h' : AH) (x : Int), Fr (fun c j => c = 2 ∨ (c = 1 ∧ j = 1)) h h' → -2147483648 ≤ m + 1 ∧ m + 1 < 2147483648 → Fr (fun c j => c = 2 ∨ (c = 1 ∧ j = 1)) h (wF (wA h' 2 m x) 1 1 (m + 1)) ∧ fI (wF (wA h' 2 m x) 1 1 (m + 1)) 1 1 = m + 1 := fun m h' x F g => ⟨(F.wA (Or.inl rfl)).wF (Or.inr ⟨rfl, rfl⟩), fI_wF_eq g⟩
  have a1 : ∀ (m : Int) (h' : AH) (s : Int), aI (wF (wA h' 2 m (byv v s)) 1 1 (m + 1)) 2 = uu_ (aI h' 2) m (byv v s) := fun m h' s => by rw [aI_wF_ne (by decide), aI_wA (byv_rg _ _)]
  refine r18_0 C ?_
  obtain ⟨F1, e1⟩ := s1 l h (byv v 24) Fr.rf (by omega)
  refine st 24 l h (by omega) (by omega) C el ?_
  obtain ⟨F2, e2⟩ := s1 (l + 1) _ (byv v 16) F1 (by omega)
  refine st 16 (l + 1) _ (by omega) (by omega) (F1.C C) e1 ?_
  obtain ⟨F3, e3⟩ := s1 (l + 1 + 1) _ (byv v 8) F2 (by omega)
  refine st 8 (l + 1 + 1) _ (by omega) (by omega) (F2.C C) e2 ?_
  obtain ⟨F4, e4⟩ := s1 (l + 1 + 1 + 1) _ (byv v 0) F3 (by omega)
  refine st 0 (l + 1 + 1 + 1) _ (by omega) (by omega) (F3.C C) e3 ?_
  refine r18_3 (F4.C C) ⟨by decide, fun _ => ?_, fun c => absurd (by decide) c⟩
  refine k _ F4.1 ⟨F4, by rw [e4]; omega, ?_⟩
  rw [a1, a1, a1, a1]
  unfold put4
  rw [show l + 1 + 1 = l + 2 by omega, show l + 2 + 1 = l + 3 by omega]
-- OutwardDoors.feed(IIIII)I at 0
set_option maxRecDepth 20000 in
set_option maxHeartbeats 4000000 in
theorem r17_0 {X : Cst} {d : Nat} {x1 : Int} {x2 : Int} {x3 : Int} {x4 : Int} {x5 : Int} {pl : Nat} {h : AH} {Q : Post} (C_h : Lay h) (K_h_0 : PlanAt h pl) (P_h : hR h 52 0 = some pl)
  (w : (-2147483648 ≤ (fI h 1 1) + 20 ∧ (fI h 1 1) + 20 < 2147483648) ∧ (((fI h 1 1) + 20 ≤ 400 → Ex X PG d 18 0 [some (.ref 1), some (.int (J x1)), none] [] h (fun v6 h7 => v6 = none ∧ SH h h7 ∧ Ex X PG d 18 0 [some (.ref 1), some (.int (J x2)), none] [] h7 (fun v9 h10 => v9 = none ∧ SH h7 h10 ∧ Ex X PG d 18 0 [some (.ref 1), some (.int (J x3)), none] [] h10 (fun v12 h13 => v12 = none ∧ SH h10 h13 ∧ Ex X PG d 18 0 [some (.ref 1), some (.int (J x4)), none] [] h13 (fun v15 h16 => v15 = none ∧ SH h13 h16 ∧ Ex X PG d 18 0 [some (.ref 1), some (.int (J x5)), none] [] h16 (fun v18 h19 => v18 = none ∧ SH h16 h19 ∧ Q (some (.int (J (fI h19 1 1)))) h19)))))) ∧ (¬ (fI h 1 1) + 20 ≤ 400 → Q (some (.int (J (-1)))) h))) :
    Ex X PG (d + 1) 17 0 [some (.ref 0), some (.int (J x1)), some (.int (J x2)), some (.int (J x3)), some (.int (J x4)), some (.int (J x5))] [] h Q := by
  refine wpx_ok (cut := []) 31 d 17 0 _ _ _ _ ?_
  show hs h 0 = (0, 10) ∧ ∃ q1, hR h 0 0 = some q1 ∧ hs h q1 = (0, 8) ∧ ((((hF h q1 1) + (J 20)) ≤ (J 400) → hs h 0 = (0, 10) ∧ ∃ q5, hR h 0 0 = some q5 ∧ hs h q5 = (0, 8) ∧ Ex X PG d 18 0 [some (.ref q5), some (.int (J x1)), none] [] h (fun v6 h7 => v6 = none ∧ hs h7 0 = (0, 10) ∧ ∃ q8, hR h7 0 0 = some q8 ∧ hs h7 q8 = (0, 8) ∧ Ex X PG d 18 0 [some (.ref q8), some (.int (J x2)), none] [] h7 (fun v9 h10 => v9 = none ∧ hs h10 0 = (0, 10) ∧ ∃ q11, hR h10 0 0 = some q11 ∧ hs h10 q11 = (0, 8) ∧ Ex X PG d 18 0 [some (.ref q11), some (.int (J x3)), none] [] h10 (fun v12 h13 => v12 = none ∧ hs h13 0 = (0, 10) ∧ ∃ q14, hR h13 0 0 = some q14 ∧ hs h13 q14 = (0, 8) ∧ Ex X PG d 18 0 [some (.ref q14), some (.int (J x4)), none] [] h13 (fun v15 h16 => v15 = none ∧ hs h16 0 = (0, 10) ∧ ∃ q17, hR h16 0 0 = some q17 ∧ hs h16 q17 = (0, 8) ∧ Ex X PG d 18 0 [some (.ref q17), some (.int (J x5)), none] [] h16 (fun v18 h19 => v18 = none ∧ hs h19 0 = (0, 10) ∧ ∃ q20, hR h19 0 0 = some q20 ∧ hs h19 q20 = (0, 8) ∧ Q (some (.int (hF h19 q20 1))) h19)))))) ∧ (¬ (((hF h q1 1) + (J 20)) ≤ (J 400)) → Q (some (.int (J (-1)))) h))
  try simp only [aI_wAL, fI_wAL, aL_wA, aL_wF, aI_wA_ne, aI_wF_ne, fI_wA_ne, fI_wF_ne, fI_wF_nk, aL_wAL_ne, J_sameA, J_sameF, aL_same, Nat.add_left_cancel_iff, Nat.add_eq_left, Nat.left_eq_add, not_false_eq_true, Nat.reduceEqDiff, Nat.reduceAdd, J_add, J_sub, J_mul, J_neg, J_and, J_or, J_xor, J_shl, J_shr, J_div, J_i2b, J_i2l, J_l2i, J_lcm, J_max, J_min, J_nab, J_nao, rdA, rdF, rdL, wA_fold, wF_fold, wL_fold, wC_fold]
  refine ⟨(ls0 C_h), _, (lr0_0 C_h), ?_⟩
  refine ⟨(ls1 C_h), ?_⟩
  obtain ⟨k4, w⟩ := w
  refine ⟨fun c2 => ?_, fun c2 => ?_⟩
  · have t3 : (fI h 1 1) + 20 ≤ 400 := ((Jle k4 (by decide)).mp c2)
    replace w := w.1 t3
    refine ⟨(ls0 C_h), _, (lr0_0 C_h), ?_⟩
    refine ⟨(ls1 C_h), ?_⟩
    refine Ex.mono w (Nat.le_refl _) ?_
    rintro v6 h7 ⟨rfl, s25, w⟩
    refine ⟨rfl, ?_⟩
    have C_h7 := Lay_SH s25 C_h
    have K_h7_0 := PlanAt_SH s25 K_h_0
    have P_h7 := (congrFun (congrFun s25.2 52) 0).trans P_h
    try simp only [aI_wAL, fI_wAL, aL_wA, aL_wF, aI_wA_ne, aI_wF_ne, fI_wA_ne, fI_wF_ne, fI_wF_nk, aL_wAL_ne, J_sameA, J_sameF, aL_same, Nat.add_left_cancel_iff, Nat.add_eq_left, Nat.left_eq_add, not_false_eq_true, Nat.reduceEqDiff, Nat.reduceAdd, J_add, J_sub, J_mul, J_neg, J_and, J_or, J_xor, J_shl, J_shr, J_div, J_i2b, J_i2l, J_l2i, J_lcm, J_max, J_min, J_nab, J_nao, rdA, rdF, rdL, wA_fold, wF_fold, wL_fold, wC_fold]
    refine ⟨(ls0 C_h7), _, (lr0_0 C_h7), ?_⟩
    refine ⟨(ls1 C_h7), ?_⟩
    refine Ex.mono w (Nat.le_refl _) ?_
    rintro v9 h10 ⟨rfl, s24, w⟩
    refine ⟨rfl, ?_⟩
    have C_h10 := Lay_SH s24 C_h7
    have K_h10_0 := PlanAt_SH s24 K_h7_0
    have P_h10 := (congrFun (congrFun s24.2 52) 0).trans P_h7
    try simp only [aI_wAL, fI_wAL, aL_wA, aL_wF, aI_wA_ne, aI_wF_ne, fI_wA_ne, fI_wF_ne, fI_wF_nk, aL_wAL_ne, J_sameA, J_sameF, aL_same, Nat.add_left_cancel_iff, Nat.add_eq_left, Nat.left_eq_add, not_false_eq_true, Nat.reduceEqDiff, Nat.reduceAdd, J_add, J_sub, J_mul, J_neg, J_and, J_or, J_xor, J_shl, J_shr, J_div, J_i2b, J_i2l, J_l2i, J_lcm, J_max, J_min, J_nab, J_nao, rdA, rdF, rdL, wA_fold, wF_fold, wL_fold, wC_fold]
    refine ⟨(ls0 C_h10), _, (lr0_0 C_h10), ?_⟩
    refine ⟨(ls1 C_h10), ?_⟩
    refine Ex.mono w (Nat.le_refl _) ?_
    rintro v12 h13 ⟨rfl, s23, w⟩
    refine ⟨rfl, ?_⟩
    have C_h13 := Lay_SH s23 C_h10
    have K_h13_0 := PlanAt_SH s23 K_h10_0
    have P_h13 := (congrFun (congrFun s23.2 52) 0).trans P_h10
    try simp only [aI_wAL, fI_wAL, aL_wA, aL_wF, aI_wA_ne, aI_wF_ne, fI_wA_ne, fI_wF_ne, fI_wF_nk, aL_wAL_ne, J_sameA, J_sameF, aL_same, Nat.add_left_cancel_iff, Nat.add_eq_left, Nat.left_eq_add, not_false_eq_true, Nat.reduceEqDiff, Nat.reduceAdd, J_add, J_sub, J_mul, J_neg, J_and, J_or, J_xor, J_shl, J_shr, J_div, J_i2b, J_i2l, J_l2i, J_lcm, J_max, J_min, J_nab, J_nao, rdA, rdF, rdL, wA_fold, wF_fold, wL_fold, wC_fold]
    refine ⟨(ls0 C_h13), _, (lr0_0 C_h13), ?_⟩
    refine ⟨(ls1 C_h13), ?_⟩
    refine Ex.mono w (Nat.le_refl _) ?_
    rintro v15 h16 ⟨rfl, s22, w⟩
    refine ⟨rfl, ?_⟩
    have C_h16 := Lay_SH s22 C_h13
    have K_h16_0 := PlanAt_SH s22 K_h13_0
    have P_h16 := (congrFun (congrFun s22.2 52) 0).trans P_h13
    try simp only [aI_wAL, fI_wAL, aL_wA, aL_wF, aI_wA_ne, aI_wF_ne, fI_wA_ne, fI_wF_ne, fI_wF_nk, aL_wAL_ne, J_sameA, J_sameF, aL_same, Nat.add_left_cancel_iff, Nat.add_eq_left, Nat.left_eq_add, not_false_eq_true, Nat.reduceEqDiff, Nat.reduceAdd, J_add, J_sub, J_mul, J_neg, J_and, J_or, J_xor, J_shl, J_shr, J_div, J_i2b, J_i2l, J_l2i, J_lcm, J_max, J_min, J_nab, J_nao, rdA, rdF, rdL, wA_fold, wF_fold, wL_fold, wC_fold]
    refine ⟨(ls0 C_h16), _, (lr0_0 C_h16), ?_⟩
    refine ⟨(ls1 C_h16), ?_⟩
    refine Ex.mono w (Nat.le_refl _) ?_
    rintro v18 h19 ⟨rfl, s21, w⟩
    refine ⟨rfl, ?_⟩
    have C_h19 := Lay_SH s21 C_h16
    have K_h19_0 := PlanAt_SH s21 K_h16_0
    have P_h19 := (congrFun (congrFun s21.2 52) 0).trans P_h16
    try simp only [aI_wAL, fI_wAL, aL_wA, aL_wF, aI_wA_ne, aI_wF_ne, fI_wA_ne, fI_wF_ne, fI_wF_nk, aL_wAL_ne, J_sameA, J_sameF, aL_same, Nat.add_left_cancel_iff, Nat.add_eq_left, Nat.left_eq_add, not_false_eq_true, Nat.reduceEqDiff, Nat.reduceAdd, J_add, J_sub, J_mul, J_neg, J_and, J_or, J_xor, J_shl, J_shr, J_div, J_i2b, J_i2l, J_l2i, J_lcm, J_max, J_min, J_nab, J_nao, rdA, rdF, rdL, wA_fold, wF_fold, wL_fold, wC_fold]
    refine ⟨(ls0 C_h19), _, (lr0_0 C_h19), ?_⟩
    refine ⟨(ls1 C_h19), ?_⟩
    exact w
  · have t3 : ¬ (fI h 1 1) + 20 ≤ 400 := (fun e => c2 ((Jle k4 (by decide)).mpr e))
    replace w := w.2 t3
    exact w
theorem m17 {X : Cst} {d : Nat} {pl : Nat} {a b c e f l : Int} {h : AH} {Q : Post} (C : Lay h) (K : PlanAt h pl) (P : hR h 52 0 = some pl) (hd : 2 ≤ d) (el : fI h 1 1 = l) (hl : 0 ≤ l ∧ l ≤ 400)
    (k0 : ¬ l + 20 ≤ 400 → Q (some (.int (J (-1)))) h)
    (k : l + 20 ≤ 400 → ∀ h', Fr (fun c j => c = 2 ∨ (c = 1 ∧ j = 1)) h h' → fI h' 1 1 = l + 20 → aI h' 2 = put20 (aI h 2) l a b c e f → Q (some (.int (J (l + 20)))) h') : Ex X PG d 17 0 [some (.ref 0), some (.int (J a)), some (.int (J b)), some (.int (J c)), some (.int (J e)), some (.int (J f))] [] h Q := by
  obtain ⟨d, rfl⟩ : ∃ e, d = e + 1 := ⟨d - 1, by omega⟩
  refine r17_0 C K P ?_
  rw [el]
  refine ⟨by omega, fun g => ?_, fun g => k0 g⟩
  refine m18 (l := l) C (by omega) el (by omega) (fun h5 s5 p5 => ⟨rfl, s5, ?_⟩)
  refine m18 (l := l + 4) (p5.1.C C) (by omega) p5.2.1 (by omega) (fun h7 s7 p7 => ⟨rfl, s7, ?_⟩)
  have F7 := p5.1.tr p7.1
  refine m18 (l := l + 4 + 4) (F7.C C) (by omega) p7.2.1 (by omega) (fun h9 s9 p9 => ⟨rfl, s9, ?_⟩)
  have F9 := F7.tr p9.1
  refine m18 (l := l + 4 + 4 + 4) (F9.C C) (by omega) p9.2.1 (by omega) (fun h11 s11 p11 => ⟨rfl, s11, ?_⟩)
  have F11 := F9.tr p11.1
  refine m18 (l := l + 4 + 4 + 4 + 4) (F11.C C) (by omega) p11.2.1 (by omega) (fun h13 s13 p13 => ⟨rfl, s13, ?_⟩)
  have F13 := F11.tr p13.1
  have e13 : fI h13 1 1 = l + 20 := by rw [p13.2.1]; omega
  rw [e13]
  refine k g h13 F13 e13 ?_
  rw [p13.2.2, p11.2.2, p9.2.2, p7.2.2, p5.2.2]
  unfold put20
  rw [show l + 4 + 4 = l + 8 by omega, show l + 8 + 4 = l + 12 by omega, show l + 12 + 4 = l + 16 by omega]
-- OutwardDoors.end(I)I at 0
set_option maxRecDepth 20000 in
set_option maxHeartbeats 4000000 in
theorem r19_0 {X : Cst} {d : Nat} {x1 : Int} {pl : Nat} {h : AH} {Q : Post} (C_h : Lay h) (K_h_0 : PlanAt h pl) (P_h : hR h 52 0 = some pl)
  (w : (-2147483648 ≤ x1 ∧ x1 < 2147483648) ∧ ((x1 < 0 → Q (some (.int (J (-1)))) h) ∧ (¬ x1 < 0 → ((x1 ≤ fI h 1 1 → Q (some (.int (J x1))) (wF h 1 1 x1)) ∧ (¬ x1 ≤ fI h 1 1 → Q (some (.int (J (-1)))) h))))) :
    Ex X PG (d + 1) 19 0 [some (.ref 0), some (.int (J x1))] [] h Q := by
  refine wpx_ok (cut := []) 13 d 19 0 _ _ _ _ ?_
  show (((J x1) < (J 0) → Q (some (.int (J (-1)))) h) ∧ (¬ ((J x1) < (J 0)) → hs h 0 = (0, 10) ∧ ∃ q4, hR h 0 0 = some q4 ∧ hs h q4 = (0, 8) ∧ (((J x1) ≤ (hF h q4 1) → hs h 0 = (0, 10) ∧ ∃ q7, hR h 0 0 = some q7 ∧ hs h q7 = (0, 8) ∧ Q (some (.int (J x1))) (wG h q7 1 (J x1))) ∧ (¬ ((J x1) ≤ (hF h q4 1)) → Q (some (.int (J (-1)))) h))))
  try simp only [aI_wAL, fI_wAL, aL_wA, aL_wF, aI_wA_ne, aI_wF_ne, fI_wA_ne, fI_wF_ne, fI_wF_nk, aL_wAL_ne, J_sameA, J_sameF, aL_same, Nat.add_left_cancel_iff, Nat.add_eq_left, Nat.left_eq_add, not_false_eq_true, Nat.reduceEqDiff, Nat.reduceAdd, J_add, J_sub, J_mul, J_neg, J_and, J_or, J_xor, J_shl, J_shr, J_div, J_i2b, J_i2l, J_l2i, J_lcm, J_max, J_min, J_nab, J_nao, rdA, rdF, rdL, wA_fold, wF_fold, wL_fold, wC_fold]
  obtain ⟨k3, w⟩ := w
  refine ⟨fun c1 => ?_, fun c1 => ?_⟩
  · have t2 : x1 < 0 := ((Jlt k3 (by decide)).mp c1)
    replace w := w.1 t2
    exact w
  · have t2 : ¬ x1 < 0 := (fun e => c1 ((Jlt k3 (by decide)).mpr e))
    replace w := w.2 t2
    refine ⟨(ls0 C_h), _, (lr0_0 C_h), ?_⟩
    refine ⟨(ls1 C_h), ?_⟩
    refine ⟨fun c5 => ?_, fun c5 => ?_⟩
    · have t6 : x1 ≤ fI h 1 1 := ((Jle k3 (rg_toInt _)).mp c5)
      replace w := w.1 t6
      refine ⟨(ls0 C_h), _, (lr0_0 C_h), ?_⟩
      refine ⟨(ls1 C_h), ?_⟩
      exact w
    · have t6 : ¬ x1 ≤ fI h 1 1 := (fun e => c5 ((Jle k3 (rg_toInt _)).mpr e))
      replace w := w.2 t6
      exact w
theorem m19 {X : Cst} {d : Nat} {pl : Nat} {n : Int} {h : AH} {Q : Post} (C : Lay h) (K : PlanAt h pl) (P : hR h 52 0 = some pl) (hd : 1 ≤ d) (g : -2147483648 ≤ n ∧ n < 2147483648) (k0 : ¬ (0 ≤ n ∧ n ≤ fI h 1 1) → Q (some (.int (J (-1)))) h) (k : (0 ≤ n ∧ n ≤ fI h 1 1) → Q (some (.int (J n))) (wF h 1 1 n)) : Ex X PG d 19 0 [some (.ref 0), some (.int (J n))] [] h Q := by
  obtain ⟨d, rfl⟩ : ∃ e, d = e + 1 := ⟨d - 1, by omega⟩
  exact r19_0 C K P ⟨g, fun c => k0 (by omega), fun c => ⟨fun c2 => k (by omega), fun c2 => k0 (by omega)⟩⟩
