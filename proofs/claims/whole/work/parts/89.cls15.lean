/-! THE CLASS: caught, page. -/
theorem bset_not (P : Nat → Prop) : ∀ n, bset n P + bset n (fun k => ¬ P k) = 2 ^ n - 1 := by
  intro n
  induction n with
  | zero => rfl
  | succ n ih =>
    have p := Nat.two_pow_pos n
    by_cases c : P n
    · rw [← bset_or (P := P) c, ← bset_no (P := fun k => ¬ P k) (fun z => z c)]
      have l := bset_lt P n
      have e : bset n P ||| 2 ^ n = 2 ^ n * 1 + bset n P := by
        have := or_lo (b := 1) l
        rw [Nat.mul_one] at this ⊢
        exact this
      rw [e, Nat.pow_succ]
      omega
    · rw [← bset_no (P := P) c, ← bset_or (P := fun k => ¬ P k) c]
      have l := bset_lt (fun k => ¬ P k) n
      have e : bset n (fun k => ¬ P k) ||| 2 ^ n = 2 ^ n * 1 + bset n (fun k => ¬ P k) := by
        have := or_lo (b := 1) l
        rw [Nat.mul_one] at this ⊢
        exact this
      rw [e, Nat.pow_succ]
      omega
-- OutwardDoors.caught(I)I at 0
set_option maxRecDepth 20000 in
set_option maxHeartbeats 4000000 in
theorem r138_0 {X : Cst} {d : Nat} {x1 : Int} {pl : Nat} {S : Int → Int} {h : AH} {Q : Post} (C_h : Lay h) (K_h_0 : PlanAt h pl) (P_h : hR h 52 0 = some pl) (hd : 3 ≤ d)
  (w : (CS h pl S) ∧ ((¬ (0 < S 0) → Q (some (.int (J (-1)))) h) ∧ ((0 < S 0) → (-2147483648 ≤ x1 ∧ x1 < 2147483648) ∧ ((x1 < 0 → Q (some (.int (J (-1)))) h) ∧ (¬ x1 < 0 → ((x1 ≤ 1 → (WF 999 S) ∧ Ex X PG d 114 0 [some (.ref 247), some (.ref pl), some (.int (J (bI (nightP S)))), some (.int (J (fI h pl 2))), some (.int (J (-1))), none] [] h (fun v23 h24 => v23 = none ∧ GRo h24 pl ∧ Ex X PG d 117 0 [some (.ref 64), some (.int (J (fI h pl 2))), none, none] [] h24 (fun v26 h27 => ∃ r28 : Int, (-2147483648 ≤ r28 ∧ r28 < 2147483648) ∧ v26 = some (.int (J r28)) ∧ SH h24 h27 ∧ Ex X PG d 118 0 [some (.ref 247), some (.int (J r28))] [] h27 (fun v29 h30 => v29 = none ∧ SH h27 h30 ∧ Ex X PG d 139 0 [some (.ref 247), none] [] h30 (fun v32 h33 => v32 = none ∧ SH h30 h33 ∧ Ex X PG (d + 1) 138 82 [some (.ref 0), some (.int (J x1)), some (.ref 64), some (.int (J (fI h pl 2))), some (.int (J 0)), some (.int (J 0)), none] [] h33 Q))))) ∧ (¬ x1 ≤ 1 → Q (some (.int (J (-1)))) h))))))) :
    Ex X PG (d + 1) 138 0 [some (.ref 0), some (.int (J x1)), none, none, none, none, none] [] h Q := by
  refine wpx_ok (cut := [82]) 40 d 138 0 _ _ _ _ ?_
  show hs h 0 = (0, 10) ∧ Ex X PG d 86 0 [some (.ref 0)] [] h (fun v1 h2 => ∃ r3, v1 = some (.int r3) ∧ ((r3 = (J 0) → Q (some (.int (J (-1)))) h2) ∧ (¬ (r3 = (J 0)) → (((J x1) < (J 0) → Q (some (.int (J (-1)))) h2) ∧ (¬ ((J x1) < (J 0)) → (((J x1) ≤ (J 1) → hs h2 0 = (0, 10) ∧ ∃ q12, hR h2 0 5 = some q12 ∧ hs h2 q12 = (0, 6) ∧ ∃ q13, hR h2 q12 1 = some q13 ∧ hs h2 0 = (0, 10) ∧ ∃ q14, hR h2 0 5 = some q14 ∧ hs h2 q14 = (0, 6) ∧ ∃ q15, hR h2 q14 0 = some q15 ∧ hs h2 q15 = (0, 2) ∧ hs h2 0 = (0, 10) ∧ ∃ q16, hR h2 0 10 = some q16 ∧ hs h2 0 = (0, 10) ∧ ∃ q17, hR h2 0 5 = some q17 ∧ hs h2 q17 = (0, 6) ∧ ∃ q18, hR h2 q17 0 = some q18 ∧ hs h2 0 = (0, 10) ∧ Ex X PG d 76 0 [some (.ref 0)] [] h2 (fun v19 h20 => ∃ r21, v19 = some (.int r21) ∧ hs h20 q16 = (0, 7) ∧ Ex X PG d 114 0 [some (.ref q16), some (.ref q18), some (.int r21), some (.int (hF h2 q15 2)), some (.int (J (-1))), none] [] h20 (fun v23 h24 => v23 = none ∧ hs h24 0 = (0, 10) ∧ ∃ q25, hR h24 0 10 = some q25 ∧ hs h24 q13 = (0, 9) ∧ Ex X PG d 117 0 [some (.ref q13), some (.int (hF h2 q15 2)), none, none] [] h24 (fun v26 h27 => ∃ r28, v26 = some (.int r28) ∧ hs h27 q25 = (0, 7) ∧ Ex X PG d 118 0 [some (.ref q25), some (.int r28)] [] h27 (fun v29 h30 => v29 = none ∧ hs h30 0 = (0, 10) ∧ ∃ q31, hR h30 0 10 = some q31 ∧ hs h30 q31 = (0, 7) ∧ Ex X PG d 139 0 [some (.ref q31), none] [] h30 (fun v32 h33 => v32 = none ∧ Ex X PG (d + 1) 138 82 [some (.ref 0), some (.int (J x1)), some (.ref q13), some (.int (hF h2 q15 2)), some (.int (J 0)), some (.int (J 0)), none] [] h33 Q)))))) ∧ (¬ ((J x1) ≤ (J 1)) → Q (some (.int (J (-1)))) h2)))))))
  try simp only [aI_wAL, fI_wAL, aL_wA, aL_wF, aI_wA_ne, aI_wF_ne, fI_wA_ne, fI_wF_ne, fI_wF_nk, aL_wAL_ne, J_sameA, J_sameF, aL_same, Nat.add_left_cancel_iff, Nat.add_eq_left, Nat.left_eq_add, not_false_eq_true, Nat.reduceEqDiff, Nat.reduceAdd, J_add, J_sub, J_mul, J_neg, J_and, J_or, J_xor, J_shl, J_shr, J_div, J_i2b, J_i2l, J_l2i, J_lcm, J_max, J_min, J_nab, J_nao, rdA, rdF, rdL, wA_fold, wF_fold, wL_fold, wC_fold]
  refine ⟨(ls0 C_h), ?_⟩
  obtain ⟨k4, w⟩ := w
  refine m86 (h := h)  (S := S) (pl := pl) C_h P_h K_h_0 (by omega) k4 ?_
  refine ⟨_, rfl, ?_⟩
  try simp only [aI_wAL, fI_wAL, aL_wA, aL_wF, aI_wA_ne, aI_wF_ne, fI_wA_ne, fI_wF_ne, fI_wF_nk, aL_wAL_ne, J_sameA, J_sameF, aL_same, Nat.add_left_cancel_iff, Nat.add_eq_left, Nat.left_eq_add, not_false_eq_true, Nat.reduceEqDiff, Nat.reduceAdd, J_add, J_sub, J_mul, J_neg, J_and, J_or, J_xor, J_shl, J_shr, J_div, J_i2b, J_i2l, J_l2i, J_lcm, J_max, J_min, J_nab, J_nao, rdA, rdF, rdL, wA_fold, wF_fold, wL_fold, wC_fold]
  refine ⟨fun c5 => ?_, fun c5 => ?_⟩
  · have t6 : ¬ (0 < S 0) := ((bI0 _).mp c5)
    replace w := w.1 t6
    exact w
  · have t6 : (0 < S 0) := (Classical.byContradiction fun n => c5 ((bI0 _).mpr n))
    replace w := w.2 t6
    obtain ⟨k9, w⟩ := w
    refine ⟨fun c7 => ?_, fun c7 => ?_⟩
    · have t8 : x1 < 0 := ((Jlt k9 (by decide)).mp c7)
      replace w := w.1 t8
      exact w
    · have t8 : ¬ x1 < 0 := (fun e => c7 ((Jlt k9 (by decide)).mpr e))
      replace w := w.2 t8
      refine ⟨fun c10 => ?_, fun c10 => ?_⟩
      · have t11 : x1 ≤ 1 := ((Jle k9 (by decide)).mp c10)
        replace w := w.1 t11
        refine ⟨(ls0 C_h), _, (lr0_5 C_h), ?_⟩
        refine ⟨(ls52 C_h), _, (lr52_1 C_h), ?_⟩
        refine ⟨(ls0 C_h), _, (lr0_5 C_h), ?_⟩
        refine ⟨(ls52 C_h), _, P_h, ?_⟩
        refine ⟨(plan_0 K_h_0), ?_⟩
        refine ⟨(ls0 C_h), _, (lr0_10 C_h), ?_⟩
        refine ⟨(ls0 C_h), _, (lr0_5 C_h), ?_⟩
        refine ⟨(ls52 C_h), _, P_h, ?_⟩
        refine ⟨(ls0 C_h), ?_⟩
        obtain ⟨k22, w⟩ := w
        refine m76 (h := h)  (S := S) (pl := pl) C_h P_h K_h_0 (by omega) k4 k22 ?_
        refine ⟨_, rfl, ?_⟩
        try simp only [aI_wAL, fI_wAL, aL_wA, aL_wF, aI_wA_ne, aI_wF_ne, fI_wA_ne, fI_wF_ne, fI_wF_nk, aL_wAL_ne, J_sameA, J_sameF, aL_same, Nat.add_left_cancel_iff, Nat.add_eq_left, Nat.left_eq_add, not_false_eq_true, Nat.reduceEqDiff, Nat.reduceAdd, J_add, J_sub, J_mul, J_neg, J_and, J_or, J_xor, J_shl, J_shr, J_div, J_i2b, J_i2l, J_l2i, J_lcm, J_max, J_min, J_nab, J_nao, rdA, rdF, rdL, wA_fold, wF_fold, wL_fold, wC_fold]
        refine ⟨(ls247 C_h), ?_⟩
        refine Ex.mono w (Nat.le_refl _) ?_
        rintro v23 h24 ⟨rfl, ⟨C_h24, K_h24_0, P_h24⟩, w⟩
        refine ⟨rfl, ?_⟩
        try simp only [aI_wAL, fI_wAL, aL_wA, aL_wF, aI_wA_ne, aI_wF_ne, fI_wA_ne, fI_wF_ne, fI_wF_nk, aL_wAL_ne, J_sameA, J_sameF, aL_same, Nat.add_left_cancel_iff, Nat.add_eq_left, Nat.left_eq_add, not_false_eq_true, Nat.reduceEqDiff, Nat.reduceAdd, J_add, J_sub, J_mul, J_neg, J_and, J_or, J_xor, J_shl, J_shr, J_div, J_i2b, J_i2l, J_l2i, J_lcm, J_max, J_min, J_nab, J_nao, rdA, rdF, rdL, wA_fold, wF_fold, wL_fold, wC_fold]
        refine ⟨(ls0 C_h24), _, (lr0_10 C_h24), ?_⟩
        refine ⟨(ls64 C_h24), ?_⟩
        refine Ex.mono w (Nat.le_refl _) ?_
        rintro v26 h27 ⟨r28, gr28, rfl, s36, w⟩
        refine ⟨_, rfl, ?_⟩
        have C_h27 := Lay_SH s36 C_h24
        have K_h27_0 := PlanAt_SH s36 K_h24_0
        have P_h27 := (congrFun (congrFun s36.2 52) 0).trans P_h24
        try simp only [aI_wAL, fI_wAL, aL_wA, aL_wF, aI_wA_ne, aI_wF_ne, fI_wA_ne, fI_wF_ne, fI_wF_nk, aL_wAL_ne, J_sameA, J_sameF, aL_same, Nat.add_left_cancel_iff, Nat.add_eq_left, Nat.left_eq_add, not_false_eq_true, Nat.reduceEqDiff, Nat.reduceAdd, J_add, J_sub, J_mul, J_neg, J_and, J_or, J_xor, J_shl, J_shr, J_div, J_i2b, J_i2l, J_l2i, J_lcm, J_max, J_min, J_nab, J_nao, rdA, rdF, rdL, wA_fold, wF_fold, wL_fold, wC_fold]
        refine ⟨(ls247 C_h27), ?_⟩
        refine Ex.mono w (Nat.le_refl _) ?_
        rintro v29 h30 ⟨rfl, s35, w⟩
        refine ⟨rfl, ?_⟩
        have C_h30 := Lay_SH s35 C_h27
        have K_h30_0 := PlanAt_SH s35 K_h27_0
        have P_h30 := (congrFun (congrFun s35.2 52) 0).trans P_h27
        try simp only [aI_wAL, fI_wAL, aL_wA, aL_wF, aI_wA_ne, aI_wF_ne, fI_wA_ne, fI_wF_ne, fI_wF_nk, aL_wAL_ne, J_sameA, J_sameF, aL_same, Nat.add_left_cancel_iff, Nat.add_eq_left, Nat.left_eq_add, not_false_eq_true, Nat.reduceEqDiff, Nat.reduceAdd, J_add, J_sub, J_mul, J_neg, J_and, J_or, J_xor, J_shl, J_shr, J_div, J_i2b, J_i2l, J_l2i, J_lcm, J_max, J_min, J_nab, J_nao, rdA, rdF, rdL, wA_fold, wF_fold, wL_fold, wC_fold]
        refine ⟨(ls0 C_h30), _, (lr0_10 C_h30), ?_⟩
        refine ⟨(ls247 C_h30), ?_⟩
        refine Ex.mono w (Nat.le_refl _) ?_
        rintro v32 h33 ⟨rfl, s34, w⟩
        refine ⟨rfl, ?_⟩
        have C_h33 := Lay_SH s34 C_h30
        have K_h33_0 := PlanAt_SH s34 K_h30_0
        have P_h33 := (congrFun (congrFun s34.2 52) 0).trans P_h30
        try simp only [aI_wAL, fI_wAL, aL_wA, aL_wF, aI_wA_ne, aI_wF_ne, fI_wA_ne, fI_wF_ne, fI_wF_nk, aL_wAL_ne, J_sameA, J_sameF, aL_same, Nat.add_left_cancel_iff, Nat.add_eq_left, Nat.left_eq_add, not_false_eq_true, Nat.reduceEqDiff, Nat.reduceAdd, J_add, J_sub, J_mul, J_neg, J_and, J_or, J_xor, J_shl, J_shr, J_div, J_i2b, J_i2l, J_l2i, J_lcm, J_max, J_min, J_nab, J_nao, rdA, rdF, rdL, wA_fold, wF_fold, wL_fold, wC_fold]
        exact w
      · have t11 : ¬ x1 ≤ 1 := (fun e => c10 ((Jle k9 (by decide)).mpr e))
        replace w := w.2 t11
        exact w
-- OutwardDoors.caught(I)I at 82
set_option maxRecDepth 20000 in
set_option maxHeartbeats 4000000 in
theorem r138_82 {X : Cst} {d : Nat} {x1 : Int} {x3 : Int} {x4 : Int} {x5 : Int} {l6 : Option Value} {pl : Nat} {h : AH} {Q : Post} (C_h : Lay h) (K_h_0 : PlanAt h pl) (P_h : hR h 52 0 = some pl)
  (w : (-2147483648 ≤ x5 ∧ x5 < 2147483648) ∧ (-2147483648 ≤ x3 ∧ x3 < 2147483648) ∧ ((x3 ≤ x5 → Q (some (.int (J (((shl 1 (iand x3 31)) - 1) - x4)))) h) ∧ (¬ x3 ≤ x5 → (-2147483648 ≤ x1 ∧ x1 < 2147483648) ∧ ((¬ x1 = 0 → (0 ≤ x5 ∧ x5 < 4) ∧ Ex X PG d 140 0 [some (.ref 247), some (.int (J x5)), some (.int (J (aI h 65 x5))), some (.int (J 0)), none] [] h (fun v13 h14 => ∃ r15 : Int, (-2147483648 ≤ r15 ∧ r15 < 2147483648) ∧ v13 = some (.int (J r15)) ∧ SH h h14 ∧ ((r15 = 0 → Ex X PG (d + 1) 138 82 [some (.ref 0), some (.int (J x1)), some (.ref 64), some (.int (J x3)), some (.int (J x4)), some (.int (J (x5 + 1))), some (.int (J (aI h 65 x5)))] [] h14 Q) ∧ (¬ r15 = 0 → Ex X PG (d + 1) 138 82 [some (.ref 0), some (.int (J x1)), some (.ref 64), some (.int (J x3)), some (.int (J (ior x4 (shl 1 (iand x5 31))))), some (.int (J (x5 + 1))), some (.int (J (aI h 65 x5)))] [] h14 Q)))) ∧ (x1 = 0 → (0 ≤ x5 ∧ x5 < 4) ∧ Ex X PG d 140 0 [some (.ref 247), some (.int (J x5)), some (.int (J (aI h 66 x5))), some (.int (J 1)), none] [] h (fun v36 h37 => ∃ r38 : Int, (-2147483648 ≤ r38 ∧ r38 < 2147483648) ∧ v36 = some (.int (J r38)) ∧ SH h h37 ∧ ((r38 = 0 → Ex X PG (d + 1) 138 82 [some (.ref 0), some (.int (J x1)), some (.ref 64), some (.int (J x3)), some (.int (J x4)), some (.int (J (x5 + 1))), some (.int (J (aI h 66 x5)))] [] h37 Q) ∧ (¬ r38 = 0 → Ex X PG (d + 1) 138 82 [some (.ref 0), some (.int (J x1)), some (.ref 64), some (.int (J x3)), some (.int (J (ior x4 (shl 1 (iand x5 31))))), some (.int (J (x5 + 1))), some (.int (J (aI h 66 x5)))] [] h37 Q)))))))) :
    Ex X PG (d + 1) 138 82 [some (.ref 0), some (.int (J x1)), some (.ref 64), some (.int (J x3)), some (.int (J x4)), some (.int (J x5)), l6] [] h Q := by
  refine wpx_ok (cut := [82]) 29 d 138 82 _ _ _ _ ?_
  show (((J x3) ≤ (J x5) → Q (some (.int ((((J 1) <<< ((J x3) &&& J 31)) - (J 1)) - (J x4)))) h) ∧ (¬ ((J x3) ≤ (J x5)) → ((¬ (J x1) = (J 0) → hs h 64 = (0, 9) ∧ ∃ q8, hR h 64 0 = some q8 ∧ (hs h q8).1 = 1 ∧ ix (J x5) (hs h q8).2 ∧ hs h 0 = (0, 10) ∧ ∃ q10, hR h 0 10 = some q10 ∧ ((¬ (J x1) = (J 0) → hs h q10 = (0, 7) ∧ Ex X PG d 140 0 [some (.ref q10), some (.int (J x5)), some (.int (hI h q8 (Int32.toNatClampNeg (J x5)))), some (.int (J 0)), none] [] h (fun v13 h14 => ∃ r15, v13 = some (.int r15) ∧ ((r15 = (J 0) → Ex X PG (d + 1) 138 82 [some (.ref 0), some (.int (J x1)), some (.ref 64), some (.int (J x3)), some (.int (J x4)), some (.int ((J x5) + (J 1))), some (.int (hI h q8 (Int32.toNatClampNeg (J x5))))] [] h14 Q) ∧ (¬ (r15 = (J 0)) → Ex X PG (d + 1) 138 82 [some (.ref 0), some (.int (J x1)), some (.ref 64), some (.int (J x3)), some (.int ((J x4) ||| ((J 1) <<< ((J x5) &&& J 31)))), some (.int ((J x5) + (J 1))), some (.int (hI h q8 (Int32.toNatClampNeg (J x5))))] [] h14 Q)))) ∧ (¬ (¬ (J x1) = (J 0)) → hs h q10 = (0, 7) ∧ Ex X PG d 140 0 [some (.ref q10), some (.int (J x5)), some (.int (hI h q8 (Int32.toNatClampNeg (J x5)))), some (.int (J 1)), none] [] h (fun v19 h20 => ∃ r21, v19 = some (.int r21) ∧ ((r21 = (J 0) → Ex X PG (d + 1) 138 82 [some (.ref 0), some (.int (J x1)), some (.ref 64), some (.int (J x3)), some (.int (J x4)), some (.int ((J x5) + (J 1))), some (.int (hI h q8 (Int32.toNatClampNeg (J x5))))] [] h20 Q) ∧ (¬ (r21 = (J 0)) → Ex X PG (d + 1) 138 82 [some (.ref 0), some (.int (J x1)), some (.ref 64), some (.int (J x3)), some (.int ((J x4) ||| ((J 1) <<< ((J x5) &&& J 31)))), some (.int ((J x5) + (J 1))), some (.int (hI h q8 (Int32.toNatClampNeg (J x5))))] [] h20 Q)))))) ∧ (¬ (¬ (J x1) = (J 0)) → hs h 64 = (0, 9) ∧ ∃ q25, hR h 64 1 = some q25 ∧ (hs h q25).1 = 1 ∧ ix (J x5) (hs h q25).2 ∧ hs h 0 = (0, 10) ∧ ∃ q27, hR h 0 10 = some q27 ∧ ((¬ (J x1) = (J 0) → hs h q27 = (0, 7) ∧ Ex X PG d 140 0 [some (.ref q27), some (.int (J x5)), some (.int (hI h q25 (Int32.toNatClampNeg (J x5)))), some (.int (J 0)), none] [] h (fun v30 h31 => ∃ r32, v30 = some (.int r32) ∧ ((r32 = (J 0) → Ex X PG (d + 1) 138 82 [some (.ref 0), some (.int (J x1)), some (.ref 64), some (.int (J x3)), some (.int (J x4)), some (.int ((J x5) + (J 1))), some (.int (hI h q25 (Int32.toNatClampNeg (J x5))))] [] h31 Q) ∧ (¬ (r32 = (J 0)) → Ex X PG (d + 1) 138 82 [some (.ref 0), some (.int (J x1)), some (.ref 64), some (.int (J x3)), some (.int ((J x4) ||| ((J 1) <<< ((J x5) &&& J 31)))), some (.int ((J x5) + (J 1))), some (.int (hI h q25 (Int32.toNatClampNeg (J x5))))] [] h31 Q)))) ∧ (¬ (¬ (J x1) = (J 0)) → hs h q27 = (0, 7) ∧ Ex X PG d 140 0 [some (.ref q27), some (.int (J x5)), some (.int (hI h q25 (Int32.toNatClampNeg (J x5)))), some (.int (J 1)), none] [] h (fun v36 h37 => ∃ r38, v36 = some (.int r38) ∧ ((r38 = (J 0) → Ex X PG (d + 1) 138 82 [some (.ref 0), some (.int (J x1)), some (.ref 64), some (.int (J x3)), some (.int (J x4)), some (.int ((J x5) + (J 1))), some (.int (hI h q25 (Int32.toNatClampNeg (J x5))))] [] h37 Q) ∧ (¬ (r38 = (J 0)) → Ex X PG (d + 1) 138 82 [some (.ref 0), some (.int (J x1)), some (.ref 64), some (.int (J x3)), some (.int ((J x4) ||| ((J 1) <<< ((J x5) &&& J 31)))), some (.int ((J x5) + (J 1))), some (.int (hI h q25 (Int32.toNatClampNeg (J x5))))] [] h37 Q)))))))))
  try simp only [aI_wAL, fI_wAL, aL_wA, aL_wF, aI_wA_ne, aI_wF_ne, fI_wA_ne, fI_wF_ne, fI_wF_nk, aL_wAL_ne, J_sameA, J_sameF, aL_same, Nat.add_left_cancel_iff, Nat.add_eq_left, Nat.left_eq_add, not_false_eq_true, Nat.reduceEqDiff, Nat.reduceAdd, J_add, J_sub, J_mul, J_neg, J_and, J_or, J_xor, J_shl, J_shr, J_div, J_i2b, J_i2l, J_l2i, J_lcm, J_max, J_min, J_nab, J_nao, rdA, rdF, rdL, wA_fold, wF_fold, wL_fold, wC_fold]
  obtain ⟨k3, w⟩ := w
  obtain ⟨k4, w⟩ := w
  refine ⟨fun c1 => ?_, fun c1 => ?_⟩
  · have t2 : x3 ≤ x5 := ((Jle k4 k3).mp c1)
    replace w := w.1 t2
    exact w
  · have t2 : ¬ x3 ≤ x5 := (fun e => c1 ((Jle k4 k3).mpr e))
    replace w := w.2 t2
    obtain ⟨k7, w⟩ := w
    refine ⟨fun c5 => ?_, fun c5 => ?_⟩
    · have t6 : ¬ x1 = 0 := (fun e => c5 ((Jeq k7 (by decide)).mpr e))
      replace w := w.1 t6
      refine ⟨(ls64 C_h), _, (lr64_0 C_h), ?_⟩
      obtain ⟨k9, w⟩ := w
      refine ⟨congrArg Prod.fst (ls65 C_h), ixs (ls65 C_h) k9 (by decide), ?_⟩
      refine ⟨(ls0 C_h), _, (lr0_10 C_h), ?_⟩
      refine ⟨fun _ => ?_, fun c11 => absurd (fun e => t6 ((Jeq k7 (by decide)).mp e)) c11⟩
      refine ⟨(ls247 C_h), ?_⟩
      refine Ex.mono w (Nat.le_refl _) ?_
      rintro v13 h14 ⟨r15, gr15, rfl, s18, w⟩
      refine ⟨_, rfl, ?_⟩
      have C_h14 := Lay_SH s18 C_h
      have K_h14_0 := PlanAt_SH s18 K_h_0
      have P_h14 := (congrFun (congrFun s18.2 52) 0).trans P_h
      try simp only [aI_wAL, fI_wAL, aL_wA, aL_wF, aI_wA_ne, aI_wF_ne, fI_wA_ne, fI_wF_ne, fI_wF_nk, aL_wAL_ne, J_sameA, J_sameF, aL_same, Nat.add_left_cancel_iff, Nat.add_eq_left, Nat.left_eq_add, not_false_eq_true, Nat.reduceEqDiff, Nat.reduceAdd, J_add, J_sub, J_mul, J_neg, J_and, J_or, J_xor, J_shl, J_shr, J_div, J_i2b, J_i2l, J_l2i, J_lcm, J_max, J_min, J_nab, J_nao, rdA, rdF, rdL, wA_fold, wF_fold, wL_fold, wC_fold]
      refine ⟨fun c16 => ?_, fun c16 => ?_⟩
      · have t17 : r15 = 0 := ((Jeq gr15 (by decide)).mp c16)
        replace w := w.1 t17
        exact w
      · have t17 : ¬ r15 = 0 := (fun e => c16 ((Jeq gr15 (by decide)).mpr e))
        replace w := w.2 t17
        exact w
    · have t6 : x1 = 0 := ((Jeq k7 (by decide)).mp (Classical.byContradiction c5))
      replace w := w.2 t6
      refine ⟨(ls64 C_h), _, (lr64_1 C_h), ?_⟩
      obtain ⟨k26, w⟩ := w
      refine ⟨congrArg Prod.fst (ls66 C_h), ixs (ls66 C_h) k26 (by decide), ?_⟩
      refine ⟨(ls0 C_h), _, (lr0_10 C_h), ?_⟩
      refine ⟨fun c28 => absurd c28 (fun q => q ((Jeq k7 (by decide)).mpr t6)), fun _ => ?_⟩
      refine ⟨(ls247 C_h), ?_⟩
      refine Ex.mono w (Nat.le_refl _) ?_
      rintro v36 h37 ⟨r38, gr38, rfl, s41, w⟩
      refine ⟨_, rfl, ?_⟩
      have C_h37 := Lay_SH s41 C_h
      have K_h37_0 := PlanAt_SH s41 K_h_0
      have P_h37 := (congrFun (congrFun s41.2 52) 0).trans P_h
      try simp only [aI_wAL, fI_wAL, aL_wA, aL_wF, aI_wA_ne, aI_wF_ne, fI_wA_ne, fI_wF_ne, fI_wF_nk, aL_wAL_ne, J_sameA, J_sameF, aL_same, Nat.add_left_cancel_iff, Nat.add_eq_left, Nat.left_eq_add, not_false_eq_true, Nat.reduceEqDiff, Nat.reduceAdd, J_add, J_sub, J_mul, J_neg, J_and, J_or, J_xor, J_shl, J_shr, J_div, J_i2b, J_i2l, J_l2i, J_lcm, J_max, J_min, J_nab, J_nao, rdA, rdF, rdL, wA_fold, wF_fold, wL_fold, wC_fold]
      refine ⟨fun c39 => ?_, fun c39 => ?_⟩
      · have t40 : r38 = 0 := ((Jeq gr38 (by decide)).mp c39)
        replace w := w.1 t40
        exact w
      · have t40 : ¬ r38 = 0 := (fun e => c39 ((Jeq gr38 (by decide)).mpr e))
        replace w := w.2 t40
        exact w
theorem m138 {X : Cst} {d pl pl0 mk qu ln : Nat} {N w : Int} {S : Int → Int} {h : AH} {Q : Post} (C : Lay h) (P : hR h 52 0 = some pl) (K : PlanAt h pl) (h281 : 281 ≤ hn h) (hpl : pl + 10 < hn h) (hd : 8 ≤ d) (R : CS h pl S) (W : WF N S) (hN : N ≤ 999) (SR : SeaR h pl0 mk qu ln) (ap : apS pl mk qu) (gw : -2147483648 ≤ w ∧ w < 2147483648)
    (k0 : ¬ (0 < S 0 ∧ (0 ≤ w ∧ w ≤ 1)) → Q (some (.int (J (-1)))) h) (k : (0 < S 0 ∧ (0 ≤ w ∧ w ≤ 1)) → ∀ h' mk' qu' ln', PoR h h' pl mk qu ln S mk' qu' ln' → Q (some (.int (J (anCaught S w)))) h') : Ex X PG d 138 0 [some (.ref 0), some (.int (J w)), none, none, none, none, none] [] h Q := by
  obtain ⟨d, rfl⟩ : ∃ e, d = e + 1 := ⟨d - 1, by omega⟩
  have b := W.1
  unfold WFb at b
  have W9 : WF 999 S := W.up hN
  have hm5 : (S 2).toNat ≤ 5 := by omega
  have kn := nowF_K W
  refine r138_0 (S := S) C K P (by omega) ?_
  rw [R.2.1.1.2.2.1]
  refine ⟨R, fun c => k0 (fun z => c z.1), fun c => ⟨gw, fun c2 => k0 (fun z => absurd z.2.1 (by omega)), fun c2 => ⟨fun c3 => ⟨W9, ?_⟩, fun c3 => k0 (fun z => c3 z.2.2)⟩⟩⟩
  have hc : 0 < S 0 ∧ (0 ≤ w ∧ w ≤ 1) := ⟨c, by omega, c3⟩
  have bg := fun (Q' : Post) kk => m114 (X := X) (d := d) (pl := pl) (m := (S 2).toNat) (w := -1) (t := nightP S) (h := h) (Q := Q') C h281 SR ap hpl (by omega) hm5 (by decide) kk
  rw [show (((S 2).toNat : Nat) : Int) = S 2 by omega] at bg
  refine bg _ (fun h17 mk' qu' ln' X17 B17 fr17 room17 => ?_)
  obtain ⟨B, ap', mq, ee, hl, ⟨f1, f2, f3, f6, f7⟩, mz⟩ := B17
  have hR17 : hR h17 52 0 = some pl := by rw [X17.2.2.1 52 0 (by omega) (fun z => by unfold UBg at z; omega)]; exact P
  have C17 : Lay h17 := X17.C C h281 UBg_n
  have K17 : PlanAt h17 pl := K.gx X17 hpl (fun k z => by unfold UBg at z; have := R.1; omega)
  have apb := ap
  obtain ⟨a1, a2, a3, a4, a5⟩ := apb
  have R17 : CS h17 pl S := R.gx X17 hpl h281 (fun c k z => by unfold TBg at z; have := R.1; omega)
  refine ⟨rfl, ⟨C17, K17, hR17⟩, ?_⟩
  have eb8 := enc_b (b := 8) (by decide) _ _ (kn.up b.2.1).1
  have pw := pw_32k (b := 8) (by decide) (by decide) hm5
  refine m117 (S := S) C17 (WorldAt_64 C17) (by omega) R17.2.2.1 W rfl ⟨_, by omega, rfl, SH.rf, ?_⟩
  refine m118 (S := S) (T := 0) (st := fun _ => nowF S) (pa := fun _ => 0) (la := fun _ => (0, 0, 0)) C17 K17 B ap' (by omega) hm5 W hl (by decide) (LG_0 f6 mz _ _ _) kn (fun i i0 i1 => by omega) (fun h25 F25 L25 => ⟨rfl, F25.1, ?_⟩)
  have ap2 := ap'
  obtain ⟨c1', c2', c3', c4', c5'⟩ := ap2
  have Bs : Bass h25 pl S (nightP S) (S 2).toNat (-1) := by
    refine ⟨R17.2.1.fr F25 (fun c k z => (TSe_n ap' R.1 z).1), ?_, ?_, ?_⟩
    · rw [F25.f 247 1 (fun z => by unfold TSe at z; omega)]; exact f1
    · rw [F25.f 247 2 (fun z => by unfold TSe at z; omega)]; exact f2
    · rw [F25.f 247 3 (fun z => by unfold TSe at z; omega)]; exact f3
  have st0 : (fun x : Int => if x = 0 then nowF S else nowF S) 0 = nowF S := by dsimp only; rw [if_pos rfl]
  have I25 : SeaI h25 pl mk' qu' ln' (S 2).toNat S (nightP S) (-1) (fun x : Int => if x = 0 then nowF S else nowF S) (fun _ => 0) (fun _ => (0, 0, 0)) 1 1 0 := ⟨Bs, L25, ⟨by decide, fun i j i0 i1 j0 j1 _ => by omega, fun i i0 i1 => by omega, fun i j i0 ij j1 => by omega⟩, fun i i0 i1 => by omega, fun j j0 j1 => by omega⟩
  refine m139 (Lay_SH F25.1 C17) (PlanAt_SH F25.1 K17) (SeaAt_SH F25.1 B) ap' R.1 (by omega) hm5 W hl (fun z => absurd rfl z) I25 (fun h28 st pa la T F28 I28 ag => ⟨rfl, F28.1, ?_⟩)
  have F17 : Fr (TSe mk' qu') h17 h28 := F25.tr F28
  have nh : hn h28 = hn h17 := F17.1.hn
  have zh : hz h28 = hz h17 := F17.1.hz
  have C28 := F17.C C17
  have K28 := PlanAt_SH F17.1 K17
  have R28 : CS h28 pl S := R17.fr2 F17 (fun c k z => by unfold TSe at z; have := R.1; omega)
  have B28 := SeaAt_SH F17.1 B
  have pos : PoS h h28 pl mk qu ln S mk' qu' ln' (S 2).toNat := by
    refine ⟨?_, ⟨C28, K28, hR_fr F17 hR17⟩, R28, B28, ap', by omega, ee, hl, fr17, by omega⟩
    rcases fr17 with ⟨rfl, rfl⟩ | ⟨g1, g2⟩
    · exact (X17.mo (fun c k z => by unfold TBg at z; unfold TBx; omega) (fun c k z => z)).tr (Gx.of (F17.mo fun c k z => by unfold TSe at z; unfold TBx; omega))
    · refine ⟨by have := X17.1; omega, fun c hc => by rw [F17.1.hs]; exact X17.2.1 c hc, fun c k hc u => by rw [F17.1.2]; exact X17.2.2.1 c k hc u, fun c k hc z => ?_⟩
      have x1 := F17.2 c k (fun y => z (by unfold TSe at y; unfold TBx; omega))
      have x2 := X17.2.2.2 c k hc (fun y => z (by unfold TBg at y; unfold TBx; omega))
      exact ⟨by rw [x1.1, x2.1], by rw [x1.2, x2.2]⟩
  have kk := k hc h28 mk' qu' ln' ⟨⟨_, pos⟩, I28.rest W B28 ap' (by omega) ee hl⟩
  have s0 : st 0 = nowF S := by rw [ag 0 (by decide) (by decide)]; exact st0
  -- who is reached
  have rch : ∀ p : Nat, (p : Int) < S 2 → ((∃ j, (0 ≤ j ∧ j < T) ∧ cG S w p (st j)) ↔ ¬ cauP S w p) := by
    intro p hp
    unfold cauP
    constructor
    · rintro ⟨j, hj, gj⟩ z
      obtain ⟨ks, ky⟩ := KY_ex I28.2.2.1 (j + 1).toNat j hj.1 hj.2 (by omega)
      obtain ⟨a, r, ea, hr, rk⟩ := LW_RK (G := cG S w p) ks (st j) 0 (KY_LW I28.2.2.1 ks j hj.1 hj.2 ky) gj
      have r0 : r = 0 := by omega
      subst r0
      rw [s0] at rk
      exact z _ rk
    · intro z
      have : ∃ j, RK (Edg S (nightP S) (S 2).toNat (-1)) (cG S w p) j (nowF S) := by
        apply Classical.byContradiction
        intro y
        exact z (fun j r => y ⟨j, r⟩)
      obtain ⟨j, r⟩ := this
      obtain ⟨bs, e, l, ge, bl⟩ := RK_LW (R := 1) (st := st) j (nowF S) [0] r ⟨by decide, s0.symm⟩
      obtain ⟨i, hi, si⟩ := LW_all I28.2.2.1 I28.2.2.2.1 l
      exact ⟨i, hi, by rw [si]; exact ge⟩
  have lp : ∀ (z p : Nat) (l6 : Option Value), S 2 - p = z → Ex X PG (d + 1) 138 82 [some (.ref 0), some (.int (J w)), some (.ref 64), some (.int (J (S 2))), some (.int (J (bset p (fun k => ¬ cauP S w k) : Nat))), some (.int (J (p : Int))), l6] [] h28 Q := by
    intro z
    induction z with
    | zero =>
      intro p l6 e
      have ep : (S 2).toNat = p := by omega
      refine r138_82 C28 K28 (hR_fr F17 hR17) ⟨by omega, by omega, fun _ => ?_, fun y => absurd (by omega) y⟩
      unfold anCaught at kk
      rw [if_pos hc] at kk
      have bn := bset_not (cauP S w) p
      have p1 := Nat.two_pow_pos p
      rw [shl_1 (by omega), ep, show ((2 ^ p : Nat) : Int) - 1 - ((bset p (fun k => ¬ cauP S w k) : Nat) : Int) = ((bset p (cauP S w) : Nat) : Int) by omega]
      rw [ep] at kk
      exact kk
    | succ z ih =>
      intro p l6 e
      have bl := bset_lt (fun k => ¬ cauP S w k) p
      have bp : (2 : Nat) ^ p ≤ 2 ^ 4 := Nat.pow_le_pow_right (by decide) (by omega)
      have wr := R28.2.2.1.1 p (by omega) (by omega)
      have pr := W.2.1 p (by omega) (by omega)
      have nx : ∀ l6, Ex X PG (d + 1) 138 82 [some (.ref 0), some (.int (J w)), some (.ref 64), some (.int (J (S 2))), some (.int (J (bset (p + 1) (fun k => ¬ cauP S w k) : Nat))), some (.int (J ((p : Int) + 1))), l6] [] h28 Q := fun l6 => ih (p + 1) l6 (by omega)
      have go : ∀ (u : Prop) (l6 : Option Value), (u ↔ ∃ j, (0 ≤ j ∧ j < T) ∧ cG S w p (st j)) → ((bI u = 0 → Ex X PG (d + 1) 138 82 [some (.ref 0), some (.int (J w)), some (.ref 64), some (.int (J (S 2))), some (.int (J (bset p (fun k => ¬ cauP S w k) : Nat))), some (.int (J ((p : Int) + 1))), l6] [] h28 Q) ∧ (¬ bI u = 0 → Ex X PG (d + 1) 138 82 [some (.ref 0), some (.int (J w)), some (.ref 64), some (.int (J (S 2))), some (.int (J (ior (bset p (fun k => ¬ cauP S w k) : Nat) (shl 1 (iand p 31))))), some (.int (J ((p : Int) + 1))), l6] [] h28 Q)) := by
        intro u l6 eu
        have n := nx l6
        refine ⟨fun z => ?_, fun z => ?_⟩
        · have nu : ¬ u := fun y => by rw [bI_pos y] at z; omega
          rw [← bset_no (fun y => nu (eu.mpr ((rch p (by omega)).mpr y)))] at n
          exact n
        · have yu : u := by
            apply Classical.byContradiction
            intro y
            exact z (bI_neg y)
          rw [← bset_or ((rch p (by omega)).mp (eu.mp yu))] at n
          rw [shl_1 (by omega), show ((p : Int)).toNat = p by omega, ior_nat (by omega) (by omega)]
          exact n
      refine r138_82 C28 K28 (hR_fr F17 hR17) ⟨by omega, by omega, fun y => absurd y (by omega), fun _ => ⟨gw, fun c4 => ⟨by omega, ?_⟩, fun c4 => ⟨by omega, ?_⟩⟩⟩
      · rw [show aI h28 65 (p : Int) = pS S p 0 from wr.1, show J 0 = J (bI False) by rw [bI_neg id]]
        refine m140 (u := False) (r := pS S p 0) C28 K28 B28 ap' (by omega) hm5 W I28 (by omega) (by omega) ⟨_, bI_rg _, rfl, SH.rf, ?_⟩
        exact go _ _ ⟨fun ⟨j, hj, e⟩ => ⟨j, hj, Or.inr ⟨c4, fun z => e.mp z⟩⟩, fun ⟨j, hj, e⟩ => ⟨j, hj, by
          rcases e with e | e
          · exact absurd e.1 c4
          · exact ⟨fun z => e.2 z, fun z => z.elim⟩⟩⟩
      · rw [show aI h28 66 (p : Int) = pS S p 1 from wr.2.1, show J 1 = J (bI True) by rw [bI_pos trivial]]
        refine m140 (u := True) (r := pS S p 1) C28 K28 B28 ap' (by omega) hm5 W I28 (by omega) (by omega) ⟨_, bI_rg _, rfl, SH.rf, ?_⟩
        exact go _ _ ⟨fun ⟨j, hj, e⟩ => ⟨j, hj, Or.inl ⟨c4, e.mpr trivial⟩⟩, fun ⟨j, hj, e⟩ => ⟨j, hj, by
          rcases e with e | e
          · exact ⟨fun _ => trivial, fun _ => e.2⟩
          · exact absurd c4 e.1⟩⟩
  exact lp (S 2).toNat 0 none (by omega)
/-- the first of the least -/
theorem pgF_is {V : Int → Int} {r0 L : Int} {n : Nat} (hr : 0 ≤ r0 ∧ r0 < n) (e0 : V r0 = L) (hL : 0 ≤ L) (ge : ∀ r : Int, 0 ≤ r → r < n → V r < 0 ∨ L ≤ V r) (lt : ∀ r : Int, 0 ≤ r → r < r0 → ¬ V r = L) : pgF V n = (r0, L) := by
  have a : ∀ k : Nat, (k : Int) ≤ r0 → pgF V k = (-2, -2) ∨ (0 ≤ (pgF V k).1 ∧ L < (pgF V k).2) := by
    intro k
    induction k with
    | zero => intro _; exact Or.inl rfl
    | succ k ih =>
      intro hk
      have i := ih (by omega)
      have g := ge k (by omega) (by omega)
      have l := lt k (by omega) (by omega)
      unfold pgF
      by_cases c : V k < 0
      · rw [if_pos c]; exact i
      · rw [if_neg c]
        by_cases c2 : (pgF V k).1 < 0
        · rw [if_pos c2]; right; show 0 ≤ (k : Int) ∧ L < V k; omega
        · rw [if_neg c2]
          by_cases c3 : V k < (pgF V k).2
          · rw [if_pos c3]; right; show 0 ≤ (k : Int) ∧ L < V k; omega
          · rw [if_neg c3]; exact i
  have bq : ∀ j : Nat, r0 + 1 + j ≤ n → pgF V (r0 + 1 + j).toNat = (r0, L) := by
    intro j
    induction j with
    | zero =>
      intro _
      have i := a r0.toNat (by omega)
      rw [show (r0 + 1 + ((0 : Nat) : Int)).toNat = r0.toNat + 1 by omega]
      unfold pgF
      rw [show ((r0.toNat : Nat) : Int) = r0 by omega, e0, if_neg (by omega)]
      rcases i with i | i
      · rw [i, if_pos (by decide)]
      · rw [if_neg (by omega), if_pos (by omega)]
    | succ j ih =>
      intro hj
      have i := ih (by omega)
      have g := ge (r0 + 1 + j) (by omega) (by omega)
      rw [show (r0 + 1 + ((j + 1 : Nat) : Int)).toNat = (r0 + 1 + (j : Int)).toNat + 1 by omega]
      unfold pgF
      rw [show (((r0 + 1 + (j : Int)).toNat : Nat) : Int) = r0 + 1 + j by omega, i]
      dsimp only
      by_cases c : V (r0 + 1 + j) < 0
      · rw [if_pos c]
      · rw [if_neg c, if_neg (by omega), if_neg (by omega)]
  have := bq (n - r0 - 1).toNat (by omega)
  rw [show (r0 + 1 + (((n : Int) - r0 - 1).toNat : Int)).toNat = n by omega] at this
  exact this
theorem pgF_no {V : Int → Int} : ∀ n : Nat, (∀ r : Int, 0 ≤ r → r < n → V r < 0) → pgF V n = (-2, -2) := by
  intro n
  induction n with
  | zero => intro _; rfl
  | succ n ih =>
    intro h
    unfold pgF
    rw [if_pos (h n (by omega) (by omega))]
    exact ih (fun r r0 r1 => h r r0 (by omega))
theorem page_log {S : Int → Int} {t : Prop} {m : Nat} {st : Int → Int → Int} {pa : Int → Int} {la : Int → Int × Int × Int} {R T F : Int} {G : (Int → Int) → Prop} {V : Int → Int} (L : LogOK S t m (-1) st pa la R T) (hF : 0 ≤ F ∧ F < T) (P : LogPr S t m (-1) st pa la R T F) (gF : G (st F)) (nG : ∀ i, 0 ≤ i → i < F → ¬ G (st i)) {ks : List Int} (kF : KY pa la R ks F) (hV : ∀ r, 0 ≤ r → r < R → IsD (Edg S t m (-1)) G (st r) (V r)) :
    ∃ r0, (0 ≤ r0 ∧ r0 < R) ∧ upk pa (ks.length - 1) F = r0 ∧ pgF V R.toNat = (r0, (ks.length : Int) - 1) := by
  have kl := KY_len kF
  obtain ⟨a, r0, ea, hr, rk⟩ := LW_RK (G := G) ks (st F) 0 (KY_LW L ks F hF.1 hF.2 kF) gF
  have al : ks.length = a.length + 1 := by rw [ea, List.length_append]; rfl
  -- from any root
  have any : ∀ r, 0 ≤ r → r < R → ∀ j : Nat, RK (Edg S t m (-1)) G j (st r) → a.length ≤ j ∧ (j = a.length → r0 ≤ r) := by
    intro r h0 h1 j rj
    obtain ⟨bs, e, l, ge, bl⟩ := RK_LW (R := R) (st := st) j (st r) [r] rj ⟨⟨h0, h1⟩, rfl⟩
    have lf := LW_first L hF P nG kF l ge
    rw [List.length_append, bl] at lf
    refine ⟨by have := lf.1; simp at this; omega, fun ej => ?_⟩
    have l2 := lf.2 rfl (by simp; omega)
    rw [ea] at l2
    exact RLT_part a bs r0 r [] (by omega) l2
  refine ⟨r0, hr, ?_, ?_⟩
  · have kd := KY_drop L hF kF (ks.length - 1) (by omega)
    have : ks.drop (ks.length - 1) = [r0] := by rw [ea, List.length_append, show a.length + [r0].length - 1 = a.length by simp, List.drop_left]
    rw [this] at kd
    exact kd.2.2.symm
  · refine pgF_is (L := (ks.length : Int) - 1) ⟨hr.1, by omega⟩ ?_ (by omega) (fun r h0 h1 => ?_) (fun r h0 h1 z => ?_)
    · rcases hV r0 hr.1 hr.2 with ⟨_, z⟩ | ⟨z0, z1, z2⟩
      · exact absurd rk (z _)
      · have := z2 _ rk
        have := (any r0 hr.1 hr.2 _ z1).1
        omega
    · rcases hV r h0 (by omega) with ⟨z, _⟩ | ⟨z0, z1, _⟩
      · left; omega
      · right
        have := (any r h0 (by omega) _ z1).1
        omega
    · rcases hV r h0 (by omega) with ⟨y, _⟩ | ⟨z0, z1, _⟩
      · omega
      · have := (any r h0 (by omega) _ z1).2 (by omega)
        omega
