/-! A clause read by the class; the plan cleared. -/
-- OutwardDoors$CastleReader.readClause()V at 0
set_option maxRecDepth 20000 in
set_option maxHeartbeats 4000000 in
theorem r29_0 {X : Cst} {d : Nat} {pl : Nat} {h : AH} {Q : Post} (C_h : Lay h) (K_h_0 : PlanAt h pl) (P_h : hR h 3 1 = some pl)
  (w : Ex X PG d 30 0 [some (.ref 3)] [] h (fun v1 h2 => ∃ r3 : Int, (-2147483648 ≤ r3 ∧ r3 < 2147483648) ∧ v1 = some (.int (J r3)) ∧ SH h h2 ∧ ((0 ≤ r3 → Ex X PG d 33 0 [some (.ref 3), some (.int (J r3))] [] h2 (fun v6 h7 => ∃ r8 : Int, (-2147483648 ≤ r8 ∧ r8 < 2147483648) ∧ v6 = some (.int (J r8)) ∧ SH h2 h7 ∧ ((r8 = 0 → Ex X PG d 24 0 [some (.ref 1), none] [] (wF h7 3 2 ((fI h7 3 2) + 1)) (fun v12 h13 => v12 = none ∧ SH (wF h7 3 2 ((fI h7 3 2) + 1)) h13 ∧ ((¬ r3 = 0 → ((¬ r3 = 1 → ((¬ r3 = 4 → ((¬ r3 = 5 → ((¬ r3 = 3 → Ex X PG d 40 0 [some (.ref 3), some (.int (J 0)), none, none] [] h13 (fun v24 h25 => v24 = none ∧ SH h13 h25 ∧ Q none h25)) ∧ (r3 = 3 → Ex X PG d 40 0 [some (.ref 3), some (.int (J 1)), none, none] [] h13 (fun v27 h28 => v27 = none ∧ SH h13 h28 ∧ Q none h28)))) ∧ (r3 = 5 → Ex X PG d 38 0 [some (.ref 3), none, none, none] [] h13 (fun v30 h31 => v30 = none ∧ SH h13 h31 ∧ Q none h31)))) ∧ (r3 = 4 → Ex X PG d 37 0 [some (.ref 3), none, none] [] h13 (fun v33 h34 => v33 = none ∧ SH h13 h34 ∧ Q none h34)))) ∧ (r3 = 1 → Ex X PG d 36 0 [some (.ref 3), none, none] [] h13 (fun v36 h37 => v36 = none ∧ SH h13 h37 ∧ Q none h37)))) ∧ (r3 = 0 → Ex X PG d 35 0 [some (.ref 1), some (.int (J 2)), some (.int (J 8)), some (.int (J 0)), none] [] h13 (fun v41 h42 => ∃ r43 : Int, (-2147483648 ≤ r43 ∧ r43 < 2147483648) ∧ v41 = some (.int (J r43)) ∧ SH h13 h42 ∧ Q none (wF h42 pl 0 r43)))))) ∧ (¬ r8 = 0 → Ex X PG d 32 0 [some (.ref 1), some (.int (J 4))] [] h7 (fun v47 h48 => v47 = none ∧ SH h7 h48 ∧ Q none h48))))) ∧ (¬ 0 ≤ r3 → Ex X PG d 32 0 [some (.ref 1), some (.int (J 0))] [] h2 (fun v52 h53 => v52 = none ∧ SH h2 h53 ∧ Q none h53))))) :
    Ex X PG (d + 1) 29 0 [some (.ref 3), none] [] h Q := by
  refine wpx_ok (cut := []) 37 d 29 0 _ _ _ _ ?_
  show hs h 3 = (0, 0) ∧ Ex X PG d 30 0 [some (.ref 3)] [] h (fun v1 h2 => ∃ r3, v1 = some (.int r3) ∧ (((J 0) ≤ r3 → hs h2 3 = (0, 0) ∧ Ex X PG d 33 0 [some (.ref 3), some (.int r3)] [] h2 (fun v6 h7 => ∃ r8, v6 = some (.int r8) ∧ ((r8 = (J 0) → hs h7 3 = (0, 0) ∧ hs h7 3 = (0, 0) ∧ hs (wG h7 3 2 ((hF h7 3 2) + (J 1))) 3 = (0, 0) ∧ ∃ q11, hR (wG h7 3 2 ((hF h7 3 2) + (J 1))) 3 0 = some q11 ∧ hs (wG h7 3 2 ((hF h7 3 2) + (J 1))) q11 = (0, 8) ∧ Ex X PG d 24 0 [some (.ref q11), none] [] (wG h7 3 2 ((hF h7 3 2) + (J 1))) (fun v12 h13 => v12 = none ∧ ((¬ r3 = (J 0) → ((¬ r3 = (J 1) → ((¬ r3 = (J 4) → ((¬ r3 = (J 5) → ((¬ r3 = (J 3) → hs h13 3 = (0, 0) ∧ Ex X PG d 40 0 [some (.ref 3), some (.int (J 0)), none, none] [] h13 (fun v24 h25 => v24 = none ∧ Q none h25)) ∧ (¬ (¬ r3 = (J 3)) → hs h13 3 = (0, 0) ∧ Ex X PG d 40 0 [some (.ref 3), some (.int (J 1)), none, none] [] h13 (fun v27 h28 => v27 = none ∧ Q none h28)))) ∧ (¬ (¬ r3 = (J 5)) → hs h13 3 = (0, 0) ∧ Ex X PG d 38 0 [some (.ref 3), none, none, none] [] h13 (fun v30 h31 => v30 = none ∧ Q none h31)))) ∧ (¬ (¬ r3 = (J 4)) → hs h13 3 = (0, 0) ∧ Ex X PG d 37 0 [some (.ref 3), none, none] [] h13 (fun v33 h34 => v33 = none ∧ Q none h34)))) ∧ (¬ (¬ r3 = (J 1)) → hs h13 3 = (0, 0) ∧ Ex X PG d 36 0 [some (.ref 3), none, none] [] h13 (fun v36 h37 => v36 = none ∧ Q none h37)))) ∧ (¬ (¬ r3 = (J 0)) → hs h13 3 = (0, 0) ∧ ∃ q39, hR h13 3 1 = some q39 ∧ hs h13 3 = (0, 0) ∧ ∃ q40, hR h13 3 0 = some q40 ∧ hs h13 q40 = (0, 8) ∧ Ex X PG d 35 0 [some (.ref q40), some (.int (J 2)), some (.int (J 8)), some (.int (J 0)), none] [] h13 (fun v41 h42 => ∃ r43, v41 = some (.int r43) ∧ hs h42 q39 = (0, 2) ∧ Q none (wG h42 q39 0 r43)))))) ∧ (¬ (r8 = (J 0)) → hs h7 3 = (0, 0) ∧ ∃ q46, hR h7 3 0 = some q46 ∧ hs h7 q46 = (0, 8) ∧ Ex X PG d 32 0 [some (.ref q46), some (.int (J 4))] [] h7 (fun v47 h48 => v47 = none ∧ Q none h48))))) ∧ (¬ ((J 0) ≤ r3) → hs h2 3 = (0, 0) ∧ ∃ q51, hR h2 3 0 = some q51 ∧ hs h2 q51 = (0, 8) ∧ Ex X PG d 32 0 [some (.ref q51), some (.int (J 0))] [] h2 (fun v52 h53 => v52 = none ∧ Q none h53))))
  try simp only [aI_wAL, fI_wAL, aL_wA, aL_wF, aI_wA_ne, aI_wF_ne, fI_wA_ne, fI_wF_ne, fI_wF_nk, aL_wAL_ne, J_sameA, J_sameF, aL_same, Nat.add_left_cancel_iff, Nat.add_eq_left, Nat.left_eq_add, not_false_eq_true, Nat.reduceEqDiff, Nat.reduceAdd, J_add, J_sub, J_mul, J_neg, J_and, J_or, J_xor, J_shl, J_shr, J_div, J_i2b, J_i2l, J_l2i, J_lcm, J_max, J_min, J_nab, J_nao, rdA, rdF, rdL, wA_fold, wF_fold, wL_fold, wC_fold]
  refine ⟨(ls3 C_h), ?_⟩
  refine Ex.mono w (Nat.le_refl _) ?_
  rintro v1 h2 ⟨r3, gr3, rfl, s55, w⟩
  refine ⟨_, rfl, ?_⟩
  have C_h2 := Lay_SH s55 C_h
  have K_h2_0 := PlanAt_SH s55 K_h_0
  have P_h2 := (congrFun (congrFun s55.2 3) 1).trans P_h
  try simp only [aI_wAL, fI_wAL, aL_wA, aL_wF, aI_wA_ne, aI_wF_ne, fI_wA_ne, fI_wF_ne, fI_wF_nk, aL_wAL_ne, J_sameA, J_sameF, aL_same, Nat.add_left_cancel_iff, Nat.add_eq_left, Nat.left_eq_add, not_false_eq_true, Nat.reduceEqDiff, Nat.reduceAdd, J_add, J_sub, J_mul, J_neg, J_and, J_or, J_xor, J_shl, J_shr, J_div, J_i2b, J_i2l, J_l2i, J_lcm, J_max, J_min, J_nab, J_nao, rdA, rdF, rdL, wA_fold, wF_fold, wL_fold, wC_fold]
  refine ⟨fun c4 => ?_, fun c4 => ?_⟩
  · have t5 : 0 ≤ r3 := ((Jle (by decide) gr3).mp c4)
    replace w := w.1 t5
    refine ⟨(ls3 C_h2), ?_⟩
    refine Ex.mono w (Nat.le_refl _) ?_
    rintro v6 h7 ⟨r8, gr8, rfl, s50, w⟩
    refine ⟨_, rfl, ?_⟩
    have C_h7 := Lay_SH s50 C_h2
    have K_h7_0 := PlanAt_SH s50 K_h2_0
    have P_h7 := (congrFun (congrFun s50.2 3) 1).trans P_h2
    try simp only [aI_wAL, fI_wAL, aL_wA, aL_wF, aI_wA_ne, aI_wF_ne, fI_wA_ne, fI_wF_ne, fI_wF_nk, aL_wAL_ne, J_sameA, J_sameF, aL_same, Nat.add_left_cancel_iff, Nat.add_eq_left, Nat.left_eq_add, not_false_eq_true, Nat.reduceEqDiff, Nat.reduceAdd, J_add, J_sub, J_mul, J_neg, J_and, J_or, J_xor, J_shl, J_shr, J_div, J_i2b, J_i2l, J_l2i, J_lcm, J_max, J_min, J_nab, J_nao, rdA, rdF, rdL, wA_fold, wF_fold, wL_fold, wC_fold]
    refine ⟨fun c9 => ?_, fun c9 => ?_⟩
    · have t10 : r8 = 0 := ((Jeq gr8 (by decide)).mp c9)
      replace w := w.1 t10
      refine ⟨(ls3 C_h7), ?_⟩
      refine ⟨(ls3 C_h7), ?_⟩
      refine ⟨(ls3 C_h7), _, (lr3_0 C_h7), ?_⟩
      refine ⟨(ls1 C_h7), ?_⟩
      refine Ex.mono w (Nat.le_refl _) ?_
      rintro v12 h13 ⟨rfl, s45, w⟩
      refine ⟨rfl, ?_⟩
      have C_h13 := Lay_SH s45 C_h7
      have K_h13_0 := PlanAt_SH s45 K_h7_0
      have P_h13 := (congrFun (congrFun s45.2 3) 1).trans P_h7
      try simp only [aI_wAL, fI_wAL, aL_wA, aL_wF, aI_wA_ne, aI_wF_ne, fI_wA_ne, fI_wF_ne, fI_wF_nk, aL_wAL_ne, J_sameA, J_sameF, aL_same, Nat.add_left_cancel_iff, Nat.add_eq_left, Nat.left_eq_add, not_false_eq_true, Nat.reduceEqDiff, Nat.reduceAdd, J_add, J_sub, J_mul, J_neg, J_and, J_or, J_xor, J_shl, J_shr, J_div, J_i2b, J_i2l, J_l2i, J_lcm, J_max, J_min, J_nab, J_nao, rdA, rdF, rdL, wA_fold, wF_fold, wL_fold, wC_fold]
      refine ⟨fun c14 => ?_, fun c14 => ?_⟩
      · have t15 : ¬ r3 = 0 := (fun e => c14 ((Jeq gr3 (by decide)).mpr e))
        replace w := w.1 t15
        refine ⟨fun c16 => ?_, fun c16 => ?_⟩
        · have t17 : ¬ r3 = 1 := (fun e => c16 ((Jeq gr3 (by decide)).mpr e))
          replace w := w.1 t17
          refine ⟨fun c18 => ?_, fun c18 => ?_⟩
          · have t19 : ¬ r3 = 4 := (fun e => c18 ((Jeq gr3 (by decide)).mpr e))
            replace w := w.1 t19
            refine ⟨fun c20 => ?_, fun c20 => ?_⟩
            · have t21 : ¬ r3 = 5 := (fun e => c20 ((Jeq gr3 (by decide)).mpr e))
              replace w := w.1 t21
              refine ⟨fun c22 => ?_, fun c22 => ?_⟩
              · have t23 : ¬ r3 = 3 := (fun e => c22 ((Jeq gr3 (by decide)).mpr e))
                replace w := w.1 t23
                refine ⟨(ls3 C_h13), ?_⟩
                refine Ex.mono w (Nat.le_refl _) ?_
                rintro v24 h25 ⟨rfl, s26, w⟩
                refine ⟨rfl, ?_⟩
                have C_h25 := Lay_SH s26 C_h13
                have K_h25_0 := PlanAt_SH s26 K_h13_0
                have P_h25 := (congrFun (congrFun s26.2 3) 1).trans P_h13
                try simp only [aI_wAL, fI_wAL, aL_wA, aL_wF, aI_wA_ne, aI_wF_ne, fI_wA_ne, fI_wF_ne, fI_wF_nk, aL_wAL_ne, J_sameA, J_sameF, aL_same, Nat.add_left_cancel_iff, Nat.add_eq_left, Nat.left_eq_add, not_false_eq_true, Nat.reduceEqDiff, Nat.reduceAdd, J_add, J_sub, J_mul, J_neg, J_and, J_or, J_xor, J_shl, J_shr, J_div, J_i2b, J_i2l, J_l2i, J_lcm, J_max, J_min, J_nab, J_nao, rdA, rdF, rdL, wA_fold, wF_fold, wL_fold, wC_fold]
                exact w
              · have t23 : r3 = 3 := ((Jeq gr3 (by decide)).mp (Classical.byContradiction c22))
                replace w := w.2 t23
                refine ⟨(ls3 C_h13), ?_⟩
                refine Ex.mono w (Nat.le_refl _) ?_
                rintro v27 h28 ⟨rfl, s29, w⟩
                refine ⟨rfl, ?_⟩
                have C_h28 := Lay_SH s29 C_h13
                have K_h28_0 := PlanAt_SH s29 K_h13_0
                have P_h28 := (congrFun (congrFun s29.2 3) 1).trans P_h13
                try simp only [aI_wAL, fI_wAL, aL_wA, aL_wF, aI_wA_ne, aI_wF_ne, fI_wA_ne, fI_wF_ne, fI_wF_nk, aL_wAL_ne, J_sameA, J_sameF, aL_same, Nat.add_left_cancel_iff, Nat.add_eq_left, Nat.left_eq_add, not_false_eq_true, Nat.reduceEqDiff, Nat.reduceAdd, J_add, J_sub, J_mul, J_neg, J_and, J_or, J_xor, J_shl, J_shr, J_div, J_i2b, J_i2l, J_l2i, J_lcm, J_max, J_min, J_nab, J_nao, rdA, rdF, rdL, wA_fold, wF_fold, wL_fold, wC_fold]
                exact w
            · have t21 : r3 = 5 := ((Jeq gr3 (by decide)).mp (Classical.byContradiction c20))
              replace w := w.2 t21
              refine ⟨(ls3 C_h13), ?_⟩
              refine Ex.mono w (Nat.le_refl _) ?_
              rintro v30 h31 ⟨rfl, s32, w⟩
              refine ⟨rfl, ?_⟩
              have C_h31 := Lay_SH s32 C_h13
              have K_h31_0 := PlanAt_SH s32 K_h13_0
              have P_h31 := (congrFun (congrFun s32.2 3) 1).trans P_h13
              try simp only [aI_wAL, fI_wAL, aL_wA, aL_wF, aI_wA_ne, aI_wF_ne, fI_wA_ne, fI_wF_ne, fI_wF_nk, aL_wAL_ne, J_sameA, J_sameF, aL_same, Nat.add_left_cancel_iff, Nat.add_eq_left, Nat.left_eq_add, not_false_eq_true, Nat.reduceEqDiff, Nat.reduceAdd, J_add, J_sub, J_mul, J_neg, J_and, J_or, J_xor, J_shl, J_shr, J_div, J_i2b, J_i2l, J_l2i, J_lcm, J_max, J_min, J_nab, J_nao, rdA, rdF, rdL, wA_fold, wF_fold, wL_fold, wC_fold]
              exact w
          · have t19 : r3 = 4 := ((Jeq gr3 (by decide)).mp (Classical.byContradiction c18))
            replace w := w.2 t19
            refine ⟨(ls3 C_h13), ?_⟩
            refine Ex.mono w (Nat.le_refl _) ?_
            rintro v33 h34 ⟨rfl, s35, w⟩
            refine ⟨rfl, ?_⟩
            have C_h34 := Lay_SH s35 C_h13
            have K_h34_0 := PlanAt_SH s35 K_h13_0
            have P_h34 := (congrFun (congrFun s35.2 3) 1).trans P_h13
            try simp only [aI_wAL, fI_wAL, aL_wA, aL_wF, aI_wA_ne, aI_wF_ne, fI_wA_ne, fI_wF_ne, fI_wF_nk, aL_wAL_ne, J_sameA, J_sameF, aL_same, Nat.add_left_cancel_iff, Nat.add_eq_left, Nat.left_eq_add, not_false_eq_true, Nat.reduceEqDiff, Nat.reduceAdd, J_add, J_sub, J_mul, J_neg, J_and, J_or, J_xor, J_shl, J_shr, J_div, J_i2b, J_i2l, J_l2i, J_lcm, J_max, J_min, J_nab, J_nao, rdA, rdF, rdL, wA_fold, wF_fold, wL_fold, wC_fold]
            exact w
        · have t17 : r3 = 1 := ((Jeq gr3 (by decide)).mp (Classical.byContradiction c16))
          replace w := w.2 t17
          refine ⟨(ls3 C_h13), ?_⟩
          refine Ex.mono w (Nat.le_refl _) ?_
          rintro v36 h37 ⟨rfl, s38, w⟩
          refine ⟨rfl, ?_⟩
          have C_h37 := Lay_SH s38 C_h13
          have K_h37_0 := PlanAt_SH s38 K_h13_0
          have P_h37 := (congrFun (congrFun s38.2 3) 1).trans P_h13
          try simp only [aI_wAL, fI_wAL, aL_wA, aL_wF, aI_wA_ne, aI_wF_ne, fI_wA_ne, fI_wF_ne, fI_wF_nk, aL_wAL_ne, J_sameA, J_sameF, aL_same, Nat.add_left_cancel_iff, Nat.add_eq_left, Nat.left_eq_add, not_false_eq_true, Nat.reduceEqDiff, Nat.reduceAdd, J_add, J_sub, J_mul, J_neg, J_and, J_or, J_xor, J_shl, J_shr, J_div, J_i2b, J_i2l, J_l2i, J_lcm, J_max, J_min, J_nab, J_nao, rdA, rdF, rdL, wA_fold, wF_fold, wL_fold, wC_fold]
          exact w
      · have t15 : r3 = 0 := ((Jeq gr3 (by decide)).mp (Classical.byContradiction c14))
        replace w := w.2 t15
        refine ⟨(ls3 C_h13), _, P_h13, ?_⟩
        refine ⟨(ls3 C_h13), _, (lr3_0 C_h13), ?_⟩
        refine ⟨(ls1 C_h13), ?_⟩
        refine Ex.mono w (Nat.le_refl _) ?_
        rintro v41 h42 ⟨r43, gr43, rfl, s44, w⟩
        refine ⟨_, rfl, ?_⟩
        have C_h42 := Lay_SH s44 C_h13
        have K_h42_0 := PlanAt_SH s44 K_h13_0
        have P_h42 := (congrFun (congrFun s44.2 3) 1).trans P_h13
        try simp only [aI_wAL, fI_wAL, aL_wA, aL_wF, aI_wA_ne, aI_wF_ne, fI_wA_ne, fI_wF_ne, fI_wF_nk, aL_wAL_ne, J_sameA, J_sameF, aL_same, Nat.add_left_cancel_iff, Nat.add_eq_left, Nat.left_eq_add, not_false_eq_true, Nat.reduceEqDiff, Nat.reduceAdd, J_add, J_sub, J_mul, J_neg, J_and, J_or, J_xor, J_shl, J_shr, J_div, J_i2b, J_i2l, J_l2i, J_lcm, J_max, J_min, J_nab, J_nao, rdA, rdF, rdL, wA_fold, wF_fold, wL_fold, wC_fold]
        refine ⟨(plan_0 K_h42_0), ?_⟩
        exact w
    · have t10 : ¬ r8 = 0 := (fun e => c9 ((Jeq gr8 (by decide)).mpr e))
      replace w := w.2 t10
      refine ⟨(ls3 C_h7), _, (lr3_0 C_h7), ?_⟩
      refine ⟨(ls1 C_h7), ?_⟩
      refine Ex.mono w (Nat.le_refl _) ?_
      rintro v47 h48 ⟨rfl, s49, w⟩
      refine ⟨rfl, ?_⟩
      have C_h48 := Lay_SH s49 C_h7
      have K_h48_0 := PlanAt_SH s49 K_h7_0
      have P_h48 := (congrFun (congrFun s49.2 3) 1).trans P_h7
      try simp only [aI_wAL, fI_wAL, aL_wA, aL_wF, aI_wA_ne, aI_wF_ne, fI_wA_ne, fI_wF_ne, fI_wF_nk, aL_wAL_ne, J_sameA, J_sameF, aL_same, Nat.add_left_cancel_iff, Nat.add_eq_left, Nat.left_eq_add, not_false_eq_true, Nat.reduceEqDiff, Nat.reduceAdd, J_add, J_sub, J_mul, J_neg, J_and, J_or, J_xor, J_shl, J_shr, J_div, J_i2b, J_i2l, J_l2i, J_lcm, J_max, J_min, J_nab, J_nao, rdA, rdF, rdL, wA_fold, wF_fold, wL_fold, wC_fold]
      exact w
  · have t5 : ¬ 0 ≤ r3 := (fun e => c4 ((Jle (by decide) gr3).mpr e))
    replace w := w.2 t5
    refine ⟨(ls3 C_h2), _, (lr3_0 C_h2), ?_⟩
    refine ⟨(ls1 C_h2), ?_⟩
    refine Ex.mono w (Nat.le_refl _) ?_
    rintro v52 h53 ⟨rfl, s54, w⟩
    refine ⟨rfl, ?_⟩
    have C_h53 := Lay_SH s54 C_h2
    have K_h53_0 := PlanAt_SH s54 K_h2_0
    have P_h53 := (congrFun (congrFun s54.2 3) 1).trans P_h2
    try simp only [aI_wAL, fI_wAL, aL_wA, aL_wF, aI_wA_ne, aI_wF_ne, fI_wA_ne, fI_wF_ne, fI_wF_nk, aL_wAL_ne, J_sameA, J_sameF, aL_same, Nat.add_left_cancel_iff, Nat.add_eq_left, Nat.left_eq_add, not_false_eq_true, Nat.reduceEqDiff, Nat.reduceAdd, J_add, J_sub, J_mul, J_neg, J_and, J_or, J_xor, J_shl, J_shr, J_div, J_i2b, J_i2l, J_l2i, J_lcm, J_max, J_min, J_nab, J_nao, rdA, rdF, rdL, wA_fold, wF_fold, wL_fold, wC_fold]
    exact w
theorem m29 {X : Cst} {d pl : Nat} {L j n : Int} {tp R : Int → Int} {h : AH} {Q : Post} (C : Lay h) (K : PlanAt h pl) (P : hR h 3 1 = some pl) (hd : 5 ≤ d) (hX : X.2 = X2) (ha : 4 ≤ pl) (T : TkC h tp L j 0) (D : PlanRd h pl R) (I : CI n R) (en : fI h 3 2 = n) (k : CQc h pl tp L n (cCl tp L j n R) Q) : Ex X PG d 29 0 [some (.ref 3), none] [] h Q := by
  obtain ⟨d, rfl⟩ : ∃ e, d = e + 1 := ⟨d - 1, by omega⟩
  have I0 := I.1
  have I1 := I.2.1
  have tj := T.2.2.1
  have tL := T.2.1
  have e6 := T.2.2.2.2.2.2.2
  have e3 := T.2.2.2.1
  have fl : ∀ q : Int, (q = 0 ∨ q = 4) → CQc h pl tp L n (fltR (1 + 8 * j + q)) Q → Ex X PG d 32 0 [some (.ref 1), some (.int (J q))] [] h (fun v h' => v = none ∧ SH h h' ∧ Q none h') := by
    intro q hq kf
    refine m32 C (by omega) (fun z => absurd e6 z) (fun _ => ⟨rfl, SH.rf.wF, ?_⟩)
    rw [e3]
    exact kf.2 (by show ¬ 1 + 8 * j + q = 0; omega) _ j (Fr.rf.wF (by unfold TCc TTf; omega)) (T.fa (by omega))
  refine r29_0 C K P ?_
  refine m30 C K P (by omega) hX T ⟨_, ?_, rfl, SH.rf, fun c => ?_, fun c => ?_⟩
  · unfold kwN
    by_cases c0 : wc tp L j = wSc 0
    · rw [pI_pos c0]; omega
    rw [pI_neg c0]
    by_cases c1 : wc tp L j = wSc 1
    · rw [pI_pos c1]; omega
    rw [pI_neg c1]
    by_cases c2 : wc tp L j = wSc 2
    · rw [pI_pos c2]; omega
    rw [pI_neg c2]
    by_cases c3 : wc tp L j = wSc 3
    · rw [pI_pos c3]; omega
    rw [pI_neg c3]
    by_cases c4 : wc tp L j = wSc 4
    · rw [pI_pos c4]; omega
    rw [pI_neg c4]
    by_cases c5 : wc tp L j = wSc 5
    · rw [pI_pos c5]; omega
    · rw [pI_neg c5]; omega
  · -- a word that begins a clause
    have main : ∀ x : Int, kwN tp L j = x → 0 ≤ x ∧ x ≤ 5 → kwP tp L j → ((oopP R n x → cCl tp L j n R = fltR (1 + 8 * j + 4)) ∧ (¬ oopP R n x → cCl tp L j n R = pI (x = 0) (cCas tp L (nx tp L j) R) (pI (x = 1) (cFar tp L (nx tp L j) R) (pI (x = 4) (cNig tp L (nx tp L j) R) (pI (x = 5) (cPer tp L (nx tp L j) R) (pI (x = 3) (cDor tp L (nx tp L j) 1 R) (cDor tp L (nx tp L j) 0 R))))))) → Ex X PG d 33 0 [some (.ref 3), some (.int (J x))] [] h (fun v7 h7 => ∃ r8 : Int, (-2147483648 ≤ r8 ∧ r8 < 2147483648) ∧ v7 = some (.int (J r8)) ∧ SH h h7 ∧ ((r8 = 0 → Ex X PG d 24 0 [some (.ref 1), none] [] (wF h7 3 2 (fI h7 3 2 + 1)) (fun v12 h13 => v12 = none ∧ SH (wF h7 3 2 (fI h7 3 2 + 1)) h13 ∧ ((¬ x = 0 → ((¬ x = 1 → ((¬ x = 4 → ((¬ x = 5 → ((¬ x = 3 → Ex X PG d 40 0 [some (.ref 3), some (.int (J 0)), none, none] [] h13 (fun v24 h25 => v24 = none ∧ SH h13 h25 ∧ Q none h25)) ∧ (x = 3 → Ex X PG d 40 0 [some (.ref 3), some (.int (J 1)), none, none] [] h13 (fun v27 h28 => v27 = none ∧ SH h13 h28 ∧ Q none h28)))) ∧ (x = 5 → Ex X PG d 38 0 [some (.ref 3), none, none, none] [] h13 (fun v30 h31 => v30 = none ∧ SH h13 h31 ∧ Q none h31)))) ∧ (x = 4 → Ex X PG d 37 0 [some (.ref 3), none, none] [] h13 (fun v33 h34 => v33 = none ∧ SH h13 h34 ∧ Q none h34)))) ∧ (x = 1 → Ex X PG d 36 0 [some (.ref 3), none, none] [] h13 (fun v36 h37 => v36 = none ∧ SH h13 h37 ∧ Q none h37)))) ∧ (x = 0 → Ex X PG d 35 0 [some (.ref 1), some (.int (J 2)), some (.int (J 8)), some (.int (J 0)), none] [] h13 (fun v41 h42 => ∃ r43 : Int, (-2147483648 ≤ r43 ∧ r43 < 2147483648) ∧ v41 = some (.int (J r43)) ∧ SH h13 h42 ∧ Q none (wF h42 pl 0 r43)))))) ∧ (¬ r8 = 0 → Ex X PG d 32 0 [some (.ref 1), some (.int (J 4))] [] h7 (fun v47 h48 => v47 = none ∧ SH h7 h48 ∧ Q none h48)))) := by
      intro x ex hx kw ee
      refine m33 C K P (by omega) D I en hx (fun o => ⟨1, by omega, rfl, SH.rf, fun z => absurd z (by decide), fun _ => ?_⟩) (fun o => ⟨0, by omega, rfl, SH.rf, fun _ => ?_, fun z => absurd rfl z⟩)
      · rw [ee.1 o] at k
        exact fl 4 (Or.inr rfl) k
      rw [ee.2 o] at k
      rw [en]
      have Fw : Fr (TCc pl) h (wF h 3 2 (n + 1)) := Fr.rf.wF (by unfold TCc; omega)
      have T1 : TkC (wF h 3 2 (n + 1)) tp L j 0 := T.fr (T := fun c k => c = 3 ∧ k = 2) (Fr.rf.wF ⟨rfl, rfl⟩) (by omega) (by omega)
      have D1 : PlanRd (wF h 3 2 (n + 1)) pl R := D.fr (T := fun c k => c = 3 ∧ k = 2) (Fr.rf.wF ⟨rfl, rfl⟩) (by omega)
      refine m24n (Fw.C C) (by omega) T1 (fun h2 F2 T2 => ⟨rfl, F2.1, ?_⟩)
      have F2c : Fr (TCc pl) h h2 := Fw.tr (F2.mo (fun _ _ z => Or.inl (TTk_f z)))
      have D2 : PlanRd h2 pl R := D1.tk (F2.mo (fun _ _ => TTk_f)) ha
      have K2 := PlanAt_SH F2c.1 K
      have P2 : hR h2 3 1 = some pl := (congrFun (congrFun F2c.1.2 3) 1).trans P
      have C2 := F2c.C C
      have e2 : fI h2 3 2 = n + 1 := by rw [F2.f 3 2 (by unfold TTk; omega), fI_wF_eq (by omega)]
      have up : ∀ r : RS, CQc h pl tp L n r Q → CQ h2 pl tp L r (fun v h' => v = none ∧ SH h2 h' ∧ Q none h') := by
        intro r kr
        refine ⟨fun e h' F' T' D' => ⟨rfl, F'.1, kr.1 e h' (F2c.tr (F'.mo (fun _ _ => TCp_c))) T' D' ?_⟩, fun e h' j' F' T' => ⟨rfl, F'.1, kr.2 e h' j' (F2c.tr (F'.mo (fun _ _ => TCp_c))) T'⟩⟩
        rw [F'.f 3 2 (by unfold TCp TTf; omega)]; exact e2
      unfold oopP at o
      refine ⟨fun c0 => ⟨fun c1 => ⟨fun c4 => ⟨fun c5 => ⟨fun c3 => ?_, fun c3 => ?_⟩, fun c5 => ?_⟩, fun c4 => ?_⟩, fun c1 => ?_⟩, fun c0 => ?_⟩
      · rw [pI_neg c0, pI_neg c1, pI_neg c4, pI_neg c5, pI_neg c3] at k
        exact m40 C2 K2 P2 (by omega) ha (Or.inl rfl) T2 D2 I (by omega) (up _ k)
      · rw [pI_neg c0, pI_neg c1, pI_neg c4, pI_neg c5, pI_pos c3] at k
        exact m40 C2 K2 P2 (by omega) ha (Or.inr rfl) T2 D2 I (by omega) (up _ k)
      · rw [pI_neg c0, pI_neg c1, pI_neg c4, pI_pos c5] at k
        exact m38 C2 K2 P2 (by omega) ha T2 D2 I (by omega) (up _ k)
      · rw [pI_neg c0, pI_neg c1, pI_pos c4] at k
        exact m37 C2 K2 P2 (by omega) ha T2 D2 I (up _ k)
      · rw [pI_neg c0, pI_pos c1] at k
        exact m36 C2 K2 P2 (by omega) ha T2 D2 I (up _ k)
      · rw [pI_pos c0] at k
        have t2 := T2.2.2.1
        unfold cCas at k
        refine m35n C2 (by omega) T2 (by omega) (by omega) (fun z => absurd rfl z) (fun _ e h3 F3 T3 => ⟨2, by omega, rfl, F3.1, ?_⟩) (fun _ e h3 F3 T3 => ⟨_, ?_, rfl, F3.1, ?_⟩)
        · rw [nmc_neg e] at k
          have Fx := F2c.tr (F3.mo (U := TCc pl) (fun _ _ z => Or.inl z))
          refine k.2 e _ _ (Fx.wF (by unfold TCc; omega)) (T3.fr (T := TPl pl) (Fr.rf.wF (by unfold TPl; omega)) (fun k => by unfold TPl; omega) (fun k => by unfold TPl; omega))
        · have v := nmF_0 t2.1 e
          omega
        · have v := nmF_0 t2.1 e
          rw [nmc_pos e] at k
          have Fx := F2c.tr (F3.mo (U := TCc pl) (fun _ _ z => Or.inl z))
          refine k.1 rfl _ (Fx.wF (by unfold TCc; omega)) (T3.fr (T := TPl pl) (Fr.rf.wF (by unfold TPl; omega)) (fun k => by unfold TPl; omega) (fun k => by unfold TPl; omega)) ((D2.tk F3 ha).cas I (by omega)) ?_
          rw [fI_wF_ne (by omega), F3.f 3 2 (by unfold TTf; omega)]; exact e2
    have n0 : n = 0 → ¬ 0 < R 0 := fun z => by omega
    have e : cCl tp L j n R = cCl tp L j n R := rfl
    unfold cCl cLin at main
    unfold kwN at c ⊢
    by_cases c0 : wc tp L j = wSc 0
    · have kp : kwP tp L j := Or.inl c0
      rw [pI_pos c0]
      refine main 0 (by unfold kwN; exact pI_pos c0) (by omega) kp ⟨fun o => ?_, fun o => ?_⟩
      · rw [pI_pos kp]
        by_cases c2 : n = 40
        · rw [pI_pos c2]
        · unfold oopP at o
          rw [pI_neg c2, pI_pos c0, pI_pos (by omega)]
      · unfold oopP at o
        rw [pI_pos kp, pI_neg (by omega), pI_pos c0, pI_neg (by omega), pI_pos rfl]
    rw [pI_neg c0] at c ⊢
    by_cases c1 : wc tp L j = wSc 1
    · have kp : kwP tp L j := Or.inr (Or.inl c1)
      rw [pI_pos c1]
      refine main 1 (by unfold kwN; rw [pI_neg c0]; exact pI_pos c1) (by omega) kp ⟨fun o => ?_, fun o => ?_⟩
      · rw [pI_pos kp]
        unfold oopP at o
        by_cases c2 : n = 40
        · rw [pI_pos c2]
        · rw [pI_neg c2, pI_neg c0, pI_pos (by omega)]
      · unfold oopP at o
        rw [pI_pos kp, pI_neg (by omega), pI_neg c0, pI_neg (by omega), pI_pos c1, pI_neg (by omega), pI_pos rfl]
    rw [pI_neg c1] at c ⊢
    by_cases c2 : wc tp L j = wSc 2
    · have kp : kwP tp L j := Or.inr (Or.inr (Or.inl c2))
      rw [pI_pos c2]
      refine main 2 (by unfold kwN; rw [pI_neg c0, pI_neg c1]; exact pI_pos c2) (by omega) kp ⟨fun o => ?_, fun o => ?_⟩
      · rw [pI_pos kp]
        unfold oopP at o
        by_cases c40 : n = 40
        · rw [pI_pos c40]
        · rw [pI_neg c40, pI_neg c0]
          by_cases cz : R 0 = 0
          · rw [pI_pos cz]
          · rw [pI_neg cz, pI_neg c1, pI_pos c2, pI_pos (by omega)]
      · unfold oopP at o
        rw [pI_pos kp, pI_neg (by omega), pI_neg c0, pI_neg (by omega), pI_neg c1, pI_pos c2, pI_neg (by omega), pI_neg (by omega), pI_neg (by omega), pI_neg (by omega), pI_neg (by omega), pI_neg (by omega)]
    rw [pI_neg c2] at c ⊢
    by_cases c3 : wc tp L j = wSc 3
    · have kp : kwP tp L j := Or.inr (Or.inr (Or.inr (Or.inl c3)))
      rw [pI_pos c3]
      refine main 3 (by unfold kwN; rw [pI_neg c0, pI_neg c1, pI_neg c2]; exact pI_pos c3) (by omega) kp ⟨fun o => ?_, fun o => ?_⟩
      · rw [pI_pos kp]
        unfold oopP at o
        by_cases c40 : n = 40
        · rw [pI_pos c40]
        · rw [pI_neg c40, pI_neg c0]
          by_cases cz : R 0 = 0
          · rw [pI_pos cz]
          · rw [pI_neg cz, pI_neg c1, pI_neg c2, pI_pos c3, pI_pos (by omega)]
      · unfold oopP at o
        rw [pI_pos kp, pI_neg (by omega), pI_neg c0, pI_neg (by omega), pI_neg c1, pI_neg c2, pI_pos c3, pI_neg (by omega), pI_neg (by omega), pI_neg (by omega), pI_neg (by omega), pI_neg (by omega), pI_pos rfl]
    rw [pI_neg c3] at c ⊢
    by_cases c4 : wc tp L j = wSc 4
    · have kp : kwP tp L j := Or.inr (Or.inr (Or.inr (Or.inr (Or.inl c4))))
      rw [pI_pos c4]
      refine main 4 (by unfold kwN; rw [pI_neg c0, pI_neg c1, pI_neg c2, pI_neg c3]; exact pI_pos c4) (by omega) kp ⟨fun o => ?_, fun o => ?_⟩
      · rw [pI_pos kp]
        unfold oopP at o
        by_cases c40 : n = 40
        · rw [pI_pos c40]
        · rw [pI_neg c40, pI_neg c0]
          by_cases cz : R 0 = 0
          · rw [pI_pos cz]
          · rw [pI_neg cz, pI_neg c1, pI_neg c2, pI_neg c3, pI_pos c4, pI_pos (by omega)]
      · unfold oopP at o
        rw [pI_pos kp, pI_neg (by omega), pI_neg c0, pI_neg (by omega), pI_neg c1, pI_neg c2, pI_neg c3, pI_pos c4, pI_neg (by omega), pI_neg (by omega), pI_neg (by omega), pI_pos rfl]
    rw [pI_neg c4] at c ⊢
    by_cases c5 : wc tp L j = wSc 5
    · have kp : kwP tp L j := Or.inr (Or.inr (Or.inr (Or.inr (Or.inr c5))))
      rw [pI_pos c5]
      refine main 5 (by unfold kwN; rw [pI_neg c0, pI_neg c1, pI_neg c2, pI_neg c3, pI_neg c4]; exact pI_pos c5) (by omega) kp ⟨fun o => ?_, fun o => ?_⟩
      · rw [pI_pos kp]
        unfold oopP at o
        by_cases c40 : n = 40
        · rw [pI_pos c40]
        · rw [pI_neg c40, pI_neg c0]
          by_cases cz : R 0 = 0
          · rw [pI_pos cz]
          · rw [pI_neg cz, pI_neg c1, pI_neg c2, pI_neg c3, pI_neg c4, pI_pos (by omega)]
      · unfold oopP at o
        rw [pI_pos kp, pI_neg (by omega), pI_neg c0, pI_neg (by omega), pI_neg c1, pI_neg c2, pI_neg c3, pI_neg c4, pI_neg (by omega), pI_neg (by omega), pI_neg (by omega), pI_neg (by omega), pI_pos rfl]
    rw [pI_neg c5] at c
    omega
  · have nk : ¬ kwP tp L j := by
      intro q
      unfold kwN at c
      unfold kwP at q
      by_cases c0 : wc tp L j = wSc 0
      · rw [pI_pos c0] at c; omega
      rw [pI_neg c0] at c
      by_cases c1 : wc tp L j = wSc 1
      · rw [pI_pos c1] at c; omega
      rw [pI_neg c1] at c
      by_cases c2 : wc tp L j = wSc 2
      · rw [pI_pos c2] at c; omega
      rw [pI_neg c2] at c
      by_cases c3 : wc tp L j = wSc 3
      · rw [pI_pos c3] at c; omega
      rw [pI_neg c3] at c
      by_cases c4 : wc tp L j = wSc 4
      · rw [pI_pos c4] at c; omega
      rw [pI_neg c4] at c
      by_cases c5 : wc tp L j = wSc 5
      · rw [pI_pos c5] at c; omega
      omega
    unfold cCl at k
    rw [pI_neg nk, show 1 + 8 * j = 1 + 8 * j + 0 by omega] at k
    exact fl 0 (Or.inl rfl) k
-- OutwardDoors$Plan.clear()V at 0
set_option maxRecDepth 20000 in
set_option maxHeartbeats 4000000 in
theorem r22_0 {X : Cst} {d : Nat} {a : Nat} {h : AH} {Q : Post} (C_h : Lay h) (K_h_0 : PlanAt h a) (hd : 1 ≤ d)
  (w : (∀ h3, SH (wF (wF (wF (wF (wF (wF h a 0 0) a 1 0) a 2 0) a 3 0) a 4 (-1)) a 5 (-1)) h3 → (Fr (fun c2 _ => c2 = (a + 7)) (wF (wF (wF (wF (wF (wF h a 0 0) a 1 0) a 2 0) a 3 0) a 4 (-1)) a 5 (-1)) h3 ∧ ∀ k : Int, 0 ≤ k → k < 64 → aI h3 (a + 7) k = (-1)) → Ex X PG (d + 1) 22 40 [some (.ref a), some (.int (J 0))] [] h3 Q)) :
    Ex X PG (d + 1) 22 0 [some (.ref a), none] [] h Q := by
  refine wpx_ok (cut := [40]) 24 d 22 0 _ _ _ _ ?_
  show hs h a = (0, 2) ∧ hs (wG h a 0 (J 0)) a = (0, 2) ∧ hs (wG (wG h a 0 (J 0)) a 1 (J 0)) a = (0, 2) ∧ hs (wG (wG (wG h a 0 (J 0)) a 1 (J 0)) a 2 (J 0)) a = (0, 2) ∧ hs (wG (wG (wG (wG h a 0 (J 0)) a 1 (J 0)) a 2 (J 0)) a 3 (J 0)) a = (0, 2) ∧ hs (wG (wG (wG (wG (wG h a 0 (J 0)) a 1 (J 0)) a 2 (J 0)) a 3 (J 0)) a 4 (J (-1))) a = (0, 2) ∧ hs (wG (wG (wG (wG (wG (wG h a 0 (J 0)) a 1 (J 0)) a 2 (J 0)) a 3 (J 0)) a 4 (J (-1))) a 5 (J (-1))) a = (0, 2) ∧ ∃ q1, hR (wG (wG (wG (wG (wG (wG h a 0 (J 0)) a 1 (J 0)) a 2 (J 0)) a 3 (J 0)) a 4 (J (-1))) a 5 (J (-1))) a 12 = some q1 ∧ Ex X PG d 4 0 [some (.ref q1), some (.int (J (-1))), none, none] [] (wG (wG (wG (wG (wG (wG h a 0 (J 0)) a 1 (J 0)) a 2 (J 0)) a 3 (J 0)) a 4 (J (-1))) a 5 (J (-1))) (fun v2 h3 => v2 = none ∧ Ex X PG (d + 1) 22 40 [some (.ref a), some (.int (J 0))] [] h3 Q)
  try simp only [aI_wAL, fI_wAL, aL_wA, aL_wF, aI_wA_ne, aI_wF_ne, fI_wA_ne, fI_wF_ne, fI_wF_nk, aL_wAL_ne, J_sameA, J_sameF, aL_same, Nat.add_left_cancel_iff, Nat.add_eq_left, Nat.left_eq_add, not_false_eq_true, Nat.reduceEqDiff, Nat.reduceAdd, J_add, J_sub, J_mul, J_neg, J_and, J_or, J_xor, J_shl, J_shr, J_div, J_i2b, J_i2l, J_l2i, J_lcm, J_max, J_min, J_nab, J_nao, rdA, rdF, rdL, wA_fold, wF_fold, wL_fold, wC_fold]
  refine ⟨(plan_0 K_h_0), ?_⟩
  refine ⟨(plan_0 K_h_0), ?_⟩
  refine ⟨(plan_0 K_h_0), ?_⟩
  refine ⟨(plan_0 K_h_0), ?_⟩
  refine ⟨(plan_0 K_h_0), ?_⟩
  refine ⟨(plan_0 K_h_0), ?_⟩
  refine ⟨(plan_0 K_h_0), _, (plan_17 K_h_0), ?_⟩
  refine m4 (h := wF (wF (wF (wF (wF (wF h a 0 0) a 1 0) a 2 0) a 3 0) a 4 (-1)) a 5 (-1)) (c := (a + 7)) (v := (-1)) C_h (n := 64) (plan_7 K_h_0) (by decide) (by omega) (by decide) ?_
  intro h3 s4 p5
  try simp only [aI_wAL, fI_wAL, aL_wA, aL_wF, aI_wA_ne, aI_wF_ne, fI_wA_ne, fI_wF_ne, fI_wF_nk, aL_wAL_ne, Nat.add_left_cancel_iff, Nat.add_eq_left, Nat.left_eq_add, not_false_eq_true, Nat.reduceEqDiff] at p5
  replace w := w h3 s4 p5
  refine ⟨rfl, ?_⟩
  have C_h3 := Lay_SH s4 C_h
  have K_h3_0 := PlanAt_SH s4 K_h_0
  try simp only [aI_wAL, fI_wAL, aL_wA, aL_wF, aI_wA_ne, aI_wF_ne, fI_wA_ne, fI_wF_ne, fI_wF_nk, aL_wAL_ne, J_sameA, J_sameF, aL_same, Nat.add_left_cancel_iff, Nat.add_eq_left, Nat.left_eq_add, not_false_eq_true, Nat.reduceEqDiff, Nat.reduceAdd, J_add, J_sub, J_mul, J_neg, J_and, J_or, J_xor, J_shl, J_shr, J_div, J_i2b, J_i2l, J_l2i, J_lcm, J_max, J_min, J_nab, J_nao, rdA, rdF, rdL, wA_fold, wF_fold, wL_fold, wC_fold]
  exact w
-- OutwardDoors$Plan.clear()V at 40
set_option maxRecDepth 20000 in
set_option maxHeartbeats 4000000 in
theorem r22_40 {X : Cst} {d : Nat} {a : Nat} {x1 : Int} {h : AH} {Q : Post} (C_h : Lay h) (K_h_0 : PlanAt h a)
  (w : (-2147483648 ≤ x1 ∧ x1 < 2147483648) ∧ ((8 ≤ x1 → Q none h) ∧ (¬ 8 ≤ x1 → (0 ≤ x1 ∧ x1 < 8) ∧ Ex X PG (d + 1) 22 40 [some (.ref a), some (.int (J (x1 + 1)))] [] (wA h (a + 1) x1 x1) Q))) :
    Ex X PG (d + 1) 22 40 [some (.ref a), some (.int (J x1))] [] h Q := by
  refine wpx_ok (cut := [40]) 10 d 22 40 _ _ _ _ ?_
  show (((J 8) ≤ (J x1) → Q none h) ∧ (¬ ((J 8) ≤ (J x1)) → hs h a = (0, 2) ∧ ∃ q4, hR h a 6 = some q4 ∧ (hs h q4).1 = 1 ∧ ix (J x1) (hs h q4).2 ∧ Ex X PG (d + 1) 22 40 [some (.ref a), some (.int ((J x1) + (J 1)))] [] (wI h q4 (Int32.toNatClampNeg (J x1)) (J x1)) Q))
  try simp only [aI_wAL, fI_wAL, aL_wA, aL_wF, aI_wA_ne, aI_wF_ne, fI_wA_ne, fI_wF_ne, fI_wF_nk, aL_wAL_ne, J_sameA, J_sameF, aL_same, Nat.add_left_cancel_iff, Nat.add_eq_left, Nat.left_eq_add, not_false_eq_true, Nat.reduceEqDiff, Nat.reduceAdd, J_add, J_sub, J_mul, J_neg, J_and, J_or, J_xor, J_shl, J_shr, J_div, J_i2b, J_i2l, J_l2i, J_lcm, J_max, J_min, J_nab, J_nao, rdA, rdF, rdL, wA_fold, wF_fold, wL_fold, wC_fold]
  obtain ⟨k3, w⟩ := w
  refine ⟨fun c1 => ?_, fun c1 => ?_⟩
  · have t2 : 8 ≤ x1 := ((Jle (by decide) k3).mp c1)
    replace w := w.1 t2
    exact w
  · have t2 : ¬ 8 ≤ x1 := (fun e => c1 ((Jle (by decide) k3).mpr e))
    replace w := w.2 t2
    refine ⟨(plan_0 K_h_0), _, (plan_11 K_h_0), ?_⟩
    obtain ⟨k5, w⟩ := w
    refine ⟨congrArg Prod.fst (plan_1 K_h_0), ixs (plan_1 K_h_0) k5 (by decide), ?_⟩
    exact w
theorem m22 {X : Cst} {d a : Nat} {U : Int → Int} {h : AH} {Q : Post} (C : Lay h) (K : PlanAt h a) (hd : 2 ≤ d) (k : ∀ h', Fr (TPl a) h h' → PlanRd h' a (crR U) → Q none h') : Ex X PG d 22 0 [some (.ref a), none] [] h Q := by
  obtain ⟨d, rfl⟩ : ∃ e, d = e + 1 := ⟨d - 1, by omega⟩
  have F0 : Fr (TPl a) h (wF (wF (wF (wF (wF (wF h a 0 0) a 1 0) a 2 0) a 3 0) a 4 (-1)) a 5 (-1)) := (((((Fr.rf.wF (by unfold TPl; omega)).wF (by unfold TPl; omega)).wF (by unfold TPl; omega)).wF (by unfold TPl; omega)).wF (by unfold TPl; omega)).wF (by unfold TPl; omega)
  refine r22_0 C K (by omega) (fun h3 s3 p3 => ?_)
  have F3 : Fr (TPl a) h h3 := F0.tr (p3.1.mo (fun c k z => by unfold TPl; omega))
  have f0 : fI h3 a 0 = 0 ∧ fI h3 a 1 = 0 ∧ fI h3 a 2 = 0 ∧ fI h3 a 3 = 0 ∧ fI h3 a 4 = -1 ∧ fI h3 a 5 = -1 := by
    rw [p3.1.f a 0 (by omega), p3.1.f a 1 (by omega), p3.1.f a 2 (by omega), p3.1.f a 3 (by omega), p3.1.f a 4 (by omega), p3.1.f a 5 (by omega)]
    refine ⟨?_, ?_, ?_, ?_, ?_, ?_⟩
    · rw [fI_wF_nk (by decide), fI_wF_nk (by decide), fI_wF_nk (by decide), fI_wF_nk (by decide), fI_wF_nk (by decide), fI_wF_eq (by omega)]
    · rw [fI_wF_nk (by decide), fI_wF_nk (by decide), fI_wF_nk (by decide), fI_wF_nk (by decide), fI_wF_eq (by omega)]
    · rw [fI_wF_nk (by decide), fI_wF_nk (by decide), fI_wF_nk (by decide), fI_wF_eq (by omega)]
    · rw [fI_wF_nk (by decide), fI_wF_nk (by decide), fI_wF_eq (by omega)]
    · rw [fI_wF_nk (by decide), fI_wF_eq (by omega)]
    · rw [fI_wF_eq (by omega)]
  have lp : ∀ (z : Nat) (n : Int) (h' : AH), 8 - n = z → 0 ≤ n → n ≤ 8 → Fr (fun c _ => c = a + 1) h3 h' → (∀ r, 0 ≤ r → r < n → aI h' (a + 1) r = r) → Ex X PG (d + 1) 22 40 [some (.ref a), some (.int (J n))] [] h' Q := by
    intro z
    induction z with
    | zero =>
      intro n h' ez n0 n1 F f
      refine r22_40 (F.C (F3.C C)) (PlanAt_SH (F3.tr (F.mo (U := TPl a) (fun c k z => by unfold TPl; omega))).1 K) ⟨by omega, fun _ => ?_, fun c => absurd (by omega) c⟩
      refine k h' (F3.tr (F.mo (fun c k z => by unfold TPl; omega))) ?_
      obtain ⟨ca, cb⟩ := crR_v U
      have e0 := ca 0 (by omega) (by omega)
      have e1 := ca 1 (by omega) (by omega)
      have e2 := ca 2 (by omega) (by omega)
      have e4 := ca 4 (by omega) (by omega)
      have e5 := ca 5 (by omega) (by omega)
      rw [if_neg (by omega)] at e0 e1 e2
      rw [if_pos (by omega)] at e4 e5
      have ff : ∀ k, fI h' a k = fI h3 a k := fun k => F.f a k (by omega)
      unfold PlanRd BtW
      rw [e0, e1, e2, e4, e5, ff, ff, ff, ff, ff, ff, f0.1, f0.2.1, f0.2.2.1, f0.2.2.2.1, f0.2.2.2.2.1, f0.2.2.2.2.2]
      refine ⟨⟨rfl, rfl, rfl, rfl, rfl⟩, ⟨by omega, by omega, fun e q0 q1 => ⟨fun z => ?_, fun z => by omega⟩⟩, fun r r0 r1 => ?_, fun e q0 q1 => by omega, fun p p0 p1 => by omega, fun x y x0 x1 y0 y1 => Or.inl ⟨?_, fun e q0 q1 => by omega⟩⟩
      · unfold bt at z
        rw [show ((0 : Int).toNat) = 0 from rfl, Nat.zero_testBit] at z
        exact absurd z (by decide)
      · rw [cb r r0 r1]; exact f r r0 (by omega)
      · rw [F.a (a + 7) (by omega)]; exact p3.2 _ (by omega) (by omega)
    | succ z ih =>
      intro n h' ez n0 n1 F f
      refine r22_40 (F.C (F3.C C)) (PlanAt_SH (F3.tr (F.mo (U := TPl a) (fun c k z => by unfold TPl; omega))).1 K) ⟨by omega, fun c => absurd c (by omega), fun _ => ⟨by omega, ?_⟩⟩
      refine ih (n + 1) _ (by omega) (by omega) (by omega) (F.wA rfl) (fun r r0 r1 => ?_)
      rw [aI_wA (by omega)]
      by_cases c : r = n
      · rw [c, uu_eq]
      · rw [uu_ne (by omega) (by omega) (by omega)]; exact f r r0 (by omega)
  exact lp 8 0 h3 (by omega) (by omega) (by omega) Fr.rf (fun r r0 r1 => by omega)
