/-! The reference's doors, lines and clauses. -/
-- OutwardDoorsModel.isDoorHere(II)Z at 0
set_option maxRecDepth 20000 in
set_option maxHeartbeats 4000000 in
theorem r188_0 {X : Cst} {d : Nat} {x1 : Int} {x2 : Int} {h : AH} {Q : Post} (C_h : Lay h)
  (w : ((¬ aI h 262 1 = 14 → Ex X PG d 182 0 [some (.ref 256)] [] h (fun v4 h5 => v4 = none ∧ SH h h5 ∧ Ex X PG d 183 0 [some (.ref 256), some (.int (J (42 + (3 * (aI h5 262 1))))), some (.int (J 0)), some (.int (J ((aI h5 262 0) - 1)))] [] h5 (fun v8 h9 => ∃ r10 : Int, (-2147483648 ≤ r10 ∧ r10 < 2147483648) ∧ v8 = some (.int (J r10)) ∧ SH h5 h9 ∧ ((¬ r10 = 0 → Ex X PG d 175 0 [some (.ref 256)] [] h9 (fun v13 h14 => ∃ r15 : Int, (-2147483648 ≤ r15 ∧ r15 < 2147483648) ∧ v13 = some (.int (J r15)) ∧ SH h9 h14 ∧ Ex X PG d 183 0 [some (.ref 256), some (.int (J ((42 + (3 * (aI h5 262 1))) + 1))), some (.int (J 0)), some (.int (J ((aI h14 262 0) - 1)))] [] h14 (fun v17 h18 => ∃ r19 : Int, (-2147483648 ≤ r19 ∧ r19 < 2147483648) ∧ v17 = some (.int (J r19)) ∧ SH h14 h18 ∧ ((¬ r19 = 0 → (0 ≤ 42 + (3 * (aI h5 262 1)) ∧ 42 + (3 * (aI h5 262 1)) < 84) ∧ (0 ≤ (42 + (3 * (aI h5 262 1))) + 1 ∧ (42 + (3 * (aI h5 262 1))) + 1 < 84) ∧ ((aI h18 262 (42 + (3 * (aI h5 262 1))) = aI h18 262 ((42 + (3 * (aI h5 262 1))) + 1) → Ex X PG (d + 1) 188 112 [some (.ref 256), some (.int (J x1)), some (.int (J x2)), some (.int (J (42 + (3 * (aI h5 262 1))))), some (.int (J (fI h14 256 8))), some (.int (J 0)), some (.int (J 0)), none, none] [] h18 Q) ∧ (¬ aI h18 262 (42 + (3 * (aI h5 262 1))) = aI h18 262 ((42 + (3 * (aI h5 262 1))) + 1) → Ex X PG (d + 1) 188 112 [some (.ref 256), some (.int (J x1)), some (.int (J x2)), some (.int (J (42 + (3 * (aI h5 262 1))))), some (.int (J (fI h14 256 8))), some (.int (J 1)), some (.int (J 0)), none, none] [] h18 Q))) ∧ (r19 = 0 → Q (some (.int (J 0))) h18))))) ∧ (r10 = 0 → Q (some (.int (J 0))) h9))))) ∧ (aI h 262 1 = 14 → Ex X PG d 179 0 [some (.ref 256), some (.int (J 4)), some (.int (J x1))] [] h (fun v32 h33 => ∃ r34 : Int, (-2147483648 ≤ r34 ∧ r34 < 2147483648) ∧ v32 = some (.int (J r34)) ∧ SH h h33 ∧ (r34 = 0 ∨ r34 = 1) ∧ Q (some (.int (J r34))) h33)))) :
    Ex X PG (d + 1) 188 0 [some (.ref 256), some (.int (J x1)), some (.int (J x2)), none, none, none, none, none, none] [] h Q := by
  refine wpx_ok (cut := [112]) 63 d 188 0 _ _ _ _ ?_
  show hs h 256 = (0, 11) ∧ ∃ q1, hR h 256 7 = some q1 ∧ (hs h q1).1 = 1 ∧ ix (J 1) (hs h q1).2 ∧ ((¬ (hI h q1 (Int32.toNatClampNeg (J 1))) = (J 14) → hs h 256 = (0, 11) ∧ Ex X PG d 182 0 [some (.ref 256)] [] h (fun v4 h5 => v4 = none ∧ hs h5 256 = (0, 11) ∧ ∃ q6, hR h5 256 7 = some q6 ∧ (hs h5 q6).1 = 1 ∧ ix (J 1) (hs h5 q6).2 ∧ hs h5 256 = (0, 11) ∧ ∃ q7, hR h5 256 7 = some q7 ∧ (hs h5 q7).1 = 1 ∧ ix (J 0) (hs h5 q7).2 ∧ hs h5 256 = (0, 11) ∧ Ex X PG d 183 0 [some (.ref 256), some (.int ((J 42) + ((J 3) * (hI h5 q6 (Int32.toNatClampNeg (J 1)))))), some (.int (J 0)), some (.int ((hI h5 q7 (Int32.toNatClampNeg (J 0))) - (J 1)))] [] h5 (fun v8 h9 => ∃ r10, v8 = some (.int r10) ∧ ((¬ r10 = (J 0) → hs h9 256 = (0, 11) ∧ Ex X PG d 175 0 [some (.ref 256)] [] h9 (fun v13 h14 => ∃ r15, v13 = some (.int r15) ∧ hs h14 256 = (0, 11) ∧ hs h14 256 = (0, 11) ∧ ∃ q16, hR h14 256 7 = some q16 ∧ (hs h14 q16).1 = 1 ∧ ix (J 0) (hs h14 q16).2 ∧ hs h14 256 = (0, 11) ∧ Ex X PG d 183 0 [some (.ref 256), some (.int (((J 42) + ((J 3) * (hI h5 q6 (Int32.toNatClampNeg (J 1))))) + (J 1))), some (.int (J 0)), some (.int ((hI h14 q16 (Int32.toNatClampNeg (J 0))) - (J 1)))] [] h14 (fun v17 h18 => ∃ r19, v17 = some (.int r19) ∧ ((¬ r19 = (J 0) → hs h18 256 = (0, 11) ∧ ∃ q22, hR h18 256 7 = some q22 ∧ (hs h18 q22).1 = 1 ∧ ix ((J 42) + ((J 3) * (hI h5 q6 (Int32.toNatClampNeg (J 1))))) (hs h18 q22).2 ∧ hs h18 256 = (0, 11) ∧ ∃ q24, hR h18 256 7 = some q24 ∧ (hs h18 q24).1 = 1 ∧ ix (((J 42) + ((J 3) * (hI h5 q6 (Int32.toNatClampNeg (J 1))))) + (J 1)) (hs h18 q24).2 ∧ (((hI h18 q22 (Int32.toNatClampNeg ((J 42) + ((J 3) * (hI h5 q6 (Int32.toNatClampNeg (J 1))))))) = (hI h18 q24 (Int32.toNatClampNeg (((J 42) + ((J 3) * (hI h5 q6 (Int32.toNatClampNeg (J 1))))) + (J 1)))) → Ex X PG (d + 1) 188 112 [some (.ref 256), some (.int (J x1)), some (.int (J x2)), some (.int ((J 42) + ((J 3) * (hI h5 q6 (Int32.toNatClampNeg (J 1)))))), some (.int (hF h14 256 8)), some (.int (J 0)), some (.int (J 0)), none, none] [] h18 Q) ∧ (¬ ((hI h18 q22 (Int32.toNatClampNeg ((J 42) + ((J 3) * (hI h5 q6 (Int32.toNatClampNeg (J 1))))))) = (hI h18 q24 (Int32.toNatClampNeg (((J 42) + ((J 3) * (hI h5 q6 (Int32.toNatClampNeg (J 1))))) + (J 1))))) → Ex X PG (d + 1) 188 112 [some (.ref 256), some (.int (J x1)), some (.int (J x2)), some (.int ((J 42) + ((J 3) * (hI h5 q6 (Int32.toNatClampNeg (J 1)))))), some (.int (hF h14 256 8)), some (.int (J 1)), some (.int (J 0)), none, none] [] h18 Q))) ∧ (¬ (¬ r19 = (J 0)) → (J 0 = J 0 ∨ J 0 = J 1) ∧ Q (some (.int (J 0))) h18))))) ∧ (¬ (¬ r10 = (J 0)) → (J 0 = J 0 ∨ J 0 = J 1) ∧ Q (some (.int (J 0))) h9))))) ∧ (¬ (¬ (hI h q1 (Int32.toNatClampNeg (J 1))) = (J 14)) → hs h 256 = (0, 11) ∧ Ex X PG d 179 0 [some (.ref 256), some (.int (J 4)), some (.int (J x1))] [] h (fun v32 h33 => ∃ r34, v32 = some (.int r34) ∧ (r34 = J 0 ∨ r34 = J 1) ∧ Q (some (.int r34)) h33)))
  try simp only [aI_wAL, fI_wAL, aL_wA, aL_wF, aI_wA_ne, aI_wF_ne, fI_wA_ne, fI_wF_ne, fI_wF_nk, aL_wAL_ne, J_sameA, J_sameF, aL_same, Nat.add_left_cancel_iff, Nat.add_eq_left, Nat.left_eq_add, not_false_eq_true, Nat.reduceEqDiff, Nat.reduceAdd, J_add, J_sub, J_mul, J_neg, J_and, J_or, J_xor, J_shl, J_shr, J_div, J_i2b, J_i2l, J_l2i, J_lcm, J_max, J_min, J_nab, J_nao, rdA, rdF, rdL, wA_fold, wF_fold, wL_fold, wC_fold]
  refine ⟨(ls256 C_h), _, (lr256_7 C_h), ?_⟩
  refine ⟨congrArg Prod.fst (ls262 C_h), ixs (ls262 C_h) (by decide) (by decide), ?_⟩
  refine ⟨fun c2 => ?_, fun c2 => ?_⟩
  · have t3 : ¬ aI h 262 1 = 14 := (fun e => c2 ((Jeq (rg_toInt _) (by decide)).mpr e))
    replace w := w.1 t3
    refine ⟨(ls256 C_h), ?_⟩
    refine Ex.mono w (Nat.le_refl _) ?_
    rintro v4 h5 ⟨rfl, s31, w⟩
    refine ⟨rfl, ?_⟩
    have C_h5 := Lay_SH s31 C_h
    try simp only [aI_wAL, fI_wAL, aL_wA, aL_wF, aI_wA_ne, aI_wF_ne, fI_wA_ne, fI_wF_ne, fI_wF_nk, aL_wAL_ne, J_sameA, J_sameF, aL_same, Nat.add_left_cancel_iff, Nat.add_eq_left, Nat.left_eq_add, not_false_eq_true, Nat.reduceEqDiff, Nat.reduceAdd, J_add, J_sub, J_mul, J_neg, J_and, J_or, J_xor, J_shl, J_shr, J_div, J_i2b, J_i2l, J_l2i, J_lcm, J_max, J_min, J_nab, J_nao, rdA, rdF, rdL, wA_fold, wF_fold, wL_fold, wC_fold]
    refine ⟨(ls256 C_h5), _, (lr256_7 C_h5), ?_⟩
    refine ⟨congrArg Prod.fst (ls262 C_h5), ixs (ls262 C_h5) (by decide) (by decide), ?_⟩
    refine ⟨(ls256 C_h5), _, (lr256_7 C_h5), ?_⟩
    refine ⟨congrArg Prod.fst (ls262 C_h5), ixs (ls262 C_h5) (by decide) (by decide), ?_⟩
    refine ⟨(ls256 C_h5), ?_⟩
    refine Ex.mono w (Nat.le_refl _) ?_
    rintro v8 h9 ⟨r10, gr10, rfl, s30, w⟩
    refine ⟨_, rfl, ?_⟩
    have C_h9 := Lay_SH s30 C_h5
    try simp only [aI_wAL, fI_wAL, aL_wA, aL_wF, aI_wA_ne, aI_wF_ne, fI_wA_ne, fI_wF_ne, fI_wF_nk, aL_wAL_ne, J_sameA, J_sameF, aL_same, Nat.add_left_cancel_iff, Nat.add_eq_left, Nat.left_eq_add, not_false_eq_true, Nat.reduceEqDiff, Nat.reduceAdd, J_add, J_sub, J_mul, J_neg, J_and, J_or, J_xor, J_shl, J_shr, J_div, J_i2b, J_i2l, J_l2i, J_lcm, J_max, J_min, J_nab, J_nao, rdA, rdF, rdL, wA_fold, wF_fold, wL_fold, wC_fold]
    refine ⟨fun c11 => ?_, fun c11 => ?_⟩
    · have t12 : ¬ r10 = 0 := (fun e => c11 ((Jeq gr10 (by decide)).mpr e))
      replace w := w.1 t12
      refine ⟨(ls256 C_h9), ?_⟩
      refine Ex.mono w (Nat.le_refl _) ?_
      rintro v13 h14 ⟨r15, gr15, rfl, s29, w⟩
      refine ⟨_, rfl, ?_⟩
      have C_h14 := Lay_SH s29 C_h9
      try simp only [aI_wAL, fI_wAL, aL_wA, aL_wF, aI_wA_ne, aI_wF_ne, fI_wA_ne, fI_wF_ne, fI_wF_nk, aL_wAL_ne, J_sameA, J_sameF, aL_same, Nat.add_left_cancel_iff, Nat.add_eq_left, Nat.left_eq_add, not_false_eq_true, Nat.reduceEqDiff, Nat.reduceAdd, J_add, J_sub, J_mul, J_neg, J_and, J_or, J_xor, J_shl, J_shr, J_div, J_i2b, J_i2l, J_l2i, J_lcm, J_max, J_min, J_nab, J_nao, rdA, rdF, rdL, wA_fold, wF_fold, wL_fold, wC_fold]
      refine ⟨(ls256 C_h14), ?_⟩
      refine ⟨(ls256 C_h14), _, (lr256_7 C_h14), ?_⟩
      refine ⟨congrArg Prod.fst (ls262 C_h14), ixs (ls262 C_h14) (by decide) (by decide), ?_⟩
      refine ⟨(ls256 C_h14), ?_⟩
      refine Ex.mono w (Nat.le_refl _) ?_
      rintro v17 h18 ⟨r19, gr19, rfl, s28, w⟩
      refine ⟨_, rfl, ?_⟩
      have C_h18 := Lay_SH s28 C_h14
      try simp only [aI_wAL, fI_wAL, aL_wA, aL_wF, aI_wA_ne, aI_wF_ne, fI_wA_ne, fI_wF_ne, fI_wF_nk, aL_wAL_ne, J_sameA, J_sameF, aL_same, Nat.add_left_cancel_iff, Nat.add_eq_left, Nat.left_eq_add, not_false_eq_true, Nat.reduceEqDiff, Nat.reduceAdd, J_add, J_sub, J_mul, J_neg, J_and, J_or, J_xor, J_shl, J_shr, J_div, J_i2b, J_i2l, J_l2i, J_lcm, J_max, J_min, J_nab, J_nao, rdA, rdF, rdL, wA_fold, wF_fold, wL_fold, wC_fold]
      refine ⟨fun c20 => ?_, fun c20 => ?_⟩
      · have t21 : ¬ r19 = 0 := (fun e => c20 ((Jeq gr19 (by decide)).mpr e))
        replace w := w.1 t21
        refine ⟨(ls256 C_h18), _, (lr256_7 C_h18), ?_⟩
        obtain ⟨k23, w⟩ := w
        refine ⟨congrArg Prod.fst (ls262 C_h18), ixs (ls262 C_h18) k23 (by decide), ?_⟩
        refine ⟨(ls256 C_h18), _, (lr256_7 C_h18), ?_⟩
        obtain ⟨k25, w⟩ := w
        refine ⟨congrArg Prod.fst (ls262 C_h18), ixs (ls262 C_h18) k25 (by decide), ?_⟩
        refine ⟨fun c26 => ?_, fun c26 => ?_⟩
        · have t27 : aI h18 262 (42 + (3 * (aI h5 262 1))) = aI h18 262 ((42 + (3 * (aI h5 262 1))) + 1) := ((Jeq (rg_toInt _) (rg_toInt _)).mp c26)
          replace w := w.1 t27
          exact w
        · have t27 : ¬ aI h18 262 (42 + (3 * (aI h5 262 1))) = aI h18 262 ((42 + (3 * (aI h5 262 1))) + 1) := (fun e => c26 ((Jeq (rg_toInt _) (rg_toInt _)).mpr e))
          replace w := w.2 t27
          exact w
      · have t21 : r19 = 0 := ((Jeq gr19 (by decide)).mp (Classical.byContradiction c20))
        replace w := w.2 t21
        exact ⟨(Or.inl (by trivial)), w⟩
    · have t12 : r10 = 0 := ((Jeq gr10 (by decide)).mp (Classical.byContradiction c11))
      replace w := w.2 t12
      exact ⟨(Or.inl (by trivial)), w⟩
  · have t3 : aI h 262 1 = 14 := ((Jeq (rg_toInt _) (by decide)).mp (Classical.byContradiction c2))
    replace w := w.2 t3
    refine ⟨(ls256 C_h), ?_⟩
    refine Ex.mono w (Nat.le_refl _) ?_
    rintro v32 h33 ⟨r34, gr34, rfl, s36, w⟩
    refine ⟨_, rfl, ?_⟩
    have C_h33 := Lay_SH s36 C_h
    try simp only [aI_wAL, fI_wAL, aL_wA, aL_wF, aI_wA_ne, aI_wF_ne, fI_wA_ne, fI_wF_ne, fI_wF_nk, aL_wAL_ne, J_sameA, J_sameF, aL_same, Nat.add_left_cancel_iff, Nat.add_eq_left, Nat.left_eq_add, not_false_eq_true, Nat.reduceEqDiff, Nat.reduceAdd, J_add, J_sub, J_mul, J_neg, J_and, J_or, J_xor, J_shl, J_shr, J_div, J_i2b, J_i2l, J_l2i, J_lcm, J_max, J_min, J_nab, J_nao, rdA, rdF, rdL, wA_fold, wF_fold, wL_fold, wC_fold]
    obtain ⟨k35, w⟩ := w
    exact ⟨(k35.imp (congrArg J) (congrArg J)), w⟩
-- OutwardDoorsModel.isDoorHere(II)Z at 112
set_option maxRecDepth 20000 in
set_option maxHeartbeats 4000000 in
theorem r188_112 {X : Cst} {d : Nat} {x1 : Int} {x2 : Int} {x3 : Int} {x4 : Int} {x5 : Int} {x6 : Int} {l7 : Option Value} {l8 : Option Value} {h : AH} {Q : Post} (C_h : Lay h)
  (w : (-2147483648 ≤ x6 ∧ x6 < 2147483648) ∧ ((aI h 262 1 ≤ x6 → (-2147483648 ≤ x5 ∧ x5 < 2147483648) ∧ ((¬ x5 = 0 → (0 ≤ x3 + 2 ∧ x3 + 2 < 84) ∧ Q (some (.int (J 1))) (wA (wA h 262 (x3 + 2) x2) 262 1 ((aI (wA h 262 (x3 + 2) x2) 262 1) + 1))) ∧ (x5 = 0 → Ex X PG d 179 0 [some (.ref 256), some (.int (J 1)), some (.int (J x4))] [] h (fun v11 h12 => ∃ r13 : Int, (-2147483648 ≤ r13 ∧ r13 < 2147483648) ∧ v11 = some (.int (J r13)) ∧ SH h h12 ∧ (r13 = 0 ∨ r13 = 1) ∧ Q (some (.int (J r13))) h12)))) ∧ (¬ aI h 262 1 ≤ x6 → (0 ≤ 42 + (3 * x6) ∧ 42 + (3 * x6) < 84) ∧ (0 ≤ x3 ∧ x3 < 84) ∧ ((¬ aI h 262 (42 + (3 * x6)) = aI h 262 x3 → (0 ≤ x3 + 1 ∧ x3 + 1 < 84) ∧ ((¬ aI h 262 (42 + (3 * x6)) = aI h 262 (x3 + 1) → (-2147483648 ≤ x5 ∧ x5 < 2147483648) ∧ ((x5 = 0 → Ex X PG (d + 1) 188 112 [some (.ref 256), some (.int (J x1)), some (.int (J x2)), some (.int (J x3)), some (.int (J x4)), some (.int (J 0)), some (.int (J (x6 + 1))), some (.int (J (42 + (3 * x6)))), some (.int (J 0))] [] h Q) ∧ (¬ x5 = 0 → Ex X PG (d + 1) 188 112 [some (.ref 256), some (.int (J x1)), some (.int (J x2)), some (.int (J x3)), some (.int (J x4)), some (.int (J 1)), some (.int (J (x6 + 1))), some (.int (J (42 + (3 * x6)))), some (.int (J 0))] [] h Q))) ∧ (aI h 262 (42 + (3 * x6)) = aI h 262 (x3 + 1) → (0 ≤ (42 + (3 * x6)) + 1 ∧ (42 + (3 * x6)) + 1 < 84) ∧ ((¬ aI h 262 ((42 + (3 * x6)) + 1) = aI h 262 x3 → (-2147483648 ≤ x5 ∧ x5 < 2147483648) ∧ ((x5 = 0 → Ex X PG (d + 1) 188 112 [some (.ref 256), some (.int (J x1)), some (.int (J x2)), some (.int (J x3)), some (.int (J x4)), some (.int (J 0)), some (.int (J (x6 + 1))), some (.int (J (42 + (3 * x6)))), some (.int (J 0))] [] h Q) ∧ (¬ x5 = 0 → Ex X PG (d + 1) 188 112 [some (.ref 256), some (.int (J x1)), some (.int (J x2)), some (.int (J x3)), some (.int (J x4)), some (.int (J 1)), some (.int (J (x6 + 1))), some (.int (J (42 + (3 * x6)))), some (.int (J 0))] [] h Q))) ∧ (aI h 262 ((42 + (3 * x6)) + 1) = aI h 262 x3 → (-2147483648 ≤ x5 ∧ x5 < 2147483648) ∧ ((x5 = 0 → Ex X PG (d + 1) 188 112 [some (.ref 256), some (.int (J x1)), some (.int (J x2)), some (.int (J x3)), some (.int (J x4)), some (.int (J 0)), some (.int (J (x6 + 1))), some (.int (J (42 + (3 * x6)))), some (.int (J 1))] [] h Q) ∧ (¬ x5 = 0 → Ex X PG (d + 1) 188 112 [some (.ref 256), some (.int (J x1)), some (.int (J x2)), some (.int (J x3)), some (.int (J x4)), some (.int (J 0)), some (.int (J (x6 + 1))), some (.int (J (42 + (3 * x6)))), some (.int (J 1))] [] h Q))))))) ∧ (aI h 262 (42 + (3 * x6)) = aI h 262 x3 → (0 ≤ (42 + (3 * x6)) + 1 ∧ (42 + (3 * x6)) + 1 < 84) ∧ (0 ≤ x3 + 1 ∧ x3 + 1 < 84) ∧ ((aI h 262 ((42 + (3 * x6)) + 1) = aI h 262 (x3 + 1) → (-2147483648 ≤ x5 ∧ x5 < 2147483648) ∧ ((x5 = 0 → Ex X PG (d + 1) 188 112 [some (.ref 256), some (.int (J x1)), some (.int (J x2)), some (.int (J x3)), some (.int (J x4)), some (.int (J 0)), some (.int (J (x6 + 1))), some (.int (J (42 + (3 * x6)))), some (.int (J 1))] [] h Q) ∧ (¬ x5 = 0 → Ex X PG (d + 1) 188 112 [some (.ref 256), some (.int (J x1)), some (.int (J x2)), some (.int (J x3)), some (.int (J x4)), some (.int (J 0)), some (.int (J (x6 + 1))), some (.int (J (42 + (3 * x6)))), some (.int (J 1))] [] h Q))) ∧ (¬ aI h 262 ((42 + (3 * x6)) + 1) = aI h 262 (x3 + 1) → ((¬ aI h 262 (42 + (3 * x6)) = aI h 262 (x3 + 1) → (-2147483648 ≤ x5 ∧ x5 < 2147483648) ∧ ((x5 = 0 → Ex X PG (d + 1) 188 112 [some (.ref 256), some (.int (J x1)), some (.int (J x2)), some (.int (J x3)), some (.int (J x4)), some (.int (J 0)), some (.int (J (x6 + 1))), some (.int (J (42 + (3 * x6)))), some (.int (J 0))] [] h Q) ∧ (¬ x5 = 0 → Ex X PG (d + 1) 188 112 [some (.ref 256), some (.int (J x1)), some (.int (J x2)), some (.int (J x3)), some (.int (J x4)), some (.int (J 1)), some (.int (J (x6 + 1))), some (.int (J (42 + (3 * x6)))), some (.int (J 0))] [] h Q))) ∧ (aI h 262 (42 + (3 * x6)) = aI h 262 (x3 + 1) → ((¬ aI h 262 ((42 + (3 * x6)) + 1) = aI h 262 x3 → (-2147483648 ≤ x5 ∧ x5 < 2147483648) ∧ ((x5 = 0 → Ex X PG (d + 1) 188 112 [some (.ref 256), some (.int (J x1)), some (.int (J x2)), some (.int (J x3)), some (.int (J x4)), some (.int (J 0)), some (.int (J (x6 + 1))), some (.int (J (42 + (3 * x6)))), some (.int (J 0))] [] h Q) ∧ (¬ x5 = 0 → Ex X PG (d + 1) 188 112 [some (.ref 256), some (.int (J x1)), some (.int (J x2)), some (.int (J x3)), some (.int (J x4)), some (.int (J 1)), some (.int (J (x6 + 1))), some (.int (J (42 + (3 * x6)))), some (.int (J 0))] [] h Q))) ∧ (aI h 262 ((42 + (3 * x6)) + 1) = aI h 262 x3 → (-2147483648 ≤ x5 ∧ x5 < 2147483648) ∧ ((x5 = 0 → Ex X PG (d + 1) 188 112 [some (.ref 256), some (.int (J x1)), some (.int (J x2)), some (.int (J x3)), some (.int (J x4)), some (.int (J 0)), some (.int (J (x6 + 1))), some (.int (J (42 + (3 * x6)))), some (.int (J 1))] [] h Q) ∧ (¬ x5 = 0 → Ex X PG (d + 1) 188 112 [some (.ref 256), some (.int (J x1)), some (.int (J x2)), some (.int (J x3)), some (.int (J x4)), some (.int (J 0)), some (.int (J (x6 + 1))), some (.int (J (42 + (3 * x6)))), some (.int (J 1))] [] h Q))))))))))))) :
    Ex X PG (d + 1) 188 112 [some (.ref 256), some (.int (J x1)), some (.int (J x2)), some (.int (J x3)), some (.int (J x4)), some (.int (J x5)), some (.int (J x6)), l7, l8] [] h Q := by
  refine wpx_ok (cut := [112]) 68 d 188 112 _ _ _ _ ?_
  show hs h 256 = (0, 11) ∧ ∃ q1, hR h 256 7 = some q1 ∧ (hs h q1).1 = 1 ∧ ix (J 1) (hs h q1).2 ∧ (((hI h q1 (Int32.toNatClampNeg (J 1))) ≤ (J x6) → ((¬ (J x5) = (J 0) → hs h 256 = (0, 11) ∧ ∃ q8, hR h 256 7 = some q8 ∧ (hs h q8).1 = 1 ∧ ix ((J x3) + (J 2)) (hs h q8).2 ∧ hs (wI h q8 (Int32.toNatClampNeg ((J x3) + (J 2))) (J x2)) 256 = (0, 11) ∧ ∃ q10, hR (wI h q8 (Int32.toNatClampNeg ((J x3) + (J 2))) (J x2)) 256 7 = some q10 ∧ (hs (wI h q8 (Int32.toNatClampNeg ((J x3) + (J 2))) (J x2)) q10).1 = 1 ∧ ix (J 1) (hs (wI h q8 (Int32.toNatClampNeg ((J x3) + (J 2))) (J x2)) q10).2 ∧ (hs (wI h q8 (Int32.toNatClampNeg ((J x3) + (J 2))) (J x2)) q10).1 = 1 ∧ ix (J 1) (hs (wI h q8 (Int32.toNatClampNeg ((J x3) + (J 2))) (J x2)) q10).2 ∧ (J 1 = J 0 ∨ J 1 = J 1) ∧ Q (some (.int (J 1))) (wI (wI h q8 (Int32.toNatClampNeg ((J x3) + (J 2))) (J x2)) q10 (Int32.toNatClampNeg (J 1)) ((hI (wI h q8 (Int32.toNatClampNeg ((J x3) + (J 2))) (J x2)) q10 (Int32.toNatClampNeg (J 1))) + (J 1)))) ∧ (¬ (¬ (J x5) = (J 0)) → hs h 256 = (0, 11) ∧ Ex X PG d 179 0 [some (.ref 256), some (.int (J 1)), some (.int (J x4))] [] h (fun v11 h12 => ∃ r13, v11 = some (.int r13) ∧ (r13 = J 0 ∨ r13 = J 1) ∧ Q (some (.int r13)) h12)))) ∧ (¬ ((hI h q1 (Int32.toNatClampNeg (J 1))) ≤ (J x6)) → hs h 256 = (0, 11) ∧ ∃ q16, hR h 256 7 = some q16 ∧ (hs h q16).1 = 1 ∧ ix ((J 42) + ((J 3) * (J x6))) (hs h q16).2 ∧ hs h 256 = (0, 11) ∧ ∃ q18, hR h 256 7 = some q18 ∧ (hs h q18).1 = 1 ∧ ix (J x3) (hs h q18).2 ∧ ((¬ (hI h q16 (Int32.toNatClampNeg ((J 42) + ((J 3) * (J x6))))) = (hI h q18 (Int32.toNatClampNeg (J x3))) → hs h 256 = (0, 11) ∧ ∃ q22, hR h 256 7 = some q22 ∧ (hs h q22).1 = 1 ∧ ix ((J 42) + ((J 3) * (J x6))) (hs h q22).2 ∧ hs h 256 = (0, 11) ∧ ∃ q23, hR h 256 7 = some q23 ∧ (hs h q23).1 = 1 ∧ ix ((J x3) + (J 1)) (hs h q23).2 ∧ ((¬ (hI h q22 (Int32.toNatClampNeg ((J 42) + ((J 3) * (J x6))))) = (hI h q23 (Int32.toNatClampNeg ((J x3) + (J 1)))) → (((J x5) = (J 0) → Ex X PG (d + 1) 188 112 [some (.ref 256), some (.int (J x1)), some (.int (J x2)), some (.int (J x3)), some (.int (J x4)), some (.int (J 0)), some (.int ((J x6) + (J 1))), some (.int ((J 42) + ((J 3) * (J x6)))), some (.int (J 0))] [] h Q) ∧ (¬ ((J x5) = (J 0)) → ((¬ (J 0) = (J 0) → Ex X PG (d + 1) 188 112 [some (.ref 256), some (.int (J x1)), some (.int (J x2)), some (.int (J x3)), some (.int (J x4)), some (.int (J 0)), some (.int ((J x6) + (J 1))), some (.int ((J 42) + ((J 3) * (J x6)))), some (.int (J 0))] [] h Q) ∧ (¬ (¬ (J 0) = (J 0)) → Ex X PG (d + 1) 188 112 [some (.ref 256), some (.int (J x1)), some (.int (J x2)), some (.int (J x3)), some (.int (J x4)), some (.int (J 1)), some (.int ((J x6) + (J 1))), some (.int ((J 42) + ((J 3) * (J x6)))), some (.int (J 0))] [] h Q))))) ∧ (¬ (¬ (hI h q22 (Int32.toNatClampNeg ((J 42) + ((J 3) * (J x6))))) = (hI h q23 (Int32.toNatClampNeg ((J x3) + (J 1))))) → hs h 256 = (0, 11) ∧ ∃ q30, hR h 256 7 = some q30 ∧ (hs h q30).1 = 1 ∧ ix (((J 42) + ((J 3) * (J x6))) + (J 1)) (hs h q30).2 ∧ hs h 256 = (0, 11) ∧ ∃ q32, hR h 256 7 = some q32 ∧ (hs h q32).1 = 1 ∧ ix (J x3) (hs h q32).2 ∧ ((¬ (hI h q30 (Int32.toNatClampNeg (((J 42) + ((J 3) * (J x6))) + (J 1)))) = (hI h q32 (Int32.toNatClampNeg (J x3))) → (((J x5) = (J 0) → Ex X PG (d + 1) 188 112 [some (.ref 256), some (.int (J x1)), some (.int (J x2)), some (.int (J x3)), some (.int (J x4)), some (.int (J 0)), some (.int ((J x6) + (J 1))), some (.int ((J 42) + ((J 3) * (J x6)))), some (.int (J 0))] [] h Q) ∧ (¬ ((J x5) = (J 0)) → ((¬ (J 0) = (J 0) → Ex X PG (d + 1) 188 112 [some (.ref 256), some (.int (J x1)), some (.int (J x2)), some (.int (J x3)), some (.int (J x4)), some (.int (J 0)), some (.int ((J x6) + (J 1))), some (.int ((J 42) + ((J 3) * (J x6)))), some (.int (J 0))] [] h Q) ∧ (¬ (¬ (J 0) = (J 0)) → Ex X PG (d + 1) 188 112 [some (.ref 256), some (.int (J x1)), some (.int (J x2)), some (.int (J x3)), some (.int (J x4)), some (.int (J 1)), some (.int ((J x6) + (J 1))), some (.int ((J 42) + ((J 3) * (J x6)))), some (.int (J 0))] [] h Q))))) ∧ (¬ (¬ (hI h q30 (Int32.toNatClampNeg (((J 42) + ((J 3) * (J x6))) + (J 1)))) = (hI h q32 (Int32.toNatClampNeg (J x3)))) → (((J x5) = (J 0) → Ex X PG (d + 1) 188 112 [some (.ref 256), some (.int (J x1)), some (.int (J x2)), some (.int (J x3)), some (.int (J x4)), some (.int (J 0)), some (.int ((J x6) + (J 1))), some (.int ((J 42) + ((J 3) * (J x6)))), some (.int (J 1))] [] h Q) ∧ (¬ ((J x5) = (J 0)) → ((¬ (J 1) = (J 0) → Ex X PG (d + 1) 188 112 [some (.ref 256), some (.int (J x1)), some (.int (J x2)), some (.int (J x3)), some (.int (J x4)), some (.int (J 0)), some (.int ((J x6) + (J 1))), some (.int ((J 42) + ((J 3) * (J x6)))), some (.int (J 1))] [] h Q) ∧ (¬ (¬ (J 1) = (J 0)) → Ex X PG (d + 1) 188 112 [some (.ref 256), some (.int (J x1)), some (.int (J x2)), some (.int (J x3)), some (.int (J x4)), some (.int (J 1)), some (.int ((J x6) + (J 1))), some (.int ((J 42) + ((J 3) * (J x6)))), some (.int (J 1))] [] h Q))))))))) ∧ (¬ (¬ (hI h q16 (Int32.toNatClampNeg ((J 42) + ((J 3) * (J x6))))) = (hI h q18 (Int32.toNatClampNeg (J x3)))) → hs h 256 = (0, 11) ∧ ∃ q41, hR h 256 7 = some q41 ∧ (hs h q41).1 = 1 ∧ ix (((J 42) + ((J 3) * (J x6))) + (J 1)) (hs h q41).2 ∧ hs h 256 = (0, 11) ∧ ∃ q43, hR h 256 7 = some q43 ∧ (hs h q43).1 = 1 ∧ ix ((J x3) + (J 1)) (hs h q43).2 ∧ (((hI h q41 (Int32.toNatClampNeg (((J 42) + ((J 3) * (J x6))) + (J 1)))) = (hI h q43 (Int32.toNatClampNeg ((J x3) + (J 1)))) → (((J x5) = (J 0) → Ex X PG (d + 1) 188 112 [some (.ref 256), some (.int (J x1)), some (.int (J x2)), some (.int (J x3)), some (.int (J x4)), some (.int (J 0)), some (.int ((J x6) + (J 1))), some (.int ((J 42) + ((J 3) * (J x6)))), some (.int (J 1))] [] h Q) ∧ (¬ ((J x5) = (J 0)) → ((¬ (J 1) = (J 0) → Ex X PG (d + 1) 188 112 [some (.ref 256), some (.int (J x1)), some (.int (J x2)), some (.int (J x3)), some (.int (J x4)), some (.int (J 0)), some (.int ((J x6) + (J 1))), some (.int ((J 42) + ((J 3) * (J x6)))), some (.int (J 1))] [] h Q) ∧ (¬ (¬ (J 1) = (J 0)) → Ex X PG (d + 1) 188 112 [some (.ref 256), some (.int (J x1)), some (.int (J x2)), some (.int (J x3)), some (.int (J x4)), some (.int (J 1)), some (.int ((J x6) + (J 1))), some (.int ((J 42) + ((J 3) * (J x6)))), some (.int (J 1))] [] h Q))))) ∧ (¬ ((hI h q41 (Int32.toNatClampNeg (((J 42) + ((J 3) * (J x6))) + (J 1)))) = (hI h q43 (Int32.toNatClampNeg ((J x3) + (J 1))))) → hs h 256 = (0, 11) ∧ ∃ q50, hR h 256 7 = some q50 ∧ (hs h q50).1 = 1 ∧ ix ((J 42) + ((J 3) * (J x6))) (hs h q50).2 ∧ hs h 256 = (0, 11) ∧ ∃ q51, hR h 256 7 = some q51 ∧ (hs h q51).1 = 1 ∧ ix ((J x3) + (J 1)) (hs h q51).2 ∧ ((¬ (hI h q50 (Int32.toNatClampNeg ((J 42) + ((J 3) * (J x6))))) = (hI h q51 (Int32.toNatClampNeg ((J x3) + (J 1)))) → (((J x5) = (J 0) → Ex X PG (d + 1) 188 112 [some (.ref 256), some (.int (J x1)), some (.int (J x2)), some (.int (J x3)), some (.int (J x4)), some (.int (J 0)), some (.int ((J x6) + (J 1))), some (.int ((J 42) + ((J 3) * (J x6)))), some (.int (J 0))] [] h Q) ∧ (¬ ((J x5) = (J 0)) → ((¬ (J 0) = (J 0) → Ex X PG (d + 1) 188 112 [some (.ref 256), some (.int (J x1)), some (.int (J x2)), some (.int (J x3)), some (.int (J x4)), some (.int (J 0)), some (.int ((J x6) + (J 1))), some (.int ((J 42) + ((J 3) * (J x6)))), some (.int (J 0))] [] h Q) ∧ (¬ (¬ (J 0) = (J 0)) → Ex X PG (d + 1) 188 112 [some (.ref 256), some (.int (J x1)), some (.int (J x2)), some (.int (J x3)), some (.int (J x4)), some (.int (J 1)), some (.int ((J x6) + (J 1))), some (.int ((J 42) + ((J 3) * (J x6)))), some (.int (J 0))] [] h Q))))) ∧ (¬ (¬ (hI h q50 (Int32.toNatClampNeg ((J 42) + ((J 3) * (J x6))))) = (hI h q51 (Int32.toNatClampNeg ((J x3) + (J 1))))) → hs h 256 = (0, 11) ∧ ∃ q57, hR h 256 7 = some q57 ∧ (hs h q57).1 = 1 ∧ ix (((J 42) + ((J 3) * (J x6))) + (J 1)) (hs h q57).2 ∧ hs h 256 = (0, 11) ∧ ∃ q58, hR h 256 7 = some q58 ∧ (hs h q58).1 = 1 ∧ ix (J x3) (hs h q58).2 ∧ ((¬ (hI h q57 (Int32.toNatClampNeg (((J 42) + ((J 3) * (J x6))) + (J 1)))) = (hI h q58 (Int32.toNatClampNeg (J x3))) → (((J x5) = (J 0) → Ex X PG (d + 1) 188 112 [some (.ref 256), some (.int (J x1)), some (.int (J x2)), some (.int (J x3)), some (.int (J x4)), some (.int (J 0)), some (.int ((J x6) + (J 1))), some (.int ((J 42) + ((J 3) * (J x6)))), some (.int (J 0))] [] h Q) ∧ (¬ ((J x5) = (J 0)) → ((¬ (J 0) = (J 0) → Ex X PG (d + 1) 188 112 [some (.ref 256), some (.int (J x1)), some (.int (J x2)), some (.int (J x3)), some (.int (J x4)), some (.int (J 0)), some (.int ((J x6) + (J 1))), some (.int ((J 42) + ((J 3) * (J x6)))), some (.int (J 0))] [] h Q) ∧ (¬ (¬ (J 0) = (J 0)) → Ex X PG (d + 1) 188 112 [some (.ref 256), some (.int (J x1)), some (.int (J x2)), some (.int (J x3)), some (.int (J x4)), some (.int (J 1)), some (.int ((J x6) + (J 1))), some (.int ((J 42) + ((J 3) * (J x6)))), some (.int (J 0))] [] h Q))))) ∧ (¬ (¬ (hI h q57 (Int32.toNatClampNeg (((J 42) + ((J 3) * (J x6))) + (J 1)))) = (hI h q58 (Int32.toNatClampNeg (J x3)))) → (((J x5) = (J 0) → Ex X PG (d + 1) 188 112 [some (.ref 256), some (.int (J x1)), some (.int (J x2)), some (.int (J x3)), some (.int (J x4)), some (.int (J 0)), some (.int ((J x6) + (J 1))), some (.int ((J 42) + ((J 3) * (J x6)))), some (.int (J 1))] [] h Q) ∧ (¬ ((J x5) = (J 0)) → ((¬ (J 1) = (J 0) → Ex X PG (d + 1) 188 112 [some (.ref 256), some (.int (J x1)), some (.int (J x2)), some (.int (J x3)), some (.int (J x4)), some (.int (J 0)), some (.int ((J x6) + (J 1))), some (.int ((J 42) + ((J 3) * (J x6)))), some (.int (J 1))] [] h Q) ∧ (¬ (¬ (J 1) = (J 0)) → Ex X PG (d + 1) 188 112 [some (.ref 256), some (.int (J x1)), some (.int (J x2)), some (.int (J x3)), some (.int (J x4)), some (.int (J 1)), some (.int ((J x6) + (J 1))), some (.int ((J 42) + ((J 3) * (J x6)))), some (.int (J 1))] [] h Q))))))))))))))
  try simp only [aI_wAL, fI_wAL, aL_wA, aL_wF, aI_wA_ne, aI_wF_ne, fI_wA_ne, fI_wF_ne, fI_wF_nk, aL_wAL_ne, J_sameA, J_sameF, aL_same, Nat.add_left_cancel_iff, Nat.add_eq_left, Nat.left_eq_add, not_false_eq_true, Nat.reduceEqDiff, Nat.reduceAdd, J_add, J_sub, J_mul, J_neg, J_and, J_or, J_xor, J_shl, J_shr, J_div, J_i2b, J_i2l, J_l2i, J_lcm, J_max, J_min, J_nab, J_nao, rdA, rdF, rdL, wA_fold, wF_fold, wL_fold, wC_fold]
  refine ⟨(ls256 C_h), _, (lr256_7 C_h), ?_⟩
  refine ⟨congrArg Prod.fst (ls262 C_h), ixs (ls262 C_h) (by decide) (by decide), ?_⟩
  obtain ⟨k4, w⟩ := w
  refine ⟨fun c2 => ?_, fun c2 => ?_⟩
  · have t3 : aI h 262 1 ≤ x6 := ((Jle (rg_toInt _) k4).mp c2)
    replace w := w.1 t3
    obtain ⟨k7, w⟩ := w
    refine ⟨fun c5 => ?_, fun c5 => ?_⟩
    · have t6 : ¬ x5 = 0 := (fun e => c5 ((Jeq k7 (by decide)).mpr e))
      replace w := w.1 t6
      refine ⟨(ls256 C_h), _, (lr256_7 C_h), ?_⟩
      obtain ⟨k9, w⟩ := w
      refine ⟨congrArg Prod.fst (ls262 C_h), ixs (ls262 C_h) k9 (by decide), ?_⟩
      refine ⟨(ls256 C_h), _, (lr256_7 C_h), ?_⟩
      refine ⟨congrArg Prod.fst (ls262 C_h), ixs (ls262 C_h) (by decide) (by decide), ?_⟩
      refine ⟨congrArg Prod.fst (ls262 C_h), ixs (ls262 C_h) (by decide) (by decide), ?_⟩
      exact ⟨(Or.inr (by trivial)), w⟩
    · have t6 : x5 = 0 := ((Jeq k7 (by decide)).mp (Classical.byContradiction c5))
      replace w := w.2 t6
      refine ⟨(ls256 C_h), ?_⟩
      refine Ex.mono w (Nat.le_refl _) ?_
      rintro v11 h12 ⟨r13, gr13, rfl, s15, w⟩
      refine ⟨_, rfl, ?_⟩
      have C_h12 := Lay_SH s15 C_h
      try simp only [aI_wAL, fI_wAL, aL_wA, aL_wF, aI_wA_ne, aI_wF_ne, fI_wA_ne, fI_wF_ne, fI_wF_nk, aL_wAL_ne, J_sameA, J_sameF, aL_same, Nat.add_left_cancel_iff, Nat.add_eq_left, Nat.left_eq_add, not_false_eq_true, Nat.reduceEqDiff, Nat.reduceAdd, J_add, J_sub, J_mul, J_neg, J_and, J_or, J_xor, J_shl, J_shr, J_div, J_i2b, J_i2l, J_l2i, J_lcm, J_max, J_min, J_nab, J_nao, rdA, rdF, rdL, wA_fold, wF_fold, wL_fold, wC_fold]
      obtain ⟨k14, w⟩ := w
      exact ⟨(k14.imp (congrArg J) (congrArg J)), w⟩
  · have t3 : ¬ aI h 262 1 ≤ x6 := (fun e => c2 ((Jle (rg_toInt _) k4).mpr e))
    replace w := w.2 t3
    refine ⟨(ls256 C_h), _, (lr256_7 C_h), ?_⟩
    obtain ⟨k17, w⟩ := w
    refine ⟨congrArg Prod.fst (ls262 C_h), ixs (ls262 C_h) k17 (by decide), ?_⟩
    refine ⟨(ls256 C_h), _, (lr256_7 C_h), ?_⟩
    obtain ⟨k19, w⟩ := w
    refine ⟨congrArg Prod.fst (ls262 C_h), ixs (ls262 C_h) k19 (by decide), ?_⟩
    refine ⟨fun c20 => ?_, fun c20 => ?_⟩
    · have t21 : ¬ aI h 262 (42 + (3 * x6)) = aI h 262 x3 := (fun e => c20 ((Jeq (rg_toInt _) (rg_toInt _)).mpr e))
      replace w := w.1 t21
      refine ⟨(ls256 C_h), _, (lr256_7 C_h), ?_⟩
      refine ⟨congrArg Prod.fst (ls262 C_h), ixs (ls262 C_h) k17 (by decide), ?_⟩
      refine ⟨(ls256 C_h), _, (lr256_7 C_h), ?_⟩
      obtain ⟨k24, w⟩ := w
      refine ⟨congrArg Prod.fst (ls262 C_h), ixs (ls262 C_h) k24 (by decide), ?_⟩
      refine ⟨fun c25 => ?_, fun c25 => ?_⟩
      · have t26 : ¬ aI h 262 (42 + (3 * x6)) = aI h 262 (x3 + 1) := (fun e => c25 ((Jeq (rg_toInt _) (rg_toInt _)).mpr e))
        replace w := w.1 t26
        obtain ⟨k29, w⟩ := w
        refine ⟨fun c27 => ?_, fun c27 => ?_⟩
        · have t28 : x5 = 0 := ((Jeq k29 (by decide)).mp c27)
          replace w := w.1 t28
          exact w
        · have t28 : ¬ x5 = 0 := (fun e => c27 ((Jeq k29 (by decide)).mpr e))
          replace w := w.2 t28
          refine ⟨fun c => absurd c (by decide), fun _ => ?_⟩
          exact w
      · have t26 : aI h 262 (42 + (3 * x6)) = aI h 262 (x3 + 1) := ((Jeq (rg_toInt _) (rg_toInt _)).mp (Classical.byContradiction c25))
        replace w := w.2 t26
        refine ⟨(ls256 C_h), _, (lr256_7 C_h), ?_⟩
        obtain ⟨k31, w⟩ := w
        refine ⟨congrArg Prod.fst (ls262 C_h), ixs (ls262 C_h) k31 (by decide), ?_⟩
        refine ⟨(ls256 C_h), _, (lr256_7 C_h), ?_⟩
        refine ⟨congrArg Prod.fst (ls262 C_h), ixs (ls262 C_h) k19 (by decide), ?_⟩
        refine ⟨fun c33 => ?_, fun c33 => ?_⟩
        · have t34 : ¬ aI h 262 ((42 + (3 * x6)) + 1) = aI h 262 x3 := (fun e => c33 ((Jeq (rg_toInt _) (rg_toInt _)).mpr e))
          replace w := w.1 t34
          obtain ⟨k37, w⟩ := w
          refine ⟨fun c35 => ?_, fun c35 => ?_⟩
          · have t36 : x5 = 0 := ((Jeq k37 (by decide)).mp c35)
            replace w := w.1 t36
            exact w
          · have t36 : ¬ x5 = 0 := (fun e => c35 ((Jeq k37 (by decide)).mpr e))
            replace w := w.2 t36
            refine ⟨fun c => absurd c (by decide), fun _ => ?_⟩
            exact w
        · have t34 : aI h 262 ((42 + (3 * x6)) + 1) = aI h 262 x3 := ((Jeq (rg_toInt _) (rg_toInt _)).mp (Classical.byContradiction c33))
          replace w := w.2 t34
          obtain ⟨k40, w⟩ := w
          refine ⟨fun c38 => ?_, fun c38 => ?_⟩
          · have t39 : x5 = 0 := ((Jeq k40 (by decide)).mp c38)
            replace w := w.1 t39
            exact w
          · have t39 : ¬ x5 = 0 := (fun e => c38 ((Jeq k40 (by decide)).mpr e))
            replace w := w.2 t39
            refine ⟨fun _ => ?_, fun c => absurd (by decide) c⟩
            exact w
    · have t21 : aI h 262 (42 + (3 * x6)) = aI h 262 x3 := ((Jeq (rg_toInt _) (rg_toInt _)).mp (Classical.byContradiction c20))
      replace w := w.2 t21
      refine ⟨(ls256 C_h), _, (lr256_7 C_h), ?_⟩
      obtain ⟨k42, w⟩ := w
      refine ⟨congrArg Prod.fst (ls262 C_h), ixs (ls262 C_h) k42 (by decide), ?_⟩
      refine ⟨(ls256 C_h), _, (lr256_7 C_h), ?_⟩
      obtain ⟨k44, w⟩ := w
      refine ⟨congrArg Prod.fst (ls262 C_h), ixs (ls262 C_h) k44 (by decide), ?_⟩
      refine ⟨fun c45 => ?_, fun c45 => ?_⟩
      · have t46 : aI h 262 ((42 + (3 * x6)) + 1) = aI h 262 (x3 + 1) := ((Jeq (rg_toInt _) (rg_toInt _)).mp c45)
        replace w := w.1 t46
        obtain ⟨k49, w⟩ := w
        refine ⟨fun c47 => ?_, fun c47 => ?_⟩
        · have t48 : x5 = 0 := ((Jeq k49 (by decide)).mp c47)
          replace w := w.1 t48
          exact w
        · have t48 : ¬ x5 = 0 := (fun e => c47 ((Jeq k49 (by decide)).mpr e))
          replace w := w.2 t48
          refine ⟨fun _ => ?_, fun c => absurd (by decide) c⟩
          exact w
      · have t46 : ¬ aI h 262 ((42 + (3 * x6)) + 1) = aI h 262 (x3 + 1) := (fun e => c45 ((Jeq (rg_toInt _) (rg_toInt _)).mpr e))
        replace w := w.2 t46
        refine ⟨(ls256 C_h), _, (lr256_7 C_h), ?_⟩
        refine ⟨congrArg Prod.fst (ls262 C_h), ixs (ls262 C_h) k17 (by decide), ?_⟩
        refine ⟨(ls256 C_h), _, (lr256_7 C_h), ?_⟩
        refine ⟨congrArg Prod.fst (ls262 C_h), ixs (ls262 C_h) k44 (by decide), ?_⟩
        refine ⟨fun c52 => ?_, fun c52 => ?_⟩
        · have t53 : ¬ aI h 262 (42 + (3 * x6)) = aI h 262 (x3 + 1) := (fun e => c52 ((Jeq (rg_toInt _) (rg_toInt _)).mpr e))
          replace w := w.1 t53
          obtain ⟨k56, w⟩ := w
          refine ⟨fun c54 => ?_, fun c54 => ?_⟩
          · have t55 : x5 = 0 := ((Jeq k56 (by decide)).mp c54)
            replace w := w.1 t55
            exact w
          · have t55 : ¬ x5 = 0 := (fun e => c54 ((Jeq k56 (by decide)).mpr e))
            replace w := w.2 t55
            refine ⟨fun c => absurd c (by decide), fun _ => ?_⟩
            exact w
        · have t53 : aI h 262 (42 + (3 * x6)) = aI h 262 (x3 + 1) := ((Jeq (rg_toInt _) (rg_toInt _)).mp (Classical.byContradiction c52))
          replace w := w.2 t53
          refine ⟨(ls256 C_h), _, (lr256_7 C_h), ?_⟩
          refine ⟨congrArg Prod.fst (ls262 C_h), ixs (ls262 C_h) k42 (by decide), ?_⟩
          refine ⟨(ls256 C_h), _, (lr256_7 C_h), ?_⟩
          refine ⟨congrArg Prod.fst (ls262 C_h), ixs (ls262 C_h) k19 (by decide), ?_⟩
          refine ⟨fun c59 => ?_, fun c59 => ?_⟩
          · have t60 : ¬ aI h 262 ((42 + (3 * x6)) + 1) = aI h 262 x3 := (fun e => c59 ((Jeq (rg_toInt _) (rg_toInt _)).mpr e))
            replace w := w.1 t60
            obtain ⟨k63, w⟩ := w
            refine ⟨fun c61 => ?_, fun c61 => ?_⟩
            · have t62 : x5 = 0 := ((Jeq k63 (by decide)).mp c61)
              replace w := w.1 t62
              exact w
            · have t62 : ¬ x5 = 0 := (fun e => c61 ((Jeq k63 (by decide)).mpr e))
              replace w := w.2 t62
              refine ⟨fun c => absurd c (by decide), fun _ => ?_⟩
              exact w
          · have t60 : aI h 262 ((42 + (3 * x6)) + 1) = aI h 262 x3 := ((Jeq (rg_toInt _) (rg_toInt _)).mp (Classical.byContradiction c59))
            replace w := w.2 t60
            obtain ⟨k66, w⟩ := w
            refine ⟨fun c64 => ?_, fun c64 => ?_⟩
            · have t65 : x5 = 0 := ((Jeq k66 (by decide)).mp c64)
              replace w := w.1 t65
              exact w
            · have t65 : ¬ x5 = 0 := (fun e => c64 ((Jeq k66 (by decide)).mpr e))
              replace w := w.2 t65
              refine ⟨fun _ => ?_, fun c => absurd (by decide) c⟩
              exact w
def dlik (R : Int → Int) (x m : Int) : Prop := (R (42 + 3 * m) = R x ∧ R (42 + 3 * m + 1) = R (x + 1)) ∨ (R (42 + 3 * m) = R (x + 1) ∧ R (42 + 3 * m + 1) = R x)
def done (R : Int → Int) (x n : Int) : Prop := ¬ R x = R (x + 1) ∧ ∀ m, 0 ≤ m → m < n → ¬ dlik R x m
theorem q188 {X : Cst} {d : Nat} {at_ w x s : Int} {R : Int → Int} {h : AH} {Q : Post} (C : Lay h) (hd : 2 ≤ d) (eR : aI h 262 = R) (R1 : 0 ≤ R 1 ∧ R 1 < 14) (ex : x = 42 + 3 * R 1) (e9 : fI h 256 9 = 0) (hw : 0 ≤ w ∧ w ≤ 1)
    (k1 : done R x (R 1) → Q (some (.int (J 1))) (wA (wA h 262 (x + 2) w) 262 1 (aI (wA h 262 (x + 2) w) 262 1 + 1)))
    (k0 : ¬ done R x (R 1) → Q (some (.int (J 0))) (wF h 256 9 (1 + 8 * s + 1))) :
    ∀ (z : Nat) (n o : Int) (l7 l8 : Option Value), R 1 - n = z → 0 ≤ n → n ≤ R 1 → o = bI (done R x n) → Ex X PG d 188 112 [some (.ref 256), some (.int (J at_)), some (.int (J w)), some (.int (J x)), some (.int (J s)), some (.int (J o)), some (.int (J n)), l7, l8] [] h Q := by
  obtain ⟨d, rfl⟩ : ∃ e, d = e + 1 := ⟨d - 1, by omega⟩
  intro z
  induction z with
  | zero =>
    intro n o l7 l8 ez n0 n1 eo
    have en : n = R 1 := by omega
    refine r188_112 C ?_
    rw [eR]
    have bo := bI_rg (done R x n)
    refine ⟨by omega, fun _ => ⟨by omega, fun c => ⟨by omega, ?_⟩, fun c => ?_⟩, fun c => absurd (by omega) c⟩
    · exact k1 (by rw [← en]; exact Classical.byContradiction fun z => c (eo.trans (bI_neg z)))
    · refine m179 C (by omega) e9 ⟨0, by omega, rfl, SH.rf.wF, Or.inl rfl, ?_⟩
      exact k0 (fun y => by rw [eo, en, bI_pos y] at c; omega)
  | succ z ih =>
    intro n o l7 l8 ez n0 n1 eo
    have bo := bI_rg (done R x n)
    have y1 : ∀ l7 l8, dlik R x n → Ex X PG (d + 1) 188 112 [some (.ref 256), some (.int (J at_)), some (.int (J w)), some (.int (J x)), some (.int (J s)), some (.int (J 0)), some (.int (J (n + 1))), l7, l8] [] h Q := by
      intro l7 l8 lk
      refine ih (n + 1) 0 l7 l8 (by omega) (by omega) (by omega) ?_
      rw [bI_neg (fun q => q.2 n n0 (by omega) lk)]
    have y2 : ∀ l7 l8, ¬ dlik R x n → o = 0 → Ex X PG (d + 1) 188 112 [some (.ref 256), some (.int (J at_)), some (.int (J w)), some (.int (J x)), some (.int (J s)), some (.int (J 0)), some (.int (J (n + 1))), l7, l8] [] h Q := by
      intro l7 l8 lk oz
      refine ih (n + 1) 0 l7 l8 (by omega) (by omega) (by omega) ?_
      rw [bI_neg (fun q => by rw [eo, bI_pos ⟨q.1, fun m a b => q.2 m a (by omega)⟩] at oz; omega)]
    have y3 : ∀ l7 l8, ¬ dlik R x n → ¬ o = 0 → Ex X PG (d + 1) 188 112 [some (.ref 256), some (.int (J at_)), some (.int (J w)), some (.int (J x)), some (.int (J s)), some (.int (J 1)), some (.int (J (n + 1))), l7, l8] [] h Q := by
      intro l7 l8 lk oz
      refine ih (n + 1) 1 l7 l8 (by omega) (by omega) (by omega) ?_
      have y : done R x n := Classical.byContradiction fun z => oz (eo.trans (bI_neg z))
      rw [bI_pos ⟨y.1, fun m a b => by
        by_cases q : m = n
        · rw [q]; exact lk
        · exact y.2 m a (by omega)⟩]
    have ro : -2147483648 ≤ o ∧ o < 2147483648 := by rw [eo]; exact bo
    refine r188_112 C ?_
    rw [eR]
    unfold dlik at y1 y2 y3
    refine ⟨by omega, fun c => absurd c (by omega), fun _ => ⟨by omega, by omega, fun c1 => ⟨by omega, fun c2 => ⟨ro, fun c3 => ?_, fun c3 => ?_⟩, fun c2 => ⟨by omega, fun c3 => ⟨ro, fun c4 => ?_, fun c4 => ?_⟩, fun c3 => ⟨ro, fun c4 => ?_, fun c4 => ?_⟩⟩⟩, fun c1 => ⟨by omega, by omega, fun c2 => ⟨ro, fun c3 => ?_, fun c3 => ?_⟩, fun c2 => ⟨fun c3 => ⟨ro, fun c4 => ?_, fun c4 => ?_⟩, fun c3 => ⟨fun c4 => ⟨ro, fun c5 => ?_, fun c5 => ?_⟩, fun c4 => ⟨ro, fun c5 => ?_, fun c5 => ?_⟩⟩⟩⟩⟩⟩
    · exact y2 _ _ (fun q => by rcases q with q | q; exact c1 q.1; exact c2 q.1) c3
    · exact y3 _ _ (fun q => by rcases q with q | q; exact c1 q.1; exact c2 q.1) c3
    · exact y2 _ _ (fun q => by rcases q with q | q; exact c1 q.1; exact c3 q.2) c4
    · exact y3 _ _ (fun q => by rcases q with q | q; exact c1 q.1; exact c3 q.2) c4
    · exact y1 _ _ (Or.inr ⟨c2, c3⟩)
    · exact y1 _ _ (Or.inr ⟨c2, c3⟩)
    · exact y1 _ _ (Or.inl ⟨c1, c2⟩)
    · exact y1 _ _ (Or.inl ⟨c1, c2⟩)
    · exact y2 _ _ (fun q => by rcases q with q | q; exact c2 q.2; exact c3 q.1) c4
    · exact y3 _ _ (fun q => by rcases q with q | q; exact c2 q.2; exact c3 q.1) c4
    · exact y2 _ _ (fun q => by rcases q with q | q; exact c2 q.2; exact c4 q.2) c5
    · exact y3 _ _ (fun q => by rcases q with q | q; exact c2 q.2; exact c4 q.2) c5
    · exact y1 _ _ (Or.inr ⟨c3, c4⟩)
    · exact y1 _ _ (Or.inr ⟨c3, c4⟩)
theorem m188 {X : Cst} {d : Nat} {L j w : Int} {tp R : Int → Int} {h : AH} {Q : Post} (C : Lay h) (hd : 4 ≤ d) (K : RkC h tp L j 0) (e8 : fI h 256 8 = j) (l : j < L ∧ leP (tp j)) (eR : aI h 262 = R) (R0 : 0 ≤ R 0 ∧ R 0 ≤ 8) (R1 : 0 ≤ R 1 ∧ R 1 ≤ 14) (hw : 0 ≤ w ∧ w ≤ 1) (k : RQ h tp L (pI (R 1 = 14) (fltR (1 + 8 * j + 4)) (cDor tp L (nx tp L j) w R)) Q) : Ex X PG d 188 0 [some (.ref 256), some (.int (J j)), some (.int (J w)), none, none, none, none, none, none] [] h Q := by
  obtain ⟨d, rfl⟩ : ∃ e, d = e + 1 := ⟨d - 1, by omega⟩
  have kj := K.j
  refine r188_0 C ?_
  rw [eR]
  refine ⟨fun c => ?_, fun c => ?_⟩
  · rw [pI_neg c] at k
    refine m182w C (by omega) K e8 l (fun h2 F2 K2 => ⟨rfl, F2.1, ?_⟩)
    have F2r : Fr TNr h h2 := F2.mo (fun _ _ => TNx_r)
    have k2j := K2.j
    have eR2 := (F2.a 262 (fun k => by unfold TNx; omega)).trans eR
    rw [eR2]
    refine m183 (R := R) (F2.C C) (by omega) K2 eR2 (by omega) (by omega) (by omega) (fun e h3 F3 K3 eR3 => ⟨1, by omega, rfl, F3.1, fun _ => ?_, fun z => absurd z (by decide)⟩) (fun e h3 F3 e9 => ⟨0, by omega, rfl, F3.1, fun z => absurd rfl z, fun _ => ?_⟩)
    · unfold cDor at k; rw [nmc_pos e] at k
      generalize ea : tkV tp L (nx tp L j) = a at k eR3
      generalize ej : nx tp L (nx tp L j) = j1 at k K3
      refine m175 (F3.C (F2.C C)) (by omega) K3 (fun h4 F4 K4 e84 => ⟨_, ?_, rfl, F4.1, ?_⟩)
      · unfold seeV
        by_cases c : j1 < L
        · rw [pI_pos c]; exact rg_toInt _
        · rw [pI_neg c]; omega
      have F4r : Fr TNr h h4 := (F2r.tr F3).tr (F4.mo (fun _ _ => TNx_r))
      have eR4 := (F4.a 262 (fun k => by unfold TNx; omega)).trans eR3
      have k4j := K4.j
      have e40 : aI h4 262 0 = R 0 := by rw [eR4, uu_ne (by omega) (by omega) (by omega)]
      rw [e40]
      refine m183 (F4r.C C) (by omega) K4 eR4 (by omega) (by omega) (by omega) (fun e' h5 F5 K5 eR5 => ⟨1, by omega, rfl, F5.1, fun _ => ?_, fun z => absurd z (by decide)⟩) (fun e' h5 F5 e9 => ⟨0, by omega, rfl, F5.1, fun z => absurd rfl z, fun _ => ?_⟩)
      · have F5r := F4r.tr F5
        generalize eb : tkV tp L j1 = b at eR5
        have nb := nmF_b (bar := dbar R a) k4j.1 e'
        rw [eb] at nb
        have g1 : aI h5 262 1 = R 1 := by rw [eR5, uu_ne (by omega) (by omega) (by omega), uu_ne (by omega) (by omega) (by omega)]
        have ga : aI h5 262 (42 + 3 * R 1) = a := by rw [eR5, uu_ne (by omega) (by omega) (by omega), uu_eq]
        have gb : aI h5 262 (42 + 3 * R 1 + 1) = b := by rw [eR5, uu_eq]
        have gd : ∀ m, 0 ≤ m → m < R 1 → aI h5 262 (42 + 3 * m) = R (42 + 3 * m) ∧ aI h5 262 (42 + 3 * m + 1) = R (42 + 3 * m + 1) := fun m m0 m1 => by
          rw [eR5, uu_ne (by omega) (by omega) (by omega), uu_ne (by omega) (by omega) (by omega), uu_ne (by omega) (by omega) (by omega), uu_ne (by omega) (by omega) (by omega)]
          exact ⟨rfl, rfl⟩
        have iff : done (aI h5 262) (42 + 3 * R 1) (R 1) ↔ ¬ dbar R a b := by
          unfold done dlik dbar
          rw [ga, gb]
          constructor
          · intro q y
            rcases y with y | ⟨m, hm, y⟩
            · exact q.1 y.symm
            · have g := gd m hm.1 hm.2
              refine q.2 m hm.1 hm.2 ?_
              rw [g.1, g.2]; exact y
          · intro q
            refine ⟨fun e => q (Or.inl e.symm), fun m m0 m1 y => q (Or.inr ⟨m, ⟨m0, m1⟩, ?_⟩)⟩
            have g := gd m m0 m1
            rw [g.1, g.2] at y; exact y
        have go : ∀ o, o = bI (done (aI h5 262) (42 + 3 * R 1) 0) → Ex X PG (d + 1) 188 112 [some (.ref 256), some (.int (J j)), some (.int (J w)), some (.int (J (42 + 3 * R 1))), some (.int (J (fI h4 256 8))), some (.int (J o)), some (.int (J 0)), none, none] [] h5 Q := by
          intro o eo
          rw [e84]
          refine q188 (F5r.C C) (by omega) rfl (by omega) (by rw [g1]) K5.2.2.2.2 hw (fun q => ?_) (fun q => ?_) (R 1).toNat 0 o none none (by omega) (by omega) (by omega) eo
          · rw [g1] at q
            rw [nmc_pos (nb.1 (iff.mp q)), eb] at k
            have Fw := wA262 (e := 1) (v := aI (wA h5 262 (42 + 3 * R 1 + 2) w) 262 1 + 1) (wA262 (e := 42 + 3 * R 1 + 2) (v := w) (Fr.rf (h := h5)))
            refine k.1 rfl _ (F5r.tr (Fw.mo (fun _ _ => T262_r))) (K5.f262 Fw) ?_
            have e2 : aI (wA h5 262 (42 + 3 * R 1 + 2) w) 262 = uu_ (uu_ (uu_ R (42 + 3 * R 1) a) (42 + 3 * R 1 + 1) b) (42 + 3 * R 1 + 2) w := by rw [aI_wA (by omega), eR5]
            have e3 : uu_ (uu_ (uu_ R (42 + 3 * R 1) a) (42 + 3 * R 1 + 1) b) (42 + 3 * R 1 + 2) w 1 = R 1 := by
              rw [uu_ne (by omega) (by omega) (by omega), uu_ne (by omega) (by omega) (by omega), uu_ne (by omega) (by omega) (by omega)]
            rw [e2, e3, aI_wA (by omega), e2]
            rfl
          · rw [g1] at q
            have y : dbar R a b := Classical.byContradiction fun z => q (iff.mpr z)
            have nb2 := nb.2 y
            rw [nmc_neg (by omega)] at k
            exact k.fl F5r (by omega) (by omega) nb2
        refine ⟨by omega, by omega, fun c => go 0 ?_, fun c => go 1 ?_⟩
        · rw [bI_neg (fun q => q.1 c)]
        · rw [bI_pos ⟨c, fun m a b => by omega⟩]
      · have ne := nmF_ne (bar := dbar R a) k4j.1 e'
        rw [nmc_neg (by rw [ne]; exact e'), ne] at k
        exact k.2 e' h5 (F4r.tr F5) e9
    · unfold cDor at k; rw [nmc_neg e] at k; exact k.2 e h3 (F2r.tr F3) e9
  · rw [pI_pos c] at k
    exact m179 C (by omega) K.2.2.2.2 ⟨0, by omega, rfl, SH.rf.wF, Or.inl rfl, k.fl Fr.rf (by omega) (by omega) rfl⟩
theorem wS0 : (109270199987301 : Int64).toInt = wSc 0 ∧ (6709618 : Int64).toInt = wSc 1 ∧ (1685024626 : Int64).toInt = wSc 2 ∧ (131294707347319 : Int64).toInt = wSc 3 ∧ (474214787188 : Int64).toInt = wSc 4 ∧ (123581014175598 : Int64).toInt = wSc 5 := by decide
theorem wSb : ∀ s, s < 20 → 0 < wSc s ∧ wSc s < 72057594037927936 := by decide
/-- a word asked for -/
theorem m177s {X : Cst} {d s : Nat} {x : Int64} {L j f : Int} {tp : Int → Int} {h : AH} {Q : Post} (C : Lay h) (hd : 2 ≤ d) (K : RkC h tp L j f) (hs : s < 20) (hx : x.toInt = wSc s)
    (k1 : wc tp L j = wSc s → (j < L ∧ leP (tp j)) → ∀ h', Fr TNx h h' → RkC h' tp L j f → fI h' 256 8 = j → Q (some (.int (J 1))) h') (k0 : ¬ wc tp L j = wSc s → ∀ h', Fr TNx h h' → RkC h' tp L j f → fI h' 256 8 = j → Q (some (.int (J 0))) h') : Ex X PG d 177 0 [some (.ref 256), some (.long x), none, none, none, none] [] h Q := by
  have kj := K.j
  have wb := wSb s hs
  refine m177 C hd K hx wb (fun h' F K' e8 => ?_)
  by_cases c : wc tp L j = wSc s
  · rw [bI_pos c]
    have wp := wc_pos kj.1 kj.2.1 wb.1 c
    exact k1 c ⟨wp.1, wp.2.1⟩ h' F K' e8
  · rw [bI_neg c]
    exact k0 c h' F K' e8
theorem RQ.fin {h : AH} {tp : Int → Int} {L : Int} {r : RS} {Q : Post} (k : RQ h tp L r Q) : RQ h tp L r (fun v h' => ∃ z : Int, (-2147483648 ≤ z ∧ z < 2147483648) ∧ v = some (.int (J z)) ∧ SH h h' ∧ (z = 0 ∨ z = 1) ∧ Q (some (.int (J z))) h') :=
  ⟨fun e h' F K a => ⟨1, by omega, rfl, F.1, Or.inr rfl, k.1 e h' F K a⟩, fun e h' F a => ⟨0, by omega, rfl, F.1, Or.inl rfl, k.2 e h' F a⟩⟩
-- OutwardDoorsModel.castleLineHere(I)Z at 0
set_option maxRecDepth 20000 in
set_option maxHeartbeats 4000000 in
theorem r180_0 {X : Cst} {d : Nat} {x1 : Int} {h : AH} {Q : Post} (C_h : Lay h)
  (w : Ex X PG d 177 0 [some (.ref 256), some (.long (109270199987301 : Int64)), none, none, none, none] [] h (fun v1 h2 => ∃ r3 : Int, (-2147483648 ≤ r3 ∧ r3 < 2147483648) ∧ v1 = some (.int (J r3)) ∧ SH h h2 ∧ ((r3 = 0 → ((¬ aI h2 262 0 = 0 → Ex X PG d 177 0 [some (.ref 256), some (.long (6709618 : Int64)), none, none, none, none] [] h2 (fun v9 h10 => ∃ r11 : Int, (-2147483648 ≤ r11 ∧ r11 < 2147483648) ∧ v9 = some (.int (J r11)) ∧ SH h2 h10 ∧ ((r11 = 0 → Ex X PG d 177 0 [some (.ref 256), some (.long (1685024626 : Int64)), none, none, none, none] [] h10 (fun v14 h15 => ∃ r16 : Int, (-2147483648 ≤ r16 ∧ r16 < 2147483648) ∧ v14 = some (.int (J r16)) ∧ SH h10 h15 ∧ ((r16 = 0 → Ex X PG d 177 0 [some (.ref 256), some (.long (131294707347319 : Int64)), none, none, none, none] [] h15 (fun v19 h20 => ∃ r21 : Int, (-2147483648 ≤ r21 ∧ r21 < 2147483648) ∧ v19 = some (.int (J r21)) ∧ SH h15 h20 ∧ ((r21 = 0 → Ex X PG d 177 0 [some (.ref 256), some (.long (474214787188 : Int64)), none, none, none, none] [] h20 (fun v24 h25 => ∃ r26 : Int, (-2147483648 ≤ r26 ∧ r26 < 2147483648) ∧ v24 = some (.int (J r26)) ∧ SH h20 h25 ∧ ((r26 = 0 → Ex X PG d 190 0 [some (.ref 256), some (.int (J x1)), none] [] h25 (fun v29 h30 => ∃ r31 : Int, (-2147483648 ≤ r31 ∧ r31 < 2147483648) ∧ v29 = some (.int (J r31)) ∧ SH h25 h30 ∧ (r31 = 0 ∨ r31 = 1) ∧ Q (some (.int (J r31))) h30)) ∧ (¬ r26 = 0 → Ex X PG d 189 0 [some (.ref 256), some (.int (J x1))] [] h25 (fun v34 h35 => ∃ r36 : Int, (-2147483648 ≤ r36 ∧ r36 < 2147483648) ∧ v34 = some (.int (J r36)) ∧ SH h25 h35 ∧ (r36 = 0 ∨ r36 = 1) ∧ Q (some (.int (J r36))) h35))))) ∧ (¬ r21 = 0 → Ex X PG d 188 0 [some (.ref 256), some (.int (J x1)), some (.int (J 1)), none, none, none, none, none, none] [] h20 (fun v40 h41 => ∃ r42 : Int, (-2147483648 ≤ r42 ∧ r42 < 2147483648) ∧ v40 = some (.int (J r42)) ∧ SH h20 h41 ∧ (r42 = 0 ∨ r42 = 1) ∧ Q (some (.int (J r42))) h41))))) ∧ (¬ r16 = 0 → Ex X PG d 188 0 [some (.ref 256), some (.int (J x1)), some (.int (J 0)), none, none, none, none, none, none] [] h15 (fun v46 h47 => ∃ r48 : Int, (-2147483648 ≤ r48 ∧ r48 < 2147483648) ∧ v46 = some (.int (J r48)) ∧ SH h15 h47 ∧ (r48 = 0 ∨ r48 = 1) ∧ Q (some (.int (J r48))) h47))))) ∧ (¬ r11 = 0 → Ex X PG d 187 0 [some (.ref 256)] [] h10 (fun v52 h53 => ∃ r54 : Int, (-2147483648 ≤ r54 ∧ r54 < 2147483648) ∧ v52 = some (.int (J r54)) ∧ SH h10 h53 ∧ (r54 = 0 ∨ r54 = 1) ∧ Q (some (.int (J r54))) h53))))) ∧ (aI h2 262 0 = 0 → Ex X PG d 179 0 [some (.ref 256), some (.int (J 4)), some (.int (J x1))] [] h2 (fun v58 h59 => ∃ r60 : Int, (-2147483648 ≤ r60 ∧ r60 < 2147483648) ∧ v58 = some (.int (J r60)) ∧ SH h2 h59 ∧ (r60 = 0 ∨ r60 = 1) ∧ Q (some (.int (J r60))) h59)))) ∧ (¬ r3 = 0 → Ex X PG d 181 0 [some (.ref 256), some (.int (J x1))] [] h2 (fun v63 h64 => ∃ r65 : Int, (-2147483648 ≤ r65 ∧ r65 < 2147483648) ∧ v63 = some (.int (J r65)) ∧ SH h2 h64 ∧ (r65 = 0 ∨ r65 = 1) ∧ Q (some (.int (J r65))) h64))))) :
    Ex X PG (d + 1) 180 0 [some (.ref 256), some (.int (J x1))] [] h Q := by
  refine wpx_ok (cut := []) 30 d 180 0 _ _ _ _ ?_
  show hs h 256 = (0, 11) ∧ Ex X PG d 177 0 [some (.ref 256), some (.long (109270199987301 : Int64)), none, none, none, none] [] h (fun v1 h2 => ∃ r3, v1 = some (.int r3) ∧ ((r3 = (J 0) → hs h2 256 = (0, 11) ∧ ∃ q6, hR h2 256 7 = some q6 ∧ (hs h2 q6).1 = 1 ∧ ix (J 0) (hs h2 q6).2 ∧ ((¬ (hI h2 q6 (Int32.toNatClampNeg (J 0))) = (J 0) → hs h2 256 = (0, 11) ∧ Ex X PG d 177 0 [some (.ref 256), some (.long (6709618 : Int64)), none, none, none, none] [] h2 (fun v9 h10 => ∃ r11, v9 = some (.int r11) ∧ ((r11 = (J 0) → hs h10 256 = (0, 11) ∧ Ex X PG d 177 0 [some (.ref 256), some (.long (1685024626 : Int64)), none, none, none, none] [] h10 (fun v14 h15 => ∃ r16, v14 = some (.int r16) ∧ ((r16 = (J 0) → hs h15 256 = (0, 11) ∧ Ex X PG d 177 0 [some (.ref 256), some (.long (131294707347319 : Int64)), none, none, none, none] [] h15 (fun v19 h20 => ∃ r21, v19 = some (.int r21) ∧ ((r21 = (J 0) → hs h20 256 = (0, 11) ∧ Ex X PG d 177 0 [some (.ref 256), some (.long (474214787188 : Int64)), none, none, none, none] [] h20 (fun v24 h25 => ∃ r26, v24 = some (.int r26) ∧ ((r26 = (J 0) → hs h25 256 = (0, 11) ∧ Ex X PG d 190 0 [some (.ref 256), some (.int (J x1)), none] [] h25 (fun v29 h30 => ∃ r31, v29 = some (.int r31) ∧ (r31 = J 0 ∨ r31 = J 1) ∧ Q (some (.int r31)) h30)) ∧ (¬ (r26 = (J 0)) → hs h25 256 = (0, 11) ∧ Ex X PG d 189 0 [some (.ref 256), some (.int (J x1))] [] h25 (fun v34 h35 => ∃ r36, v34 = some (.int r36) ∧ (r36 = J 0 ∨ r36 = J 1) ∧ Q (some (.int r36)) h35))))) ∧ (¬ (r21 = (J 0)) → hs h20 256 = (0, 11) ∧ Ex X PG d 188 0 [some (.ref 256), some (.int (J x1)), some (.int (J 1)), none, none, none, none, none, none] [] h20 (fun v40 h41 => ∃ r42, v40 = some (.int r42) ∧ (r42 = J 0 ∨ r42 = J 1) ∧ Q (some (.int r42)) h41))))) ∧ (¬ (r16 = (J 0)) → hs h15 256 = (0, 11) ∧ Ex X PG d 188 0 [some (.ref 256), some (.int (J x1)), some (.int (J 0)), none, none, none, none, none, none] [] h15 (fun v46 h47 => ∃ r48, v46 = some (.int r48) ∧ (r48 = J 0 ∨ r48 = J 1) ∧ Q (some (.int r48)) h47))))) ∧ (¬ (r11 = (J 0)) → hs h10 256 = (0, 11) ∧ Ex X PG d 187 0 [some (.ref 256)] [] h10 (fun v52 h53 => ∃ r54, v52 = some (.int r54) ∧ (r54 = J 0 ∨ r54 = J 1) ∧ Q (some (.int r54)) h53))))) ∧ (¬ (¬ (hI h2 q6 (Int32.toNatClampNeg (J 0))) = (J 0)) → hs h2 256 = (0, 11) ∧ Ex X PG d 179 0 [some (.ref 256), some (.int (J 4)), some (.int (J x1))] [] h2 (fun v58 h59 => ∃ r60, v58 = some (.int r60) ∧ (r60 = J 0 ∨ r60 = J 1) ∧ Q (some (.int r60)) h59)))) ∧ (¬ (r3 = (J 0)) → hs h2 256 = (0, 11) ∧ Ex X PG d 181 0 [some (.ref 256), some (.int (J x1))] [] h2 (fun v63 h64 => ∃ r65, v63 = some (.int r65) ∧ (r65 = J 0 ∨ r65 = J 1) ∧ Q (some (.int r65)) h64))))
  try simp only [aI_wAL, fI_wAL, aL_wA, aL_wF, aI_wA_ne, aI_wF_ne, fI_wA_ne, fI_wF_ne, fI_wF_nk, aL_wAL_ne, J_sameA, J_sameF, aL_same, Nat.add_left_cancel_iff, Nat.add_eq_left, Nat.left_eq_add, not_false_eq_true, Nat.reduceEqDiff, Nat.reduceAdd, J_add, J_sub, J_mul, J_neg, J_and, J_or, J_xor, J_shl, J_shr, J_div, J_i2b, J_i2l, J_l2i, J_lcm, J_max, J_min, J_nab, J_nao, rdA, rdF, rdL, wA_fold, wF_fold, wL_fold, wC_fold]
  refine ⟨(ls256 C_h), ?_⟩
  refine Ex.mono w (Nat.le_refl _) ?_
  rintro v1 h2 ⟨r3, gr3, rfl, s68, w⟩
  refine ⟨_, rfl, ?_⟩
  have C_h2 := Lay_SH s68 C_h
  try simp only [aI_wAL, fI_wAL, aL_wA, aL_wF, aI_wA_ne, aI_wF_ne, fI_wA_ne, fI_wF_ne, fI_wF_nk, aL_wAL_ne, J_sameA, J_sameF, aL_same, Nat.add_left_cancel_iff, Nat.add_eq_left, Nat.left_eq_add, not_false_eq_true, Nat.reduceEqDiff, Nat.reduceAdd, J_add, J_sub, J_mul, J_neg, J_and, J_or, J_xor, J_shl, J_shr, J_div, J_i2b, J_i2l, J_l2i, J_lcm, J_max, J_min, J_nab, J_nao, rdA, rdF, rdL, wA_fold, wF_fold, wL_fold, wC_fold]
  refine ⟨fun c4 => ?_, fun c4 => ?_⟩
  · have t5 : r3 = 0 := ((Jeq gr3 (by decide)).mp c4)
    replace w := w.1 t5
    refine ⟨(ls256 C_h2), _, (lr256_7 C_h2), ?_⟩
    refine ⟨congrArg Prod.fst (ls262 C_h2), ixs (ls262 C_h2) (by decide) (by decide), ?_⟩
    refine ⟨fun c7 => ?_, fun c7 => ?_⟩
    · have t8 : ¬ aI h2 262 0 = 0 := (fun e => c7 ((Jeq (rg_toInt _) (by decide)).mpr e))
      replace w := w.1 t8
      refine ⟨(ls256 C_h2), ?_⟩
      refine Ex.mono w (Nat.le_refl _) ?_
      rintro v9 h10 ⟨r11, gr11, rfl, s57, w⟩
      refine ⟨_, rfl, ?_⟩
      have C_h10 := Lay_SH s57 C_h2
      try simp only [aI_wAL, fI_wAL, aL_wA, aL_wF, aI_wA_ne, aI_wF_ne, fI_wA_ne, fI_wF_ne, fI_wF_nk, aL_wAL_ne, J_sameA, J_sameF, aL_same, Nat.add_left_cancel_iff, Nat.add_eq_left, Nat.left_eq_add, not_false_eq_true, Nat.reduceEqDiff, Nat.reduceAdd, J_add, J_sub, J_mul, J_neg, J_and, J_or, J_xor, J_shl, J_shr, J_div, J_i2b, J_i2l, J_l2i, J_lcm, J_max, J_min, J_nab, J_nao, rdA, rdF, rdL, wA_fold, wF_fold, wL_fold, wC_fold]
      refine ⟨fun c12 => ?_, fun c12 => ?_⟩
      · have t13 : r11 = 0 := ((Jeq gr11 (by decide)).mp c12)
        replace w := w.1 t13
        refine ⟨(ls256 C_h10), ?_⟩
        refine Ex.mono w (Nat.le_refl _) ?_
        rintro v14 h15 ⟨r16, gr16, rfl, s51, w⟩
        refine ⟨_, rfl, ?_⟩
        have C_h15 := Lay_SH s51 C_h10
        try simp only [aI_wAL, fI_wAL, aL_wA, aL_wF, aI_wA_ne, aI_wF_ne, fI_wA_ne, fI_wF_ne, fI_wF_nk, aL_wAL_ne, J_sameA, J_sameF, aL_same, Nat.add_left_cancel_iff, Nat.add_eq_left, Nat.left_eq_add, not_false_eq_true, Nat.reduceEqDiff, Nat.reduceAdd, J_add, J_sub, J_mul, J_neg, J_and, J_or, J_xor, J_shl, J_shr, J_div, J_i2b, J_i2l, J_l2i, J_lcm, J_max, J_min, J_nab, J_nao, rdA, rdF, rdL, wA_fold, wF_fold, wL_fold, wC_fold]
        refine ⟨fun c17 => ?_, fun c17 => ?_⟩
        · have t18 : r16 = 0 := ((Jeq gr16 (by decide)).mp c17)
          replace w := w.1 t18
          refine ⟨(ls256 C_h15), ?_⟩
          refine Ex.mono w (Nat.le_refl _) ?_
          rintro v19 h20 ⟨r21, gr21, rfl, s45, w⟩
          refine ⟨_, rfl, ?_⟩
          have C_h20 := Lay_SH s45 C_h15
          try simp only [aI_wAL, fI_wAL, aL_wA, aL_wF, aI_wA_ne, aI_wF_ne, fI_wA_ne, fI_wF_ne, fI_wF_nk, aL_wAL_ne, J_sameA, J_sameF, aL_same, Nat.add_left_cancel_iff, Nat.add_eq_left, Nat.left_eq_add, not_false_eq_true, Nat.reduceEqDiff, Nat.reduceAdd, J_add, J_sub, J_mul, J_neg, J_and, J_or, J_xor, J_shl, J_shr, J_div, J_i2b, J_i2l, J_l2i, J_lcm, J_max, J_min, J_nab, J_nao, rdA, rdF, rdL, wA_fold, wF_fold, wL_fold, wC_fold]
          refine ⟨fun c22 => ?_, fun c22 => ?_⟩
          · have t23 : r21 = 0 := ((Jeq gr21 (by decide)).mp c22)
            replace w := w.1 t23
            refine ⟨(ls256 C_h20), ?_⟩
            refine Ex.mono w (Nat.le_refl _) ?_
            rintro v24 h25 ⟨r26, gr26, rfl, s39, w⟩
            refine ⟨_, rfl, ?_⟩
            have C_h25 := Lay_SH s39 C_h20
            try simp only [aI_wAL, fI_wAL, aL_wA, aL_wF, aI_wA_ne, aI_wF_ne, fI_wA_ne, fI_wF_ne, fI_wF_nk, aL_wAL_ne, J_sameA, J_sameF, aL_same, Nat.add_left_cancel_iff, Nat.add_eq_left, Nat.left_eq_add, not_false_eq_true, Nat.reduceEqDiff, Nat.reduceAdd, J_add, J_sub, J_mul, J_neg, J_and, J_or, J_xor, J_shl, J_shr, J_div, J_i2b, J_i2l, J_l2i, J_lcm, J_max, J_min, J_nab, J_nao, rdA, rdF, rdL, wA_fold, wF_fold, wL_fold, wC_fold]
            refine ⟨fun c27 => ?_, fun c27 => ?_⟩
            · have t28 : r26 = 0 := ((Jeq gr26 (by decide)).mp c27)
              replace w := w.1 t28
              refine ⟨(ls256 C_h25), ?_⟩
              refine Ex.mono w (Nat.le_refl _) ?_
              rintro v29 h30 ⟨r31, gr31, rfl, s33, w⟩
              refine ⟨_, rfl, ?_⟩
              have C_h30 := Lay_SH s33 C_h25
              try simp only [aI_wAL, fI_wAL, aL_wA, aL_wF, aI_wA_ne, aI_wF_ne, fI_wA_ne, fI_wF_ne, fI_wF_nk, aL_wAL_ne, J_sameA, J_sameF, aL_same, Nat.add_left_cancel_iff, Nat.add_eq_left, Nat.left_eq_add, not_false_eq_true, Nat.reduceEqDiff, Nat.reduceAdd, J_add, J_sub, J_mul, J_neg, J_and, J_or, J_xor, J_shl, J_shr, J_div, J_i2b, J_i2l, J_l2i, J_lcm, J_max, J_min, J_nab, J_nao, rdA, rdF, rdL, wA_fold, wF_fold, wL_fold, wC_fold]
              obtain ⟨k32, w⟩ := w
              exact ⟨(k32.imp (congrArg J) (congrArg J)), w⟩
            · have t28 : ¬ r26 = 0 := (fun e => c27 ((Jeq gr26 (by decide)).mpr e))
              replace w := w.2 t28
              refine ⟨(ls256 C_h25), ?_⟩
              refine Ex.mono w (Nat.le_refl _) ?_
              rintro v34 h35 ⟨r36, gr36, rfl, s38, w⟩
              refine ⟨_, rfl, ?_⟩
              have C_h35 := Lay_SH s38 C_h25
              try simp only [aI_wAL, fI_wAL, aL_wA, aL_wF, aI_wA_ne, aI_wF_ne, fI_wA_ne, fI_wF_ne, fI_wF_nk, aL_wAL_ne, J_sameA, J_sameF, aL_same, Nat.add_left_cancel_iff, Nat.add_eq_left, Nat.left_eq_add, not_false_eq_true, Nat.reduceEqDiff, Nat.reduceAdd, J_add, J_sub, J_mul, J_neg, J_and, J_or, J_xor, J_shl, J_shr, J_div, J_i2b, J_i2l, J_l2i, J_lcm, J_max, J_min, J_nab, J_nao, rdA, rdF, rdL, wA_fold, wF_fold, wL_fold, wC_fold]
              obtain ⟨k37, w⟩ := w
              exact ⟨(k37.imp (congrArg J) (congrArg J)), w⟩
          · have t23 : ¬ r21 = 0 := (fun e => c22 ((Jeq gr21 (by decide)).mpr e))
            replace w := w.2 t23
            refine ⟨(ls256 C_h20), ?_⟩
            refine Ex.mono w (Nat.le_refl _) ?_
            rintro v40 h41 ⟨r42, gr42, rfl, s44, w⟩
            refine ⟨_, rfl, ?_⟩
            have C_h41 := Lay_SH s44 C_h20
            try simp only [aI_wAL, fI_wAL, aL_wA, aL_wF, aI_wA_ne, aI_wF_ne, fI_wA_ne, fI_wF_ne, fI_wF_nk, aL_wAL_ne, J_sameA, J_sameF, aL_same, Nat.add_left_cancel_iff, Nat.add_eq_left, Nat.left_eq_add, not_false_eq_true, Nat.reduceEqDiff, Nat.reduceAdd, J_add, J_sub, J_mul, J_neg, J_and, J_or, J_xor, J_shl, J_shr, J_div, J_i2b, J_i2l, J_l2i, J_lcm, J_max, J_min, J_nab, J_nao, rdA, rdF, rdL, wA_fold, wF_fold, wL_fold, wC_fold]
            obtain ⟨k43, w⟩ := w
            exact ⟨(k43.imp (congrArg J) (congrArg J)), w⟩
        · have t18 : ¬ r16 = 0 := (fun e => c17 ((Jeq gr16 (by decide)).mpr e))
          replace w := w.2 t18
          refine ⟨(ls256 C_h15), ?_⟩
          refine Ex.mono w (Nat.le_refl _) ?_
          rintro v46 h47 ⟨r48, gr48, rfl, s50, w⟩
          refine ⟨_, rfl, ?_⟩
          have C_h47 := Lay_SH s50 C_h15
          try simp only [aI_wAL, fI_wAL, aL_wA, aL_wF, aI_wA_ne, aI_wF_ne, fI_wA_ne, fI_wF_ne, fI_wF_nk, aL_wAL_ne, J_sameA, J_sameF, aL_same, Nat.add_left_cancel_iff, Nat.add_eq_left, Nat.left_eq_add, not_false_eq_true, Nat.reduceEqDiff, Nat.reduceAdd, J_add, J_sub, J_mul, J_neg, J_and, J_or, J_xor, J_shl, J_shr, J_div, J_i2b, J_i2l, J_l2i, J_lcm, J_max, J_min, J_nab, J_nao, rdA, rdF, rdL, wA_fold, wF_fold, wL_fold, wC_fold]
          obtain ⟨k49, w⟩ := w
          exact ⟨(k49.imp (congrArg J) (congrArg J)), w⟩
      · have t13 : ¬ r11 = 0 := (fun e => c12 ((Jeq gr11 (by decide)).mpr e))
        replace w := w.2 t13
        refine ⟨(ls256 C_h10), ?_⟩
        refine Ex.mono w (Nat.le_refl _) ?_
        rintro v52 h53 ⟨r54, gr54, rfl, s56, w⟩
        refine ⟨_, rfl, ?_⟩
        have C_h53 := Lay_SH s56 C_h10
        try simp only [aI_wAL, fI_wAL, aL_wA, aL_wF, aI_wA_ne, aI_wF_ne, fI_wA_ne, fI_wF_ne, fI_wF_nk, aL_wAL_ne, J_sameA, J_sameF, aL_same, Nat.add_left_cancel_iff, Nat.add_eq_left, Nat.left_eq_add, not_false_eq_true, Nat.reduceEqDiff, Nat.reduceAdd, J_add, J_sub, J_mul, J_neg, J_and, J_or, J_xor, J_shl, J_shr, J_div, J_i2b, J_i2l, J_l2i, J_lcm, J_max, J_min, J_nab, J_nao, rdA, rdF, rdL, wA_fold, wF_fold, wL_fold, wC_fold]
        obtain ⟨k55, w⟩ := w
        exact ⟨(k55.imp (congrArg J) (congrArg J)), w⟩
    · have t8 : aI h2 262 0 = 0 := ((Jeq (rg_toInt _) (by decide)).mp (Classical.byContradiction c7))
      replace w := w.2 t8
      refine ⟨(ls256 C_h2), ?_⟩
      refine Ex.mono w (Nat.le_refl _) ?_
      rintro v58 h59 ⟨r60, gr60, rfl, s62, w⟩
      refine ⟨_, rfl, ?_⟩
      have C_h59 := Lay_SH s62 C_h2
      try simp only [aI_wAL, fI_wAL, aL_wA, aL_wF, aI_wA_ne, aI_wF_ne, fI_wA_ne, fI_wF_ne, fI_wF_nk, aL_wAL_ne, J_sameA, J_sameF, aL_same, Nat.add_left_cancel_iff, Nat.add_eq_left, Nat.left_eq_add, not_false_eq_true, Nat.reduceEqDiff, Nat.reduceAdd, J_add, J_sub, J_mul, J_neg, J_and, J_or, J_xor, J_shl, J_shr, J_div, J_i2b, J_i2l, J_l2i, J_lcm, J_max, J_min, J_nab, J_nao, rdA, rdF, rdL, wA_fold, wF_fold, wL_fold, wC_fold]
      obtain ⟨k61, w⟩ := w
      exact ⟨(k61.imp (congrArg J) (congrArg J)), w⟩
  · have t5 : ¬ r3 = 0 := (fun e => c4 ((Jeq gr3 (by decide)).mpr e))
    replace w := w.2 t5
    refine ⟨(ls256 C_h2), ?_⟩
    refine Ex.mono w (Nat.le_refl _) ?_
    rintro v63 h64 ⟨r65, gr65, rfl, s67, w⟩
    refine ⟨_, rfl, ?_⟩
    have C_h64 := Lay_SH s67 C_h2
    try simp only [aI_wAL, fI_wAL, aL_wA, aL_wF, aI_wA_ne, aI_wF_ne, fI_wA_ne, fI_wF_ne, fI_wF_nk, aL_wAL_ne, J_sameA, J_sameF, aL_same, Nat.add_left_cancel_iff, Nat.add_eq_left, Nat.left_eq_add, not_false_eq_true, Nat.reduceEqDiff, Nat.reduceAdd, J_add, J_sub, J_mul, J_neg, J_and, J_or, J_xor, J_shl, J_shr, J_div, J_i2b, J_i2l, J_l2i, J_lcm, J_max, J_min, J_nab, J_nao, rdA, rdF, rdL, wA_fold, wF_fold, wL_fold, wC_fold]
    obtain ⟨k66, w⟩ := w
    exact ⟨(k66.imp (congrArg J) (congrArg J)), w⟩
theorem m180 {X : Cst} {d : Nat} {L j : Int} {tp R : Int → Int} {h : AH} {Q : Post} (C : Lay h) (hd : 5 ≤ d) (K : RkC h tp L j 0) (l : j < L ∧ leP (tp j)) (eR : aI h 262 = R) (R0 : 0 ≤ R 0 ∧ R 0 ≤ 8) (R1 : 0 ≤ R 1 ∧ R 1 ≤ 14) (R2 : 0 ≤ R 2 ∧ R 2 ≤ 4) (k : RQ h tp L (cLin tp L j R) Q) : Ex X PG d 180 0 [some (.ref 256), some (.int (J j))] [] h Q := by
  obtain ⟨d, rfl⟩ : ∃ e, d = e + 1 := ⟨d - 1, by omega⟩
  have kj := K.j
  have eX : ∀ h', Fr TNx h h' → aI h' 262 = R := fun h' F => (F.a 262 (fun k => by unfold TNx; omega)).trans eR
  unfold cLin at k
  refine r180_0 C ?_
  refine m177s (s := 0) C (by omega) K (by decide) wS0.1 (fun e _ h2 F2 K2 e82 => ⟨1, by omega, rfl, F2.1, fun z => absurd z (by decide), fun _ => ?_⟩) (fun e h2 F2 K2 e82 => ⟨0, by omega, rfl, F2.1, fun _ => ?_, fun z => absurd rfl z⟩)
  · rw [pI_pos e] at k
    exact m181 (F2.C C) (by omega) K2 e82 l (eX h2 F2) (k.mo (F2.mo (fun _ _ => TNx_r))).fin
  rw [pI_neg e] at k
  rw [eX h2 F2]
  refine ⟨fun c0 => ?_, fun c0 => ?_⟩
  rotate_left
  · rw [pI_pos c0] at k
    exact m179 (F2.C C) (by omega) K2.2.2.2.2 ⟨0, by omega, rfl, SH.rf.wF, Or.inl rfl, k.fl (F2.mo (fun _ _ => TNx_r)) (by omega) (by omega) rfl⟩
  rw [pI_neg c0] at k
  refine m177s (s := 1) (F2.C C) (by omega) K2 (by decide) wS0.2.1 (fun e1 _ h3 F3 K3 e83 => ⟨1, by omega, rfl, F3.1, fun z => absurd z (by decide), fun _ => ?_⟩) (fun e1 h3 F3 K3 e83 => ⟨0, by omega, rfl, F3.1, fun _ => ?_, fun z => absurd rfl z⟩)
  · rw [pI_pos e1] at k
    have F := F2.tr F3
    exact m187 (F.C C) (by omega) K3 e83 l (eX h3 F) R0 (k.mo (F.mo (fun _ _ => TNx_r))).fin
  rw [pI_neg e1] at k
  have G3 := F2.tr F3
  refine m177s (s := 2) (G3.C C) (by omega) K3 (by decide) wS0.2.2.1 (fun e2 _ h4 F4 K4 e84 => ⟨1, by omega, rfl, F4.1, fun z => absurd z (by decide), fun _ => ?_⟩) (fun e2 h4 F4 K4 e84 => ⟨0, by omega, rfl, F4.1, fun _ => ?_, fun z => absurd rfl z⟩)
  · rw [pI_pos e2] at k
    have F := G3.tr F4
    exact m188 (F.C C) (by omega) K4 e84 l (eX h4 F) R0 R1 (by omega) (k.mo (F.mo (fun _ _ => TNx_r))).fin
  rw [pI_neg e2] at k
  have G4 := G3.tr F4
  refine m177s (s := 3) (G4.C C) (by omega) K4 (by decide) wS0.2.2.2.1 (fun e3 _ h5 F5 K5 e85 => ⟨1, by omega, rfl, F5.1, fun z => absurd z (by decide), fun _ => ?_⟩) (fun e3 h5 F5 K5 e85 => ⟨0, by omega, rfl, F5.1, fun _ => ?_, fun z => absurd rfl z⟩)
  · rw [pI_pos e3] at k
    have F := G4.tr F5
    exact m188 (F.C C) (by omega) K5 e85 l (eX h5 F) R0 R1 (by omega) (k.mo (F.mo (fun _ _ => TNx_r))).fin
  rw [pI_neg e3] at k
  have G5 := G4.tr F5
  refine m177s (s := 4) (G5.C C) (by omega) K5 (by decide) wS0.2.2.2.2.1 (fun e4 _ h6 F6 K6 e86 => ⟨1, by omega, rfl, F6.1, fun z => absurd z (by decide), fun _ => ?_⟩) (fun e4 h6 F6 K6 e86 => ⟨0, by omega, rfl, F6.1, fun _ => ?_, fun z => absurd rfl z⟩)
  · rw [pI_pos e4] at k
    have F := G5.tr F6
    exact m189 (F.C C) (by omega) K6 e86 l (eX h6 F) (k.mo (F.mo (fun _ _ => TNx_r))).fin
  rw [pI_neg e4] at k
  have F := G5.tr F6
  exact m190 (F.C C) (by omega) K6 e86 l (eX h6 F) R0 R2 (k.mo (F.mo (fun _ _ => TNx_r))).fin
-- OutwardDoorsModel.isCastleWord()Z at 0
set_option maxRecDepth 20000 in
set_option maxHeartbeats 4000000 in
theorem r176_0 {X : Cst} {d : Nat}  {h : AH} {Q : Post} (C_h : Lay h)
  (w : Ex X PG d 177 0 [some (.ref 256), some (.long (109270199987301 : Int64)), none, none, none, none] [] h (fun v1 h2 => ∃ r3 : Int, (-2147483648 ≤ r3 ∧ r3 < 2147483648) ∧ v1 = some (.int (J r3)) ∧ SH h h2 ∧ ((¬ r3 = 0 → Q (some (.int (J 1))) h2) ∧ (r3 = 0 → Ex X PG d 177 0 [some (.ref 256), some (.long (6709618 : Int64)), none, none, none, none] [] h2 (fun v6 h7 => ∃ r8 : Int, (-2147483648 ≤ r8 ∧ r8 < 2147483648) ∧ v6 = some (.int (J r8)) ∧ SH h2 h7 ∧ ((¬ r8 = 0 → Q (some (.int (J 1))) h7) ∧ (r8 = 0 → Ex X PG d 177 0 [some (.ref 256), some (.long (1685024626 : Int64)), none, none, none, none] [] h7 (fun v11 h12 => ∃ r13 : Int, (-2147483648 ≤ r13 ∧ r13 < 2147483648) ∧ v11 = some (.int (J r13)) ∧ SH h7 h12 ∧ ((¬ r13 = 0 → Q (some (.int (J 1))) h12) ∧ (r13 = 0 → Ex X PG d 177 0 [some (.ref 256), some (.long (131294707347319 : Int64)), none, none, none, none] [] h12 (fun v16 h17 => ∃ r18 : Int, (-2147483648 ≤ r18 ∧ r18 < 2147483648) ∧ v16 = some (.int (J r18)) ∧ SH h12 h17 ∧ ((¬ r18 = 0 → Q (some (.int (J 1))) h17) ∧ (r18 = 0 → Ex X PG d 177 0 [some (.ref 256), some (.long (474214787188 : Int64)), none, none, none, none] [] h17 (fun v21 h22 => ∃ r23 : Int, (-2147483648 ≤ r23 ∧ r23 < 2147483648) ∧ v21 = some (.int (J r23)) ∧ SH h17 h22 ∧ ((¬ r23 = 0 → Q (some (.int (J 1))) h22) ∧ (r23 = 0 → Ex X PG d 177 0 [some (.ref 256), some (.long (123581014175598 : Int64)), none, none, none, none] [] h22 (fun v26 h27 => ∃ r28 : Int, (-2147483648 ≤ r28 ∧ r28 < 2147483648) ∧ v26 = some (.int (J r28)) ∧ SH h22 h27 ∧ ((r28 = 0 → Q (some (.int (J 0))) h27) ∧ (¬ r28 = 0 → Q (some (.int (J 1))) h27))))))))))))))))))) :
    Ex X PG (d + 1) 176 0 [some (.ref 256)] [] h Q := by
  refine wpx_ok (cut := []) 27 d 176 0 _ _ _ _ ?_
  show hs h 256 = (0, 11) ∧ Ex X PG d 177 0 [some (.ref 256), some (.long (109270199987301 : Int64)), none, none, none, none] [] h (fun v1 h2 => ∃ r3, v1 = some (.int r3) ∧ ((¬ r3 = (J 0) → (J 1 = J 0 ∨ J 1 = J 1) ∧ Q (some (.int (J 1))) h2) ∧ (¬ (¬ r3 = (J 0)) → hs h2 256 = (0, 11) ∧ Ex X PG d 177 0 [some (.ref 256), some (.long (6709618 : Int64)), none, none, none, none] [] h2 (fun v6 h7 => ∃ r8, v6 = some (.int r8) ∧ ((¬ r8 = (J 0) → (J 1 = J 0 ∨ J 1 = J 1) ∧ Q (some (.int (J 1))) h7) ∧ (¬ (¬ r8 = (J 0)) → hs h7 256 = (0, 11) ∧ Ex X PG d 177 0 [some (.ref 256), some (.long (1685024626 : Int64)), none, none, none, none] [] h7 (fun v11 h12 => ∃ r13, v11 = some (.int r13) ∧ ((¬ r13 = (J 0) → (J 1 = J 0 ∨ J 1 = J 1) ∧ Q (some (.int (J 1))) h12) ∧ (¬ (¬ r13 = (J 0)) → hs h12 256 = (0, 11) ∧ Ex X PG d 177 0 [some (.ref 256), some (.long (131294707347319 : Int64)), none, none, none, none] [] h12 (fun v16 h17 => ∃ r18, v16 = some (.int r18) ∧ ((¬ r18 = (J 0) → (J 1 = J 0 ∨ J 1 = J 1) ∧ Q (some (.int (J 1))) h17) ∧ (¬ (¬ r18 = (J 0)) → hs h17 256 = (0, 11) ∧ Ex X PG d 177 0 [some (.ref 256), some (.long (474214787188 : Int64)), none, none, none, none] [] h17 (fun v21 h22 => ∃ r23, v21 = some (.int r23) ∧ ((¬ r23 = (J 0) → (J 1 = J 0 ∨ J 1 = J 1) ∧ Q (some (.int (J 1))) h22) ∧ (¬ (¬ r23 = (J 0)) → hs h22 256 = (0, 11) ∧ Ex X PG d 177 0 [some (.ref 256), some (.long (123581014175598 : Int64)), none, none, none, none] [] h22 (fun v26 h27 => ∃ r28, v26 = some (.int r28) ∧ ((r28 = (J 0) → (J 0 = J 0 ∨ J 0 = J 1) ∧ Q (some (.int (J 0))) h27) ∧ (¬ (r28 = (J 0)) → (J 1 = J 0 ∨ J 1 = J 1) ∧ Q (some (.int (J 1))) h27))))))))))))))))))
  try simp only [aI_wAL, fI_wAL, aL_wA, aL_wF, aI_wA_ne, aI_wF_ne, fI_wA_ne, fI_wF_ne, fI_wF_nk, aL_wAL_ne, J_sameA, J_sameF, aL_same, Nat.add_left_cancel_iff, Nat.add_eq_left, Nat.left_eq_add, not_false_eq_true, Nat.reduceEqDiff, Nat.reduceAdd, J_add, J_sub, J_mul, J_neg, J_and, J_or, J_xor, J_shl, J_shr, J_div, J_i2b, J_i2l, J_l2i, J_lcm, J_max, J_min, J_nab, J_nao, rdA, rdF, rdL, wA_fold, wF_fold, wL_fold, wC_fold]
  refine ⟨(ls256 C_h), ?_⟩
  refine Ex.mono w (Nat.le_refl _) ?_
  rintro v1 h2 ⟨r3, gr3, rfl, s36, w⟩
  refine ⟨_, rfl, ?_⟩
  have C_h2 := Lay_SH s36 C_h
  try simp only [aI_wAL, fI_wAL, aL_wA, aL_wF, aI_wA_ne, aI_wF_ne, fI_wA_ne, fI_wF_ne, fI_wF_nk, aL_wAL_ne, J_sameA, J_sameF, aL_same, Nat.add_left_cancel_iff, Nat.add_eq_left, Nat.left_eq_add, not_false_eq_true, Nat.reduceEqDiff, Nat.reduceAdd, J_add, J_sub, J_mul, J_neg, J_and, J_or, J_xor, J_shl, J_shr, J_div, J_i2b, J_i2l, J_l2i, J_lcm, J_max, J_min, J_nab, J_nao, rdA, rdF, rdL, wA_fold, wF_fold, wL_fold, wC_fold]
  refine ⟨fun c4 => ?_, fun c4 => ?_⟩
  · have t5 : ¬ r3 = 0 := (fun e => c4 ((Jeq gr3 (by decide)).mpr e))
    replace w := w.1 t5
    exact ⟨(Or.inr (by trivial)), w⟩
  · have t5 : r3 = 0 := ((Jeq gr3 (by decide)).mp (Classical.byContradiction c4))
    replace w := w.2 t5
    refine ⟨(ls256 C_h2), ?_⟩
    refine Ex.mono w (Nat.le_refl _) ?_
    rintro v6 h7 ⟨r8, gr8, rfl, s35, w⟩
    refine ⟨_, rfl, ?_⟩
    have C_h7 := Lay_SH s35 C_h2
    try simp only [aI_wAL, fI_wAL, aL_wA, aL_wF, aI_wA_ne, aI_wF_ne, fI_wA_ne, fI_wF_ne, fI_wF_nk, aL_wAL_ne, J_sameA, J_sameF, aL_same, Nat.add_left_cancel_iff, Nat.add_eq_left, Nat.left_eq_add, not_false_eq_true, Nat.reduceEqDiff, Nat.reduceAdd, J_add, J_sub, J_mul, J_neg, J_and, J_or, J_xor, J_shl, J_shr, J_div, J_i2b, J_i2l, J_l2i, J_lcm, J_max, J_min, J_nab, J_nao, rdA, rdF, rdL, wA_fold, wF_fold, wL_fold, wC_fold]
    refine ⟨fun c9 => ?_, fun c9 => ?_⟩
    · have t10 : ¬ r8 = 0 := (fun e => c9 ((Jeq gr8 (by decide)).mpr e))
      replace w := w.1 t10
      exact ⟨(Or.inr (by trivial)), w⟩
    · have t10 : r8 = 0 := ((Jeq gr8 (by decide)).mp (Classical.byContradiction c9))
      replace w := w.2 t10
      refine ⟨(ls256 C_h7), ?_⟩
      refine Ex.mono w (Nat.le_refl _) ?_
      rintro v11 h12 ⟨r13, gr13, rfl, s34, w⟩
      refine ⟨_, rfl, ?_⟩
      have C_h12 := Lay_SH s34 C_h7
      try simp only [aI_wAL, fI_wAL, aL_wA, aL_wF, aI_wA_ne, aI_wF_ne, fI_wA_ne, fI_wF_ne, fI_wF_nk, aL_wAL_ne, J_sameA, J_sameF, aL_same, Nat.add_left_cancel_iff, Nat.add_eq_left, Nat.left_eq_add, not_false_eq_true, Nat.reduceEqDiff, Nat.reduceAdd, J_add, J_sub, J_mul, J_neg, J_and, J_or, J_xor, J_shl, J_shr, J_div, J_i2b, J_i2l, J_l2i, J_lcm, J_max, J_min, J_nab, J_nao, rdA, rdF, rdL, wA_fold, wF_fold, wL_fold, wC_fold]
      refine ⟨fun c14 => ?_, fun c14 => ?_⟩
      · have t15 : ¬ r13 = 0 := (fun e => c14 ((Jeq gr13 (by decide)).mpr e))
        replace w := w.1 t15
        exact ⟨(Or.inr (by trivial)), w⟩
      · have t15 : r13 = 0 := ((Jeq gr13 (by decide)).mp (Classical.byContradiction c14))
        replace w := w.2 t15
        refine ⟨(ls256 C_h12), ?_⟩
        refine Ex.mono w (Nat.le_refl _) ?_
        rintro v16 h17 ⟨r18, gr18, rfl, s33, w⟩
        refine ⟨_, rfl, ?_⟩
        have C_h17 := Lay_SH s33 C_h12
        try simp only [aI_wAL, fI_wAL, aL_wA, aL_wF, aI_wA_ne, aI_wF_ne, fI_wA_ne, fI_wF_ne, fI_wF_nk, aL_wAL_ne, J_sameA, J_sameF, aL_same, Nat.add_left_cancel_iff, Nat.add_eq_left, Nat.left_eq_add, not_false_eq_true, Nat.reduceEqDiff, Nat.reduceAdd, J_add, J_sub, J_mul, J_neg, J_and, J_or, J_xor, J_shl, J_shr, J_div, J_i2b, J_i2l, J_l2i, J_lcm, J_max, J_min, J_nab, J_nao, rdA, rdF, rdL, wA_fold, wF_fold, wL_fold, wC_fold]
        refine ⟨fun c19 => ?_, fun c19 => ?_⟩
        · have t20 : ¬ r18 = 0 := (fun e => c19 ((Jeq gr18 (by decide)).mpr e))
          replace w := w.1 t20
          exact ⟨(Or.inr (by trivial)), w⟩
        · have t20 : r18 = 0 := ((Jeq gr18 (by decide)).mp (Classical.byContradiction c19))
          replace w := w.2 t20
          refine ⟨(ls256 C_h17), ?_⟩
          refine Ex.mono w (Nat.le_refl _) ?_
          rintro v21 h22 ⟨r23, gr23, rfl, s32, w⟩
          refine ⟨_, rfl, ?_⟩
          have C_h22 := Lay_SH s32 C_h17
          try simp only [aI_wAL, fI_wAL, aL_wA, aL_wF, aI_wA_ne, aI_wF_ne, fI_wA_ne, fI_wF_ne, fI_wF_nk, aL_wAL_ne, J_sameA, J_sameF, aL_same, Nat.add_left_cancel_iff, Nat.add_eq_left, Nat.left_eq_add, not_false_eq_true, Nat.reduceEqDiff, Nat.reduceAdd, J_add, J_sub, J_mul, J_neg, J_and, J_or, J_xor, J_shl, J_shr, J_div, J_i2b, J_i2l, J_l2i, J_lcm, J_max, J_min, J_nab, J_nao, rdA, rdF, rdL, wA_fold, wF_fold, wL_fold, wC_fold]
          refine ⟨fun c24 => ?_, fun c24 => ?_⟩
          · have t25 : ¬ r23 = 0 := (fun e => c24 ((Jeq gr23 (by decide)).mpr e))
            replace w := w.1 t25
            exact ⟨(Or.inr (by trivial)), w⟩
          · have t25 : r23 = 0 := ((Jeq gr23 (by decide)).mp (Classical.byContradiction c24))
            replace w := w.2 t25
            refine ⟨(ls256 C_h22), ?_⟩
            refine Ex.mono w (Nat.le_refl _) ?_
            rintro v26 h27 ⟨r28, gr28, rfl, s31, w⟩
            refine ⟨_, rfl, ?_⟩
            have C_h27 := Lay_SH s31 C_h22
            try simp only [aI_wAL, fI_wAL, aL_wA, aL_wF, aI_wA_ne, aI_wF_ne, fI_wA_ne, fI_wF_ne, fI_wF_nk, aL_wAL_ne, J_sameA, J_sameF, aL_same, Nat.add_left_cancel_iff, Nat.add_eq_left, Nat.left_eq_add, not_false_eq_true, Nat.reduceEqDiff, Nat.reduceAdd, J_add, J_sub, J_mul, J_neg, J_and, J_or, J_xor, J_shl, J_shr, J_div, J_i2b, J_i2l, J_l2i, J_lcm, J_max, J_min, J_nab, J_nao, rdA, rdF, rdL, wA_fold, wF_fold, wL_fold, wC_fold]
            refine ⟨fun c29 => ?_, fun c29 => ?_⟩
            · have t30 : r28 = 0 := ((Jeq gr28 (by decide)).mp c29)
              replace w := w.1 t30
              exact ⟨(Or.inl (by trivial)), w⟩
            · have t30 : ¬ r28 = 0 := (fun e => c29 ((Jeq gr28 (by decide)).mpr e))
              replace w := w.2 t30
              exact ⟨(Or.inr (by trivial)), w⟩
theorem m176 {X : Cst} {d : Nat} {L j f : Int} {tp : Int → Int} {h : AH} {Q : Post} (C : Lay h) (hd : 3 ≤ d) (K : RkC h tp L j f) (k1 : kwP tp L j → (j < L ∧ leP (tp j)) → ∀ h', Fr TNx h h' → RkC h' tp L j f → Q (some (.int (J 1))) h') (k0 : ¬ kwP tp L j → ∀ h', Fr TNx h h' → RkC h' tp L j f → Q (some (.int (J 0))) h') : Ex X PG d 176 0 [some (.ref 256)] [] h Q := by
  obtain ⟨d, rfl⟩ : ∃ e, d = e + 1 := ⟨d - 1, by omega⟩
  refine r176_0 C ?_
  refine m177s (s := 0) C (by omega) K (by decide) wS0.1 (fun e l h2 F2 K2 e82 => ⟨1, by omega, rfl, F2.1, fun _ => k1 (Or.inl e) l h2 F2 K2, fun z => absurd z (by decide)⟩) (fun e h2 F2 K2 e82 => ⟨0, by omega, rfl, F2.1, fun z => absurd rfl z, fun _ => ?_⟩)
  refine m177s (s := 1) (F2.C C) (by omega) K2 (by decide) wS0.2.1 (fun e1 l h3 F3 K3 e83 => ⟨1, by omega, rfl, F3.1, fun _ => k1 (Or.inr (Or.inl e1)) l h3 (F2.tr F3) K3, fun z => absurd z (by decide)⟩) (fun e1 h3 F3 K3 e83 => ⟨0, by omega, rfl, F3.1, fun z => absurd rfl z, fun _ => ?_⟩)
  have G3 := F2.tr F3
  refine m177s (s := 2) (G3.C C) (by omega) K3 (by decide) wS0.2.2.1 (fun e2 l h4 F4 K4 e84 => ⟨1, by omega, rfl, F4.1, fun _ => k1 (Or.inr (Or.inr (Or.inl e2))) l h4 (G3.tr F4) K4, fun z => absurd z (by decide)⟩) (fun e2 h4 F4 K4 e84 => ⟨0, by omega, rfl, F4.1, fun z => absurd rfl z, fun _ => ?_⟩)
  have G4 := G3.tr F4
  refine m177s (s := 3) (G4.C C) (by omega) K4 (by decide) wS0.2.2.2.1 (fun e3 l h5 F5 K5 e85 => ⟨1, by omega, rfl, F5.1, fun _ => k1 (Or.inr (Or.inr (Or.inr (Or.inl e3)))) l h5 (G4.tr F5) K5, fun z => absurd z (by decide)⟩) (fun e3 h5 F5 K5 e85 => ⟨0, by omega, rfl, F5.1, fun z => absurd rfl z, fun _ => ?_⟩)
  have G5 := G4.tr F5
  refine m177s (s := 4) (G5.C C) (by omega) K5 (by decide) wS0.2.2.2.2.1 (fun e4 l h6 F6 K6 e86 => ⟨1, by omega, rfl, F6.1, fun _ => k1 (Or.inr (Or.inr (Or.inr (Or.inr (Or.inl e4))))) l h6 (G5.tr F6) K6, fun z => absurd z (by decide)⟩) (fun e4 h6 F6 K6 e86 => ⟨0, by omega, rfl, F6.1, fun z => absurd rfl z, fun _ => ?_⟩)
  have G6 := G5.tr F6
  refine m177s (s := 5) (G6.C C) (by omega) K6 (by decide) wS0.2.2.2.2.2 (fun e5 l h7 F7 K7 e87 => ⟨1, by omega, rfl, F7.1, fun z => absurd z (by decide), fun _ => k1 (Or.inr (Or.inr (Or.inr (Or.inr (Or.inr e5))))) l h7 (G6.tr F7) K7⟩) (fun e5 h7 F7 K7 e87 => ⟨0, by omega, rfl, F7.1, fun _ => ?_, fun z => absurd rfl z⟩)
  refine k0 (fun q => ?_) h7 (G6.tr F7) K7
  unfold kwP at q
  rcases q with q | q | q | q | q | q
  · exact e q
  · exact e1 q
  · exact e2 q
  · exact e3 q
  · exact e4 q
  · exact e5 q
def TNc (c k : Nat) : Prop := (c = 256 ∧ (k = 8 ∨ k = 9 ∨ k = 10 ∨ k = 14)) ∨ c = 262
theorem TNr_c {c k : Nat} (z : TNr c k) : TNc c k := by unfold TNr at z; unfold TNc; omega
theorem TNx_c {c k : Nat} (z : TNx c k) : TNc c k := TNr_c (TNx_r z)
def RQc (h : AH) (tp : Int → Int) (L n : Int) (r : RS) (Q : Post) : Prop := (r.1 = 0 → ∀ h', Fr TNc h h' → RkC h' tp L r.2.1 0 → aI h' 262 = r.2.2 → fI h' 256 14 = n + 1 → Q (some (.int (J 1))) h') ∧ (¬ r.1 = 0 → ∀ h', Fr TNc h h' → fI h' 256 9 = r.1 → Q (some (.int (J 0))) h')
theorem RQc.fl {h h2 : AH} {tp : Int → Int} {L j q f n : Int} {Q : Post} (k : RQc h tp L n (fltR f) Q) (F : Fr TNc h h2) (hj : 0 ≤ j ∧ j ≤ 400) (hq : 0 ≤ q ∧ q ≤ 4) (e : f = 1 + 8 * j + q) : Q (some (.int (J 0))) (wF h2 256 9 (1 + 8 * j + q)) := by
  refine k.2 (by show ¬ f = 0; omega) _ (F.wF (Or.inl ⟨rfl, by omega⟩)) ?_
  rw [fI_wF_eq (by omega)]; exact e.symm
-- OutwardDoorsModel.clauseHere()Z at 0
set_option maxRecDepth 20000 in
set_option maxHeartbeats 4000000 in
theorem r174_0 {X : Cst} {d : Nat}  {h : AH} {Q : Post} (C_h : Lay h)
  (w : Ex X PG d 175 0 [some (.ref 256)] [] h (fun v1 h2 => ∃ r3 : Int, (-2147483648 ≤ r3 ∧ r3 < 2147483648) ∧ v1 = some (.int (J r3)) ∧ SH h h2 ∧ ((¬ fI h2 256 11 = 6 → Ex X PG d 177 0 [some (.ref 256), some (.long (26479 : Int64)), none, none, none, none] [] h2 (fun v6 h7 => ∃ r8 : Int, (-2147483648 ≤ r8 ∧ r8 < 2147483648) ∧ v6 = some (.int (J r8)) ∧ SH h2 h7 ∧ ((¬ r8 = 0 → ((¬ fI h7 256 14 = 12 → Ex X PG d 191 0 [some (.ref 256), none] [] (wF h7 256 14 ((fI h7 256 14) + 1)) (fun v13 h14 => ∃ r15 : Int, (-2147483648 ≤ r15 ∧ r15 < 2147483648) ∧ v13 = some (.int (J r15)) ∧ SH (wF h7 256 14 ((fI h7 256 14) + 1)) h14 ∧ (r15 = 0 ∨ r15 = 1) ∧ Q (some (.int (J r15))) h14)) ∧ (fI h7 256 14 = 12 → Ex X PG d 179 0 [some (.ref 256), some (.int (J 4)), some (.int (J (fI h2 256 8)))] [] h7 (fun v23 h24 => ∃ r25 : Int, (-2147483648 ≤ r25 ∧ r25 < 2147483648) ∧ v23 = some (.int (J r25)) ∧ SH h7 h24 ∧ (r25 = 0 ∨ r25 = 1) ∧ Q (some (.int (J r25))) h24)))) ∧ (r8 = 0 → Ex X PG d 179 0 [some (.ref 256), some (.int (J 0)), some (.int (J (fI h2 256 8)))] [] h7 (fun v45 h46 => ∃ r47 : Int, (-2147483648 ≤ r47 ∧ r47 < 2147483648) ∧ v45 = some (.int (J r47)) ∧ SH h7 h46 ∧ (r47 = 0 ∨ r47 = 1) ∧ Q (some (.int (J r47))) h46))))) ∧ (fI h2 256 11 = 6 → Ex X PG d 176 0 [some (.ref 256)] [] h2 (fun v141 h142 => ∃ r143 : Int, (-2147483648 ≤ r143 ∧ r143 < 2147483648) ∧ v141 = some (.int (J r143)) ∧ SH h2 h142 ∧ ((¬ r143 = 0 → ((¬ fI h142 256 14 = 40 → Ex X PG d 180 0 [some (.ref 256), some (.int (J (fI h2 256 8)))] [] (wF h142 256 14 ((fI h142 256 14) + 1)) (fun v170 h171 => ∃ r172 : Int, (-2147483648 ≤ r172 ∧ r172 < 2147483648) ∧ v170 = some (.int (J r172)) ∧ SH (wF h142 256 14 ((fI h142 256 14) + 1)) h171 ∧ (r172 = 0 ∨ r172 = 1) ∧ Q (some (.int (J r172))) h171)) ∧ (fI h142 256 14 = 40 → Ex X PG d 179 0 [some (.ref 256), some (.int (J 4)), some (.int (J (fI h2 256 8)))] [] h142 (fun v175 h176 => ∃ r177 : Int, (-2147483648 ≤ r177 ∧ r177 < 2147483648) ∧ v175 = some (.int (J r177)) ∧ SH h142 h176 ∧ (r177 = 0 ∨ r177 = 1) ∧ Q (some (.int (J r177))) h176)))) ∧ (r143 = 0 → Ex X PG d 179 0 [some (.ref 256), some (.int (J 0)), some (.int (J (fI h2 256 8)))] [] h142 (fun v180 h181 => ∃ r182 : Int, (-2147483648 ≤ r182 ∧ r182 < 2147483648) ∧ v180 = some (.int (J r182)) ∧ SH h142 h181 ∧ (r182 = 0 ∨ r182 = 1) ∧ Q (some (.int (J r182))) h181)))))))) :
    Ex X PG (d + 1) 174 0 [some (.ref 256), none, none] [] h Q := by
  refine wpx_ok (cut := []) 39 d 174 0 _ _ _ _ ?_
  show hs h 256 = (0, 11) ∧ Ex X PG d 175 0 [some (.ref 256)] [] h (fun v1 h2 => ∃ r3, v1 = some (.int r3) ∧ hs h2 256 = (0, 11) ∧ hs h2 256 = (0, 11) ∧ ((¬ (hF h2 256 11) = (J 6) → (((J 0) = (J 0) → hs h2 256 = (0, 11) ∧ Ex X PG d 177 0 [some (.ref 256), some (.long (26479 : Int64)), none, none, none, none] [] h2 (fun v6 h7 => ∃ r8, v6 = some (.int r8) ∧ ((¬ r8 = (J 0) → hs h7 256 = (0, 11) ∧ (((J 0) = (J 0) → ((¬ (hF h7 256 14) = (J 12) → hs h7 256 = (0, 11) ∧ hs h7 256 = (0, 11) ∧ (((J 0) = (J 0) → hs (wG h7 256 14 ((hF h7 256 14) + (J 1))) 256 = (0, 11) ∧ Ex X PG d 191 0 [some (.ref 256), none] [] (wG h7 256 14 ((hF h7 256 14) + (J 1))) (fun v13 h14 => ∃ r15, v13 = some (.int r15) ∧ (r15 = J 0 ∨ r15 = J 1) ∧ Q (some (.int r15)) h14)) ∧ (¬ ((J 0) = (J 0)) → hs (wG h7 256 14 ((hF h7 256 14) + (J 1))) 256 = (0, 11) ∧ Ex X PG d 180 0 [some (.ref 256), some (.int (hF h2 256 8))] [] (wG h7 256 14 ((hF h7 256 14) + (J 1))) (fun v18 h19 => ∃ r20, v18 = some (.int r20) ∧ (r20 = J 0 ∨ r20 = J 1) ∧ Q (some (.int r20)) h19)))) ∧ (¬ (¬ (hF h7 256 14) = (J 12)) → hs h7 256 = (0, 11) ∧ Ex X PG d 179 0 [some (.ref 256), some (.int (J 4)), some (.int (hF h2 256 8))] [] h7 (fun v23 h24 => ∃ r25, v23 = some (.int r25) ∧ (r25 = J 0 ∨ r25 = J 1) ∧ Q (some (.int r25)) h24)))) ∧ (¬ ((J 0) = (J 0)) → ((¬ (hF h7 256 14) = (J 40) → hs h7 256 = (0, 11) ∧ hs h7 256 = (0, 11) ∧ (((J 0) = (J 0) → hs (wG h7 256 14 ((hF h7 256 14) + (J 1))) 256 = (0, 11) ∧ Ex X PG d 191 0 [some (.ref 256), none] [] (wG h7 256 14 ((hF h7 256 14) + (J 1))) (fun v30 h31 => ∃ r32, v30 = some (.int r32) ∧ (r32 = J 0 ∨ r32 = J 1) ∧ Q (some (.int r32)) h31)) ∧ (¬ ((J 0) = (J 0)) → hs (wG h7 256 14 ((hF h7 256 14) + (J 1))) 256 = (0, 11) ∧ Ex X PG d 180 0 [some (.ref 256), some (.int (hF h2 256 8))] [] (wG h7 256 14 ((hF h7 256 14) + (J 1))) (fun v35 h36 => ∃ r37, v35 = some (.int r37) ∧ (r37 = J 0 ∨ r37 = J 1) ∧ Q (some (.int r37)) h36)))) ∧ (¬ (¬ (hF h7 256 14) = (J 40)) → hs h7 256 = (0, 11) ∧ Ex X PG d 179 0 [some (.ref 256), some (.int (J 4)), some (.int (hF h2 256 8))] [] h7 (fun v40 h41 => ∃ r42, v40 = some (.int r42) ∧ (r42 = J 0 ∨ r42 = J 1) ∧ Q (some (.int r42)) h41)))))) ∧ (¬ (¬ r8 = (J 0)) → hs h7 256 = (0, 11) ∧ Ex X PG d 179 0 [some (.ref 256), some (.int (J 0)), some (.int (hF h2 256 8))] [] h7 (fun v45 h46 => ∃ r47, v45 = some (.int r47) ∧ (r47 = J 0 ∨ r47 = J 1) ∧ Q (some (.int r47)) h46))))) ∧ (¬ ((J 0) = (J 0)) → hs h2 256 = (0, 11) ∧ Ex X PG d 176 0 [some (.ref 256)] [] h2 (fun v51 h52 => ∃ r53, v51 = some (.int r53) ∧ ((¬ r53 = (J 0) → hs h52 256 = (0, 11) ∧ (((J 0) = (J 0) → ((¬ (hF h52 256 14) = (J 12) → hs h52 256 = (0, 11) ∧ hs h52 256 = (0, 11) ∧ (((J 0) = (J 0) → hs (wG h52 256 14 ((hF h52 256 14) + (J 1))) 256 = (0, 11) ∧ Ex X PG d 191 0 [some (.ref 256), none] [] (wG h52 256 14 ((hF h52 256 14) + (J 1))) (fun v58 h59 => ∃ r60, v58 = some (.int r60) ∧ (r60 = J 0 ∨ r60 = J 1) ∧ Q (some (.int r60)) h59)) ∧ (¬ ((J 0) = (J 0)) → hs (wG h52 256 14 ((hF h52 256 14) + (J 1))) 256 = (0, 11) ∧ Ex X PG d 180 0 [some (.ref 256), some (.int (hF h2 256 8))] [] (wG h52 256 14 ((hF h52 256 14) + (J 1))) (fun v63 h64 => ∃ r65, v63 = some (.int r65) ∧ (r65 = J 0 ∨ r65 = J 1) ∧ Q (some (.int r65)) h64)))) ∧ (¬ (¬ (hF h52 256 14) = (J 12)) → hs h52 256 = (0, 11) ∧ Ex X PG d 179 0 [some (.ref 256), some (.int (J 4)), some (.int (hF h2 256 8))] [] h52 (fun v68 h69 => ∃ r70, v68 = some (.int r70) ∧ (r70 = J 0 ∨ r70 = J 1) ∧ Q (some (.int r70)) h69)))) ∧ (¬ ((J 0) = (J 0)) → ((¬ (hF h52 256 14) = (J 40) → hs h52 256 = (0, 11) ∧ hs h52 256 = (0, 11) ∧ (((J 0) = (J 0) → hs (wG h52 256 14 ((hF h52 256 14) + (J 1))) 256 = (0, 11) ∧ Ex X PG d 191 0 [some (.ref 256), none] [] (wG h52 256 14 ((hF h52 256 14) + (J 1))) (fun v75 h76 => ∃ r77, v75 = some (.int r77) ∧ (r77 = J 0 ∨ r77 = J 1) ∧ Q (some (.int r77)) h76)) ∧ (¬ ((J 0) = (J 0)) → hs (wG h52 256 14 ((hF h52 256 14) + (J 1))) 256 = (0, 11) ∧ Ex X PG d 180 0 [some (.ref 256), some (.int (hF h2 256 8))] [] (wG h52 256 14 ((hF h52 256 14) + (J 1))) (fun v80 h81 => ∃ r82, v80 = some (.int r82) ∧ (r82 = J 0 ∨ r82 = J 1) ∧ Q (some (.int r82)) h81)))) ∧ (¬ (¬ (hF h52 256 14) = (J 40)) → hs h52 256 = (0, 11) ∧ Ex X PG d 179 0 [some (.ref 256), some (.int (J 4)), some (.int (hF h2 256 8))] [] h52 (fun v85 h86 => ∃ r87, v85 = some (.int r87) ∧ (r87 = J 0 ∨ r87 = J 1) ∧ Q (some (.int r87)) h86)))))) ∧ (¬ (¬ r53 = (J 0)) → hs h52 256 = (0, 11) ∧ Ex X PG d 179 0 [some (.ref 256), some (.int (J 0)), some (.int (hF h2 256 8))] [] h52 (fun v90 h91 => ∃ r92, v90 = some (.int r92) ∧ (r92 = J 0 ∨ r92 = J 1) ∧ Q (some (.int r92)) h91))))))) ∧ (¬ (¬ (hF h2 256 11) = (J 6)) → (((J 1) = (J 0) → hs h2 256 = (0, 11) ∧ Ex X PG d 177 0 [some (.ref 256), some (.long (26479 : Int64)), none, none, none, none] [] h2 (fun v96 h97 => ∃ r98, v96 = some (.int r98) ∧ ((¬ r98 = (J 0) → hs h97 256 = (0, 11) ∧ (((J 1) = (J 0) → ((¬ (hF h97 256 14) = (J 12) → hs h97 256 = (0, 11) ∧ hs h97 256 = (0, 11) ∧ (((J 1) = (J 0) → hs (wG h97 256 14 ((hF h97 256 14) + (J 1))) 256 = (0, 11) ∧ Ex X PG d 191 0 [some (.ref 256), none] [] (wG h97 256 14 ((hF h97 256 14) + (J 1))) (fun v103 h104 => ∃ r105, v103 = some (.int r105) ∧ (r105 = J 0 ∨ r105 = J 1) ∧ Q (some (.int r105)) h104)) ∧ (¬ ((J 1) = (J 0)) → hs (wG h97 256 14 ((hF h97 256 14) + (J 1))) 256 = (0, 11) ∧ Ex X PG d 180 0 [some (.ref 256), some (.int (hF h2 256 8))] [] (wG h97 256 14 ((hF h97 256 14) + (J 1))) (fun v108 h109 => ∃ r110, v108 = some (.int r110) ∧ (r110 = J 0 ∨ r110 = J 1) ∧ Q (some (.int r110)) h109)))) ∧ (¬ (¬ (hF h97 256 14) = (J 12)) → hs h97 256 = (0, 11) ∧ Ex X PG d 179 0 [some (.ref 256), some (.int (J 4)), some (.int (hF h2 256 8))] [] h97 (fun v113 h114 => ∃ r115, v113 = some (.int r115) ∧ (r115 = J 0 ∨ r115 = J 1) ∧ Q (some (.int r115)) h114)))) ∧ (¬ ((J 1) = (J 0)) → ((¬ (hF h97 256 14) = (J 40) → hs h97 256 = (0, 11) ∧ hs h97 256 = (0, 11) ∧ (((J 1) = (J 0) → hs (wG h97 256 14 ((hF h97 256 14) + (J 1))) 256 = (0, 11) ∧ Ex X PG d 191 0 [some (.ref 256), none] [] (wG h97 256 14 ((hF h97 256 14) + (J 1))) (fun v120 h121 => ∃ r122, v120 = some (.int r122) ∧ (r122 = J 0 ∨ r122 = J 1) ∧ Q (some (.int r122)) h121)) ∧ (¬ ((J 1) = (J 0)) → hs (wG h97 256 14 ((hF h97 256 14) + (J 1))) 256 = (0, 11) ∧ Ex X PG d 180 0 [some (.ref 256), some (.int (hF h2 256 8))] [] (wG h97 256 14 ((hF h97 256 14) + (J 1))) (fun v125 h126 => ∃ r127, v125 = some (.int r127) ∧ (r127 = J 0 ∨ r127 = J 1) ∧ Q (some (.int r127)) h126)))) ∧ (¬ (¬ (hF h97 256 14) = (J 40)) → hs h97 256 = (0, 11) ∧ Ex X PG d 179 0 [some (.ref 256), some (.int (J 4)), some (.int (hF h2 256 8))] [] h97 (fun v130 h131 => ∃ r132, v130 = some (.int r132) ∧ (r132 = J 0 ∨ r132 = J 1) ∧ Q (some (.int r132)) h131)))))) ∧ (¬ (¬ r98 = (J 0)) → hs h97 256 = (0, 11) ∧ Ex X PG d 179 0 [some (.ref 256), some (.int (J 0)), some (.int (hF h2 256 8))] [] h97 (fun v135 h136 => ∃ r137, v135 = some (.int r137) ∧ (r137 = J 0 ∨ r137 = J 1) ∧ Q (some (.int r137)) h136))))) ∧ (¬ ((J 1) = (J 0)) → hs h2 256 = (0, 11) ∧ Ex X PG d 176 0 [some (.ref 256)] [] h2 (fun v141 h142 => ∃ r143, v141 = some (.int r143) ∧ ((¬ r143 = (J 0) → hs h142 256 = (0, 11) ∧ (((J 1) = (J 0) → ((¬ (hF h142 256 14) = (J 12) → hs h142 256 = (0, 11) ∧ hs h142 256 = (0, 11) ∧ (((J 1) = (J 0) → hs (wG h142 256 14 ((hF h142 256 14) + (J 1))) 256 = (0, 11) ∧ Ex X PG d 191 0 [some (.ref 256), none] [] (wG h142 256 14 ((hF h142 256 14) + (J 1))) (fun v148 h149 => ∃ r150, v148 = some (.int r150) ∧ (r150 = J 0 ∨ r150 = J 1) ∧ Q (some (.int r150)) h149)) ∧ (¬ ((J 1) = (J 0)) → hs (wG h142 256 14 ((hF h142 256 14) + (J 1))) 256 = (0, 11) ∧ Ex X PG d 180 0 [some (.ref 256), some (.int (hF h2 256 8))] [] (wG h142 256 14 ((hF h142 256 14) + (J 1))) (fun v153 h154 => ∃ r155, v153 = some (.int r155) ∧ (r155 = J 0 ∨ r155 = J 1) ∧ Q (some (.int r155)) h154)))) ∧ (¬ (¬ (hF h142 256 14) = (J 12)) → hs h142 256 = (0, 11) ∧ Ex X PG d 179 0 [some (.ref 256), some (.int (J 4)), some (.int (hF h2 256 8))] [] h142 (fun v158 h159 => ∃ r160, v158 = some (.int r160) ∧ (r160 = J 0 ∨ r160 = J 1) ∧ Q (some (.int r160)) h159)))) ∧ (¬ ((J 1) = (J 0)) → ((¬ (hF h142 256 14) = (J 40) → hs h142 256 = (0, 11) ∧ hs h142 256 = (0, 11) ∧ (((J 1) = (J 0) → hs (wG h142 256 14 ((hF h142 256 14) + (J 1))) 256 = (0, 11) ∧ Ex X PG d 191 0 [some (.ref 256), none] [] (wG h142 256 14 ((hF h142 256 14) + (J 1))) (fun v165 h166 => ∃ r167, v165 = some (.int r167) ∧ (r167 = J 0 ∨ r167 = J 1) ∧ Q (some (.int r167)) h166)) ∧ (¬ ((J 1) = (J 0)) → hs (wG h142 256 14 ((hF h142 256 14) + (J 1))) 256 = (0, 11) ∧ Ex X PG d 180 0 [some (.ref 256), some (.int (hF h2 256 8))] [] (wG h142 256 14 ((hF h142 256 14) + (J 1))) (fun v170 h171 => ∃ r172, v170 = some (.int r172) ∧ (r172 = J 0 ∨ r172 = J 1) ∧ Q (some (.int r172)) h171)))) ∧ (¬ (¬ (hF h142 256 14) = (J 40)) → hs h142 256 = (0, 11) ∧ Ex X PG d 179 0 [some (.ref 256), some (.int (J 4)), some (.int (hF h2 256 8))] [] h142 (fun v175 h176 => ∃ r177, v175 = some (.int r177) ∧ (r177 = J 0 ∨ r177 = J 1) ∧ Q (some (.int r177)) h176)))))) ∧ (¬ (¬ r143 = (J 0)) → hs h142 256 = (0, 11) ∧ Ex X PG d 179 0 [some (.ref 256), some (.int (J 0)), some (.int (hF h2 256 8))] [] h142 (fun v180 h181 => ∃ r182, v180 = some (.int r182) ∧ (r182 = J 0 ∨ r182 = J 1) ∧ Q (some (.int r182)) h181)))))))))
  try simp only [aI_wAL, fI_wAL, aL_wA, aL_wF, aI_wA_ne, aI_wF_ne, fI_wA_ne, fI_wF_ne, fI_wF_nk, aL_wAL_ne, J_sameA, J_sameF, aL_same, Nat.add_left_cancel_iff, Nat.add_eq_left, Nat.left_eq_add, not_false_eq_true, Nat.reduceEqDiff, Nat.reduceAdd, J_add, J_sub, J_mul, J_neg, J_and, J_or, J_xor, J_shl, J_shr, J_div, J_i2b, J_i2l, J_l2i, J_lcm, J_max, J_min, J_nab, J_nao, rdA, rdF, rdL, wA_fold, wF_fold, wL_fold, wC_fold]
  refine ⟨(ls256 C_h), ?_⟩
  refine Ex.mono w (Nat.le_refl _) ?_
  rintro v1 h2 ⟨r3, gr3, rfl, s186, w⟩
  refine ⟨_, rfl, ?_⟩
  have C_h2 := Lay_SH s186 C_h
  try simp only [aI_wAL, fI_wAL, aL_wA, aL_wF, aI_wA_ne, aI_wF_ne, fI_wA_ne, fI_wF_ne, fI_wF_nk, aL_wAL_ne, J_sameA, J_sameF, aL_same, Nat.add_left_cancel_iff, Nat.add_eq_left, Nat.left_eq_add, not_false_eq_true, Nat.reduceEqDiff, Nat.reduceAdd, J_add, J_sub, J_mul, J_neg, J_and, J_or, J_xor, J_shl, J_shr, J_div, J_i2b, J_i2l, J_l2i, J_lcm, J_max, J_min, J_nab, J_nao, rdA, rdF, rdL, wA_fold, wF_fold, wL_fold, wC_fold]
  refine ⟨(ls256 C_h2), ?_⟩
  refine ⟨(ls256 C_h2), ?_⟩
  refine ⟨fun c4 => ?_, fun c4 => ?_⟩
  · have t5 : ¬ fI h2 256 11 = 6 := (fun e => c4 ((Jeq (rg_toInt _) (by decide)).mpr e))
    replace w := w.1 t5
    refine ⟨fun _ => ?_, fun c => absurd (by decide) c⟩
    refine ⟨(ls256 C_h2), ?_⟩
    refine Ex.mono w (Nat.le_refl _) ?_
    rintro v6 h7 ⟨r8, gr8, rfl, s50, w⟩
    refine ⟨_, rfl, ?_⟩
    have C_h7 := Lay_SH s50 C_h2
    try simp only [aI_wAL, fI_wAL, aL_wA, aL_wF, aI_wA_ne, aI_wF_ne, fI_wA_ne, fI_wF_ne, fI_wF_nk, aL_wAL_ne, J_sameA, J_sameF, aL_same, Nat.add_left_cancel_iff, Nat.add_eq_left, Nat.left_eq_add, not_false_eq_true, Nat.reduceEqDiff, Nat.reduceAdd, J_add, J_sub, J_mul, J_neg, J_and, J_or, J_xor, J_shl, J_shr, J_div, J_i2b, J_i2l, J_l2i, J_lcm, J_max, J_min, J_nab, J_nao, rdA, rdF, rdL, wA_fold, wF_fold, wL_fold, wC_fold]
    refine ⟨fun c9 => ?_, fun c9 => ?_⟩
    · have t10 : ¬ r8 = 0 := (fun e => c9 ((Jeq gr8 (by decide)).mpr e))
      replace w := w.1 t10
      refine ⟨(ls256 C_h7), ?_⟩
      refine ⟨fun _ => ?_, fun c => absurd (by decide) c⟩
      refine ⟨fun c11 => ?_, fun c11 => ?_⟩
      · have t12 : ¬ fI h7 256 14 = 12 := (fun e => c11 ((Jeq (rg_toInt _) (by decide)).mpr e))
        replace w := w.1 t12
        refine ⟨(ls256 C_h7), ?_⟩
        refine ⟨(ls256 C_h7), ?_⟩
        refine ⟨fun _ => ?_, fun c => absurd (by decide) c⟩
        refine ⟨(ls256 C_h7), ?_⟩
        refine Ex.mono w (Nat.le_refl _) ?_
        rintro v13 h14 ⟨r15, gr15, rfl, s17, w⟩
        refine ⟨_, rfl, ?_⟩
        have C_h14 := Lay_SH s17 C_h7
        try simp only [aI_wAL, fI_wAL, aL_wA, aL_wF, aI_wA_ne, aI_wF_ne, fI_wA_ne, fI_wF_ne, fI_wF_nk, aL_wAL_ne, J_sameA, J_sameF, aL_same, Nat.add_left_cancel_iff, Nat.add_eq_left, Nat.left_eq_add, not_false_eq_true, Nat.reduceEqDiff, Nat.reduceAdd, J_add, J_sub, J_mul, J_neg, J_and, J_or, J_xor, J_shl, J_shr, J_div, J_i2b, J_i2l, J_l2i, J_lcm, J_max, J_min, J_nab, J_nao, rdA, rdF, rdL, wA_fold, wF_fold, wL_fold, wC_fold]
        obtain ⟨k16, w⟩ := w
        exact ⟨(k16.imp (congrArg J) (congrArg J)), w⟩
      · have t12 : fI h7 256 14 = 12 := ((Jeq (rg_toInt _) (by decide)).mp (Classical.byContradiction c11))
        replace w := w.2 t12
        refine ⟨(ls256 C_h7), ?_⟩
        refine Ex.mono w (Nat.le_refl _) ?_
        rintro v23 h24 ⟨r25, gr25, rfl, s27, w⟩
        refine ⟨_, rfl, ?_⟩
        have C_h24 := Lay_SH s27 C_h7
        try simp only [aI_wAL, fI_wAL, aL_wA, aL_wF, aI_wA_ne, aI_wF_ne, fI_wA_ne, fI_wF_ne, fI_wF_nk, aL_wAL_ne, J_sameA, J_sameF, aL_same, Nat.add_left_cancel_iff, Nat.add_eq_left, Nat.left_eq_add, not_false_eq_true, Nat.reduceEqDiff, Nat.reduceAdd, J_add, J_sub, J_mul, J_neg, J_and, J_or, J_xor, J_shl, J_shr, J_div, J_i2b, J_i2l, J_l2i, J_lcm, J_max, J_min, J_nab, J_nao, rdA, rdF, rdL, wA_fold, wF_fold, wL_fold, wC_fold]
        obtain ⟨k26, w⟩ := w
        exact ⟨(k26.imp (congrArg J) (congrArg J)), w⟩
    · have t10 : r8 = 0 := ((Jeq gr8 (by decide)).mp (Classical.byContradiction c9))
      replace w := w.2 t10
      refine ⟨(ls256 C_h7), ?_⟩
      refine Ex.mono w (Nat.le_refl _) ?_
      rintro v45 h46 ⟨r47, gr47, rfl, s49, w⟩
      refine ⟨_, rfl, ?_⟩
      have C_h46 := Lay_SH s49 C_h7
      try simp only [aI_wAL, fI_wAL, aL_wA, aL_wF, aI_wA_ne, aI_wF_ne, fI_wA_ne, fI_wF_ne, fI_wF_nk, aL_wAL_ne, J_sameA, J_sameF, aL_same, Nat.add_left_cancel_iff, Nat.add_eq_left, Nat.left_eq_add, not_false_eq_true, Nat.reduceEqDiff, Nat.reduceAdd, J_add, J_sub, J_mul, J_neg, J_and, J_or, J_xor, J_shl, J_shr, J_div, J_i2b, J_i2l, J_l2i, J_lcm, J_max, J_min, J_nab, J_nao, rdA, rdF, rdL, wA_fold, wF_fold, wL_fold, wC_fold]
      obtain ⟨k48, w⟩ := w
      exact ⟨(k48.imp (congrArg J) (congrArg J)), w⟩
  · have t5 : fI h2 256 11 = 6 := ((Jeq (rg_toInt _) (by decide)).mp (Classical.byContradiction c4))
    replace w := w.2 t5
    refine ⟨fun c => absurd c (by decide), fun _ => ?_⟩
    refine ⟨(ls256 C_h2), ?_⟩
    refine Ex.mono w (Nat.le_refl _) ?_
    rintro v141 h142 ⟨r143, gr143, rfl, s185, w⟩
    refine ⟨_, rfl, ?_⟩
    have C_h142 := Lay_SH s185 C_h2
    try simp only [aI_wAL, fI_wAL, aL_wA, aL_wF, aI_wA_ne, aI_wF_ne, fI_wA_ne, fI_wF_ne, fI_wF_nk, aL_wAL_ne, J_sameA, J_sameF, aL_same, Nat.add_left_cancel_iff, Nat.add_eq_left, Nat.left_eq_add, not_false_eq_true, Nat.reduceEqDiff, Nat.reduceAdd, J_add, J_sub, J_mul, J_neg, J_and, J_or, J_xor, J_shl, J_shr, J_div, J_i2b, J_i2l, J_l2i, J_lcm, J_max, J_min, J_nab, J_nao, rdA, rdF, rdL, wA_fold, wF_fold, wL_fold, wC_fold]
    refine ⟨fun c144 => ?_, fun c144 => ?_⟩
    · have t145 : ¬ r143 = 0 := (fun e => c144 ((Jeq gr143 (by decide)).mpr e))
      replace w := w.1 t145
      refine ⟨(ls256 C_h142), ?_⟩
      refine ⟨fun c => absurd c (by decide), fun _ => ?_⟩
      refine ⟨fun c163 => ?_, fun c163 => ?_⟩
      · have t164 : ¬ fI h142 256 14 = 40 := (fun e => c163 ((Jeq (rg_toInt _) (by decide)).mpr e))
        replace w := w.1 t164
        refine ⟨(ls256 C_h142), ?_⟩
        refine ⟨(ls256 C_h142), ?_⟩
        refine ⟨fun c => absurd c (by decide), fun _ => ?_⟩
        refine ⟨(ls256 C_h142), ?_⟩
        refine Ex.mono w (Nat.le_refl _) ?_
        rintro v170 h171 ⟨r172, gr172, rfl, s174, w⟩
        refine ⟨_, rfl, ?_⟩
        have C_h171 := Lay_SH s174 C_h142
        try simp only [aI_wAL, fI_wAL, aL_wA, aL_wF, aI_wA_ne, aI_wF_ne, fI_wA_ne, fI_wF_ne, fI_wF_nk, aL_wAL_ne, J_sameA, J_sameF, aL_same, Nat.add_left_cancel_iff, Nat.add_eq_left, Nat.left_eq_add, not_false_eq_true, Nat.reduceEqDiff, Nat.reduceAdd, J_add, J_sub, J_mul, J_neg, J_and, J_or, J_xor, J_shl, J_shr, J_div, J_i2b, J_i2l, J_l2i, J_lcm, J_max, J_min, J_nab, J_nao, rdA, rdF, rdL, wA_fold, wF_fold, wL_fold, wC_fold]
        obtain ⟨k173, w⟩ := w
        exact ⟨(k173.imp (congrArg J) (congrArg J)), w⟩
      · have t164 : fI h142 256 14 = 40 := ((Jeq (rg_toInt _) (by decide)).mp (Classical.byContradiction c163))
        replace w := w.2 t164
        refine ⟨(ls256 C_h142), ?_⟩
        refine Ex.mono w (Nat.le_refl _) ?_
        rintro v175 h176 ⟨r177, gr177, rfl, s179, w⟩
        refine ⟨_, rfl, ?_⟩
        have C_h176 := Lay_SH s179 C_h142
        try simp only [aI_wAL, fI_wAL, aL_wA, aL_wF, aI_wA_ne, aI_wF_ne, fI_wA_ne, fI_wF_ne, fI_wF_nk, aL_wAL_ne, J_sameA, J_sameF, aL_same, Nat.add_left_cancel_iff, Nat.add_eq_left, Nat.left_eq_add, not_false_eq_true, Nat.reduceEqDiff, Nat.reduceAdd, J_add, J_sub, J_mul, J_neg, J_and, J_or, J_xor, J_shl, J_shr, J_div, J_i2b, J_i2l, J_l2i, J_lcm, J_max, J_min, J_nab, J_nao, rdA, rdF, rdL, wA_fold, wF_fold, wL_fold, wC_fold]
        obtain ⟨k178, w⟩ := w
        exact ⟨(k178.imp (congrArg J) (congrArg J)), w⟩
    · have t145 : r143 = 0 := ((Jeq gr143 (by decide)).mp (Classical.byContradiction c144))
      replace w := w.2 t145
      refine ⟨(ls256 C_h142), ?_⟩
      refine Ex.mono w (Nat.le_refl _) ?_
      rintro v180 h181 ⟨r182, gr182, rfl, s184, w⟩
      refine ⟨_, rfl, ?_⟩
      have C_h181 := Lay_SH s184 C_h142
      try simp only [aI_wAL, fI_wAL, aL_wA, aL_wF, aI_wA_ne, aI_wF_ne, fI_wA_ne, fI_wF_ne, fI_wF_nk, aL_wAL_ne, J_sameA, J_sameF, aL_same, Nat.add_left_cancel_iff, Nat.add_eq_left, Nat.left_eq_add, not_false_eq_true, Nat.reduceEqDiff, Nat.reduceAdd, J_add, J_sub, J_mul, J_neg, J_and, J_or, J_xor, J_shl, J_shr, J_div, J_i2b, J_i2l, J_l2i, J_lcm, J_max, J_min, J_nab, J_nao, rdA, rdF, rdL, wA_fold, wF_fold, wL_fold, wC_fold]
      obtain ⟨k183, w⟩ := w
      exact ⟨(k183.imp (congrArg J) (congrArg J)), w⟩
theorem m174c {X : Cst} {d : Nat} {L j n : Int} {tp R : Int → Int} {h : AH} {Q : Post} (C : Lay h) (hd : 6 ≤ d) (K : RkC h tp L j 0) (e11 : fI h 256 11 = 6) (e14 : fI h 256 14 = n) (eR : aI h 262 = R) (I : CI n R) (k : RQc h tp L n (cCl tp L j n R) Q) : Ex X PG d 174 0 [some (.ref 256), none, none] [] h Q := by
  obtain ⟨d, rfl⟩ : ∃ e, d = e + 1 := ⟨d - 1, by omega⟩
  have kj := K.j
  obtain ⟨I0, I1, _⟩ := I
  unfold cCl at k
  refine r174_0 C ?_
  refine m175 C (by omega) K (fun h2 F2 K2 e82 => ⟨_, ?_, rfl, F2.1, ?_⟩)
  · unfold seeV
    by_cases c : j < L
    · rw [pI_pos c]; exact rg_toInt _
    · rw [pI_neg c]; omega
  have e11' : fI h2 256 11 = 6 := (F2.f 256 11 (by unfold TNx; omega)).trans e11
  refine ⟨fun z => absurd e11' z, fun _ => ?_⟩
  rw [e82]
  refine m176 (F2.C C) (by omega) K2 (fun y l h3 F3 K3 => ⟨1, by omega, rfl, F3.1, fun _ => ?_, fun z => absurd z (by decide)⟩) (fun y h3 F3 K3 => ⟨0, by omega, rfl, F3.1, fun z => absurd rfl z, fun _ => ?_⟩)
  · have G := F2.tr F3
    rw [pI_pos y] at k
    have e14' : fI h3 256 14 = n := (G.f 256 14 (by unfold TNx; omega)).trans e14
    rw [e14']
    refine ⟨fun c => ?_, fun c => ?_⟩
    · rw [pI_neg c] at k
      have Fw : Fr (fun c k => c = 256 ∧ k = 14) h3 (wF h3 256 14 (n + 1)) := Fr.rf.wF ⟨rfl, rfl⟩
      have Gw : Fr TNc h (wF h3 256 14 (n + 1)) := (G.mo (fun _ _ => TNx_c)).wF (by unfold TNc; omega)
      refine m180 (Fw.C (G.C C)) (by omega) (K3.fr Fw (by omega) (by omega) (by omega) (by omega)) l (R := R) ?_ (by omega) (by omega) (by omega) ⟨fun e h4 F4 K4 a4 => ⟨1, by omega, rfl, F4.1, Or.inr rfl, ?_⟩, fun e h4 F4 a4 => ⟨0, by omega, rfl, F4.1, Or.inl rfl, ?_⟩⟩
      · exact ((Fw.a 262 (by omega)).trans (G.a 262 (fun k => by unfold TNx; omega))).trans eR
      · exact k.1 e h4 (Gw.tr (F4.mo (fun _ _ => TNr_c))) K4 a4 (by rw [F4.f 256 14 (by unfold TNr; omega), fI_wF_eq (by omega)])
      · exact k.2 e h4 (Gw.tr (F4.mo (fun _ _ => TNr_c))) a4
    · rw [pI_pos c] at k
      exact m179 (G.C C) (by omega) K3.2.2.2.2 ⟨0, by omega, rfl, SH.rf.wF, Or.inl rfl, k.fl (G.mo (fun _ _ => TNx_c)) (by omega) (by omega) rfl⟩
  · have G := F2.tr F3
    rw [pI_neg y] at k
    exact m179 (G.C C) (by omega) K3.2.2.2.2 ⟨0, by omega, rfl, SH.rf.wF, Or.inl rfl, k.fl (G.mo (fun _ _ => TNx_c)) (by omega) (by omega) (by omega)⟩
