/-! THE REFERENCE: passes. -/
-- OutwardDoorsModel.passes()I at 0
set_option maxRecDepth 20000 in
set_option maxHeartbeats 4000000 in
theorem r233_0 {X : Cst} {d : Nat}  {h : AH} {Q : Post} (C_h : Lay h)
  (w : Ex X PG (d + 1) 233 4 [some (.ref 256), some (.int (J 0)), some (.int (J 0)), none] [] h Q) :
    Ex X PG (d + 1) 233 0 [some (.ref 256), none, none, none] [] h Q := by
  refine wpx_ok (cut := [4, 27, 80, 92]) 4 d 233 0 _ _ _ _ ?_
  show Ex X PG (d + 1) 233 4 [some (.ref 256), some (.int (J 0)), some (.int (J 0)), none] [] h Q
  try simp only [aI_wAL, fI_wAL, aL_wA, aL_wF, aI_wA_ne, aI_wF_ne, fI_wA_ne, fI_wF_ne, fI_wF_nk, aL_wAL_ne, J_sameA, J_sameF, aL_same, Nat.add_left_cancel_iff, Nat.add_eq_left, Nat.left_eq_add, not_false_eq_true, Nat.reduceEqDiff, Nat.reduceAdd, J_add, J_sub, J_mul, J_neg, J_and, J_or, J_xor, J_shl, J_shr, J_div, J_i2b, J_i2l, J_l2i, J_lcm, J_max, J_min, J_nab, J_nao, rdA, rdF, rdL, wA_fold, wF_fold, wL_fold, wC_fold]
  exact w
-- OutwardDoorsModel.passes()I at 4
set_option maxRecDepth 20000 in
set_option maxHeartbeats 4000000 in
theorem r233_4 {X : Cst} {d : Nat} {x1 : Int} {x2 : Int} {l3 : Option Value} {h : AH} {Q : Post} (C_h : Lay h)
  (w : (-2147483648 ≤ x2 ∧ x2 < 2147483648) ∧ ((aI h 266 2 ≤ x2 → Ex X PG (d + 1) 233 27 [some (.ref 256), some (.int (J x1)), some (.int (J 0)), l3] [] h Q) ∧ (¬ aI h 266 2 ≤ x2 → Ex X PG d 234 0 [some (.ref 256), some (.int (J x2)), none, none, none, none] [] h (fun v5 h6 => v5 = none ∧ SH h h6 ∧ Ex X PG (d + 1) 233 4 [some (.ref 256), some (.int (J x1)), some (.int (J (x2 + 1))), l3] [] h6 Q)))) :
    Ex X PG (d + 1) 233 4 [some (.ref 256), some (.int (J x1)), some (.int (J x2)), l3] [] h Q := by
  refine wpx_ok (cut := [4, 27, 80, 92]) 11 d 233 4 _ _ _ _ ?_
  show hs h 256 = (0, 11) ∧ ∃ q1, hR h 256 20 = some q1 ∧ (hs h q1).1 = 1 ∧ ix (J 2) (hs h q1).2 ∧ (((hI h q1 (Int32.toNatClampNeg (J 2))) ≤ (J x2) → Ex X PG (d + 1) 233 27 [some (.ref 256), some (.int (J x1)), some (.int (J 0)), l3] [] h Q) ∧ (¬ ((hI h q1 (Int32.toNatClampNeg (J 2))) ≤ (J x2)) → hs h 256 = (0, 11) ∧ Ex X PG d 234 0 [some (.ref 256), some (.int (J x2)), none, none, none, none] [] h (fun v5 h6 => v5 = none ∧ Ex X PG (d + 1) 233 4 [some (.ref 256), some (.int (J x1)), some (.int ((J x2) + (J 1))), l3] [] h6 Q)))
  try simp only [aI_wAL, fI_wAL, aL_wA, aL_wF, aI_wA_ne, aI_wF_ne, fI_wA_ne, fI_wF_ne, fI_wF_nk, aL_wAL_ne, J_sameA, J_sameF, aL_same, Nat.add_left_cancel_iff, Nat.add_eq_left, Nat.left_eq_add, not_false_eq_true, Nat.reduceEqDiff, Nat.reduceAdd, J_add, J_sub, J_mul, J_neg, J_and, J_or, J_xor, J_shl, J_shr, J_div, J_i2b, J_i2l, J_l2i, J_lcm, J_max, J_min, J_nab, J_nao, rdA, rdF, rdL, wA_fold, wF_fold, wL_fold, wC_fold]
  refine ⟨(ls256 C_h), _, (lr256_20 C_h), ?_⟩
  refine ⟨congrArg Prod.fst (ls266 C_h), ixs (ls266 C_h) (by decide) (by decide), ?_⟩
  obtain ⟨k4, w⟩ := w
  refine ⟨fun c2 => ?_, fun c2 => ?_⟩
  · have t3 : aI h 266 2 ≤ x2 := ((Jle (rg_toInt _) k4).mp c2)
    replace w := w.1 t3
    exact w
  · have t3 : ¬ aI h 266 2 ≤ x2 := (fun e => c2 ((Jle (rg_toInt _) k4).mpr e))
    replace w := w.2 t3
    refine ⟨(ls256 C_h), ?_⟩
    refine Ex.mono w (Nat.le_refl _) ?_
    rintro v5 h6 ⟨rfl, s7, w⟩
    refine ⟨rfl, ?_⟩
    have C_h6 := Lay_SH s7 C_h
    try simp only [aI_wAL, fI_wAL, aL_wA, aL_wF, aI_wA_ne, aI_wF_ne, fI_wA_ne, fI_wF_ne, fI_wF_nk, aL_wAL_ne, J_sameA, J_sameF, aL_same, Nat.add_left_cancel_iff, Nat.add_eq_left, Nat.left_eq_add, not_false_eq_true, Nat.reduceEqDiff, Nat.reduceAdd, J_add, J_sub, J_mul, J_neg, J_and, J_or, J_xor, J_shl, J_shr, J_div, J_i2b, J_i2l, J_l2i, J_lcm, J_max, J_min, J_nab, J_nao, rdA, rdF, rdL, wA_fold, wF_fold, wL_fold, wC_fold]
    exact w
-- OutwardDoorsModel.passes()I at 27
set_option maxRecDepth 20000 in
set_option maxHeartbeats 4000000 in
theorem r233_27 {X : Cst} {d : Nat} {x1 : Int} {x2 : Int} {l3 : Option Value} {h : AH} {Q : Post} (C_h : Lay h) (hd : 2 ≤ d)
  (w : (-2147483648 ≤ x2 ∧ x2 < 2147483648) ∧ ((aI h 266 2 ≤ x2 → Ex X PG (d + 1) 233 80 [some (.ref 256), some (.int (J x1)), some (.int (J 0)), l3] [] h Q) ∧ (¬ aI h 266 2 ≤ x2 → (0 ≤ x2 ∧ x2 < 4) ∧ ((aI h 268 x2 < 0 → Ex X PG (d + 1) 233 27 [some (.ref 256), some (.int (J x1)), some (.int (J (x2 + 1))), l3] [] h Q) ∧ (¬ aI h 268 x2 < 0 → ((¬ aI h 269 x2 = 0 → (0 ≤ (aI h 268 x2) ∧ (aI h 268 x2) < 14) ∧ (pS (aI h 266) x2 4 < 2147483647) ∧ (∀ h14, SH h h14 → (Fr (fun c _ => c = 266) h h14 ∧ aI h14 266 = uu_ (uu_ (aI h 266) (10 + 6 * x2 + 0) (fr (aI h 266) (aI h 268 x2))) (10 + 6 * x2 + 4) (pS (aI h 266) x2 4 + 1)) → Ex X PG (d + 1) 233 27 [some (.ref 256), some (.int (J (x1 + 1))), some (.int (J (x2 + 1))), l3] [] h14 Q)) ∧ (aI h 269 x2 = 0 → Ex X PG (d + 1) 233 27 [some (.ref 256), some (.int (J x1)), some (.int (J (x2 + 1))), l3] [] h Q))))))) :
    Ex X PG (d + 1) 233 27 [some (.ref 256), some (.int (J x1)), some (.int (J x2)), l3] [] h Q := by
  refine wpx_ok (cut := [4, 27, 80, 92]) 26 d 233 27 _ _ _ _ ?_
  show hs h 256 = (0, 11) ∧ ∃ q1, hR h 256 20 = some q1 ∧ (hs h q1).1 = 1 ∧ ix (J 2) (hs h q1).2 ∧ (((hI h q1 (Int32.toNatClampNeg (J 2))) ≤ (J x2) → Ex X PG (d + 1) 233 80 [some (.ref 256), some (.int (J x1)), some (.int (J 0)), l3] [] h Q) ∧ (¬ ((hI h q1 (Int32.toNatClampNeg (J 2))) ≤ (J x2)) → hs h 256 = (0, 11) ∧ ∃ q5, hR h 256 24 = some q5 ∧ (hs h q5).1 = 1 ∧ ix (J x2) (hs h q5).2 ∧ (((hI h q5 (Int32.toNatClampNeg (J x2))) < (J 0) → Ex X PG (d + 1) 233 27 [some (.ref 256), some (.int (J x1)), some (.int ((J x2) + (J 1))), l3] [] h Q) ∧ (¬ ((hI h q5 (Int32.toNatClampNeg (J x2))) < (J 0)) → hs h 256 = (0, 11) ∧ ∃ q9, hR h 256 25 = some q9 ∧ ((hs h q9).1 = 3 ∨ (hs h q9).1 = 4) ∧ ix (J x2) (hs h q9).2 ∧ ((¬ (hI h q9 (Int32.toNatClampNeg (J x2))) = (J 0) → hs h 256 = (0, 11) ∧ ∃ q12, hR h 256 24 = some q12 ∧ (hs h q12).1 = 1 ∧ ix (J x2) (hs h q12).2 ∧ hs h 256 = (0, 11) ∧ Ex X PG d 245 0 [some (.ref 256), some (.int (J x2)), some (.int (hI h q12 (Int32.toNatClampNeg (J x2)))), none] [] h (fun v13 h14 => v13 = none ∧ Ex X PG (d + 1) 233 27 [some (.ref 256), some (.int ((J x1) + (J 1))), some (.int ((J x2) + (J 1))), l3] [] h14 Q)) ∧ (¬ (¬ (hI h q9 (Int32.toNatClampNeg (J x2))) = (J 0)) → Ex X PG (d + 1) 233 27 [some (.ref 256), some (.int (J x1)), some (.int ((J x2) + (J 1))), l3] [] h Q))))))
  try simp only [aI_wAL, fI_wAL, aL_wA, aL_wF, aI_wA_ne, aI_wF_ne, fI_wA_ne, fI_wF_ne, fI_wF_nk, aL_wAL_ne, J_sameA, J_sameF, aL_same, Nat.add_left_cancel_iff, Nat.add_eq_left, Nat.left_eq_add, not_false_eq_true, Nat.reduceEqDiff, Nat.reduceAdd, J_add, J_sub, J_mul, J_neg, J_and, J_or, J_xor, J_shl, J_shr, J_div, J_i2b, J_i2l, J_l2i, J_lcm, J_max, J_min, J_nab, J_nao, rdA, rdF, rdL, wA_fold, wF_fold, wL_fold, wC_fold]
  refine ⟨(ls256 C_h), _, (lr256_20 C_h), ?_⟩
  refine ⟨congrArg Prod.fst (ls266 C_h), ixs (ls266 C_h) (by decide) (by decide), ?_⟩
  obtain ⟨k4, w⟩ := w
  refine ⟨fun c2 => ?_, fun c2 => ?_⟩
  · have t3 : aI h 266 2 ≤ x2 := ((Jle (rg_toInt _) k4).mp c2)
    replace w := w.1 t3
    exact w
  · have t3 : ¬ aI h 266 2 ≤ x2 := (fun e => c2 ((Jle (rg_toInt _) k4).mpr e))
    replace w := w.2 t3
    refine ⟨(ls256 C_h), _, (lr256_24 C_h), ?_⟩
    obtain ⟨k6, w⟩ := w
    refine ⟨congrArg Prod.fst (ls268 C_h), ixs (ls268 C_h) k6 (by decide), ?_⟩
    refine ⟨fun c7 => ?_, fun c7 => ?_⟩
    · have t8 : aI h 268 x2 < 0 := ((Jlt (rg_toInt _) (by decide)).mp c7)
      replace w := w.1 t8
      exact w
    · have t8 : ¬ aI h 268 x2 < 0 := (fun e => c7 ((Jlt (rg_toInt _) (by decide)).mpr e))
      replace w := w.2 t8
      refine ⟨(ls256 C_h), _, (lr256_25 C_h), ?_⟩
      refine ⟨Or.inr (congrArg Prod.fst (ls269 C_h)), ixs (ls269 C_h) k6 (by decide), ?_⟩
      refine ⟨fun c10 => ?_, fun c10 => ?_⟩
      · have t11 : ¬ aI h 269 x2 = 0 := (fun e => c10 ((Jeq (rg_toInt _) (by decide)).mpr e))
        replace w := w.1 t11
        refine ⟨(ls256 C_h), _, (lr256_24 C_h), ?_⟩
        refine ⟨congrArg Prod.fst (ls268 C_h), ixs (ls268 C_h) k6 (by decide), ?_⟩
        refine ⟨(ls256 C_h), ?_⟩
        obtain ⟨k15, w⟩ := w
        obtain ⟨k16, w⟩ := w
        refine m245 (h := h) (p := x2) (x := (aI h 268 x2)) C_h (by omega) k6 k15 k16 ?_
        intro h14 s17 p18
        replace w := w h14 s17 p18
        refine ⟨rfl, ?_⟩
        have C_h14 := Lay_SH s17 C_h
        try simp only [aI_wAL, fI_wAL, aL_wA, aL_wF, aI_wA_ne, aI_wF_ne, fI_wA_ne, fI_wF_ne, fI_wF_nk, aL_wAL_ne, J_sameA, J_sameF, aL_same, Nat.add_left_cancel_iff, Nat.add_eq_left, Nat.left_eq_add, not_false_eq_true, Nat.reduceEqDiff, Nat.reduceAdd, J_add, J_sub, J_mul, J_neg, J_and, J_or, J_xor, J_shl, J_shr, J_div, J_i2b, J_i2l, J_l2i, J_lcm, J_max, J_min, J_nab, J_nao, rdA, rdF, rdL, wA_fold, wF_fold, wL_fold, wC_fold]
        exact w
      · have t11 : aI h 269 x2 = 0 := ((Jeq (rg_toInt _) (by decide)).mp (Classical.byContradiction c10))
        replace w := w.2 t11
        exact w
-- OutwardDoorsModel.passes()I at 80
set_option maxRecDepth 20000 in
set_option maxHeartbeats 4000000 in
theorem r233_80 {X : Cst} {d : Nat} {x1 : Int} {x2 : Int} {l3 : Option Value} {h : AH} {Q : Post} (C_h : Lay h)
  (w : (-2147483648 ≤ x2 ∧ x2 < 2147483648) ∧ ((aI h 266 1 ≤ x2 → Q (some (.int (J x1))) (wA h 266 3 ((aI h 266 3) + 1))) ∧ (¬ aI h 266 1 ≤ x2 → Ex X PG (d + 1) 233 92 [some (.ref 256), some (.int (J x1)), some (.int (J x2)), some (.int (J 0))] [] h Q))) :
    Ex X PG (d + 1) 233 80 [some (.ref 256), some (.int (J x1)), some (.int (J x2)), l3] [] h Q := by
  refine wpx_ok (cut := [4, 27, 80, 92]) 16 d 233 80 _ _ _ _ ?_
  show hs h 256 = (0, 11) ∧ ∃ q1, hR h 256 20 = some q1 ∧ (hs h q1).1 = 1 ∧ ix (J 1) (hs h q1).2 ∧ (((hI h q1 (Int32.toNatClampNeg (J 1))) ≤ (J x2) → hs h 256 = (0, 11) ∧ ∃ q5, hR h 256 20 = some q5 ∧ (hs h q5).1 = 1 ∧ ix (J 3) (hs h q5).2 ∧ (hs h q5).1 = 1 ∧ ix (J 3) (hs h q5).2 ∧ Q (some (.int (J x1))) (wI h q5 (Int32.toNatClampNeg (J 3)) ((hI h q5 (Int32.toNatClampNeg (J 3))) + (J 1)))) ∧ (¬ ((hI h q1 (Int32.toNatClampNeg (J 1))) ≤ (J x2)) → Ex X PG (d + 1) 233 92 [some (.ref 256), some (.int (J x1)), some (.int (J x2)), some (.int (J 0))] [] h Q))
  try simp only [aI_wAL, fI_wAL, aL_wA, aL_wF, aI_wA_ne, aI_wF_ne, fI_wA_ne, fI_wF_ne, fI_wF_nk, aL_wAL_ne, J_sameA, J_sameF, aL_same, Nat.add_left_cancel_iff, Nat.add_eq_left, Nat.left_eq_add, not_false_eq_true, Nat.reduceEqDiff, Nat.reduceAdd, J_add, J_sub, J_mul, J_neg, J_and, J_or, J_xor, J_shl, J_shr, J_div, J_i2b, J_i2l, J_l2i, J_lcm, J_max, J_min, J_nab, J_nao, rdA, rdF, rdL, wA_fold, wF_fold, wL_fold, wC_fold]
  refine ⟨(ls256 C_h), _, (lr256_20 C_h), ?_⟩
  refine ⟨congrArg Prod.fst (ls266 C_h), ixs (ls266 C_h) (by decide) (by decide), ?_⟩
  obtain ⟨k4, w⟩ := w
  refine ⟨fun c2 => ?_, fun c2 => ?_⟩
  · have t3 : aI h 266 1 ≤ x2 := ((Jle (rg_toInt _) k4).mp c2)
    replace w := w.1 t3
    refine ⟨(ls256 C_h), _, (lr256_20 C_h), ?_⟩
    refine ⟨congrArg Prod.fst (ls266 C_h), ixs (ls266 C_h) (by decide) (by decide), ?_⟩
    refine ⟨congrArg Prod.fst (ls266 C_h), ixs (ls266 C_h) (by decide) (by decide), ?_⟩
    exact w
  · have t3 : ¬ aI h 266 1 ≤ x2 := (fun e => c2 ((Jle (rg_toInt _) k4).mpr e))
    replace w := w.2 t3
    exact w
-- OutwardDoorsModel.passes()I at 92
set_option maxRecDepth 20000 in
set_option maxHeartbeats 4000000 in
theorem r233_92 {X : Cst} {d : Nat} {x1 : Int} {x2 : Int} {x3 : Int} {h : AH} {Q : Post} (C_h : Lay h) (hd : 2 ≤ d)
  (w : (0 ≤ aI h 266 2 ∧ aI h 266 2 ≤ 4) ∧ (-2147483648 ≤ x2 ∧ x2 < 2147483648) ∧ (0 ≤ x3 ∧ x3 < 100) ∧ (-2147483648 ≤ kth (fun q => aI h 268 q = x2 ∧ aI h 269 q = 1) (aI h 266 2) x3 ∧ kth (fun q => aI h 268 q = x2 ∧ aI h 269 q = 1) (aI h 266 2) x3 < 2147483648) ∧ ((kth (fun q => aI h 268 q = x2 ∧ aI h 269 q = 1) (aI h 266 2) x3 < 0 → Ex X PG (d + 1) 233 80 [some (.ref 256), some (.int (J x1)), some (.int (J (x2 + 1))), some (.int (J x3))] [] h Q) ∧ (¬ kth (fun q => aI h 268 q = x2 ∧ aI h 269 q = 1) (aI h 266 2) x3 < 0 → (-2147483648 ≤ kth (fun q => aI h 268 q = x2 ∧ aI h 269 q = 0) (aI h 266 2) x3 ∧ kth (fun q => aI h 268 q = x2 ∧ aI h 269 q = 0) (aI h 266 2) x3 < 2147483648) ∧ ((kth (fun q => aI h 268 q = x2 ∧ aI h 269 q = 0) (aI h 266 2) x3 < 0 → Ex X PG (d + 1) 233 80 [some (.ref 256), some (.int (J x1)), some (.int (J (x2 + 1))), some (.int (J x3))] [] h Q) ∧ (¬ kth (fun q => aI h 268 q = x2 ∧ aI h 269 q = 0) (aI h 266 2) x3 < 0 → (0 ≤ (kth (fun q => aI h 268 q = x2 ∧ aI h 269 q = 0) (aI h 266 2) x3) ∧ (kth (fun q => aI h 268 q = x2 ∧ aI h 269 q = 0) (aI h 266 2) x3) < 4) ∧ (0 ≤ x2 ∧ x2 < 14) ∧ (-2147483648 ≤ (kth (fun q => aI h 268 q = x2 ∧ aI h 269 q = 1) (aI h 266 2) x3) ∧ (kth (fun q => aI h 268 q = x2 ∧ aI h 269 q = 1) (aI h 266 2) x3) < 2147483648) ∧ (pS (aI h 266) (kth (fun q => aI h 268 q = x2 ∧ aI h 269 q = 0) (aI h 266 2) x3) 3 < 2147483647) ∧ (∀ h23, SH h h23 → (Fr (fun c _ => c = 266) h h23 ∧ aI h23 266 = uu_ (uu_ (uu_ (aI h 266) (10 + 6 * (kth (fun q => aI h 268 q = x2 ∧ aI h 269 q = 0) (aI h 266 2) x3) + 0) (nr (aI h 266) x2)) (10 + 6 * (kth (fun q => aI h 268 q = x2 ∧ aI h 269 q = 0) (aI h 266 2) x3) + 3) (pS (aI h 266) (kth (fun q => aI h 268 q = x2 ∧ aI h 269 q = 0) (aI h 266 2) x3) 3 + 1)) (10 + 6 * (kth (fun q => aI h 268 q = x2 ∧ aI h 269 q = 0) (aI h 266 2) x3) + 5) (kth (fun q => aI h 268 q = x2 ∧ aI h 269 q = 1) (aI h 266 2) x3)) → Ex X PG (d + 1) 233 92 [some (.ref 256), some (.int (J (x1 + 1))), some (.int (J x2)), some (.int (J (x3 + 1)))] [] h23 Q)))))) :
    Ex X PG (d + 1) 233 92 [some (.ref 256), some (.int (J x1)), some (.int (J x2)), some (.int (J x3))] [] h Q := by
  refine wpx_ok (cut := [4, 27, 80, 92]) 28 d 233 92 _ _ _ _ ?_
  show hs h 256 = (0, 11) ∧ Ex X PG d 246 0 [some (.ref 256), some (.int (J x2)), some (.int (J 1)), some (.int (J x3)), none, none] [] h (fun v1 h2 => ∃ r3, v1 = some (.int r3) ∧ ((r3 < (J 0) → Ex X PG (d + 1) 233 80 [some (.ref 256), some (.int (J x1)), some (.int ((J x2) + (J 1))), some (.int (J x3))] [] h2 Q) ∧ (¬ (r3 < (J 0)) → hs h2 256 = (0, 11) ∧ Ex X PG d 246 0 [some (.ref 256), some (.int (J x2)), some (.int (J 0)), some (.int (J x3)), none, none] [] h2 (fun v10 h11 => ∃ r12, v10 = some (.int r12) ∧ ((r12 < (J 0) → Ex X PG (d + 1) 233 80 [some (.ref 256), some (.int (J x1)), some (.int ((J x2) + (J 1))), some (.int (J x3))] [] h11 Q) ∧ (¬ (r12 < (J 0)) → hs h11 256 = (0, 11) ∧ Ex X PG d 246 0 [some (.ref 256), some (.int (J x2)), some (.int (J 0)), some (.int (J x3)), none, none] [] h11 (fun v16 h17 => ∃ r18, v16 = some (.int r18) ∧ hs h17 256 = (0, 11) ∧ Ex X PG d 246 0 [some (.ref 256), some (.int (J x2)), some (.int (J 1)), some (.int (J x3)), none, none] [] h17 (fun v19 h20 => ∃ r21, v19 = some (.int r21) ∧ hs h20 256 = (0, 11) ∧ Ex X PG d 247 0 [some (.ref 256), some (.int r18), some (.int (J x2)), some (.int r21), none] [] h20 (fun v22 h23 => v22 = none ∧ Ex X PG (d + 1) 233 92 [some (.ref 256), some (.int ((J x1) + (J 1))), some (.int (J x2)), some (.int ((J x3) + (J 1)))] [] h23 Q)))))))))
  try simp only [aI_wAL, fI_wAL, aL_wA, aL_wF, aI_wA_ne, aI_wF_ne, fI_wA_ne, fI_wF_ne, fI_wF_nk, aL_wAL_ne, J_sameA, J_sameF, aL_same, Nat.add_left_cancel_iff, Nat.add_eq_left, Nat.left_eq_add, not_false_eq_true, Nat.reduceEqDiff, Nat.reduceAdd, J_add, J_sub, J_mul, J_neg, J_and, J_or, J_xor, J_shl, J_shr, J_div, J_i2b, J_i2l, J_l2i, J_lcm, J_max, J_min, J_nab, J_nao, rdA, rdF, rdL, wA_fold, wF_fold, wL_fold, wC_fold]
  refine ⟨(ls256 C_h), ?_⟩
  obtain ⟨k4, w⟩ := w
  obtain ⟨k5, w⟩ := w
  obtain ⟨k6, w⟩ := w
  refine m246 (h := h) (x := x2) (o := 1) (k := x3) C_h (by omega) k4 k5 (by decide) k6 ?_
  refine ⟨_, rfl, ?_⟩
  try simp only [aI_wAL, fI_wAL, aL_wA, aL_wF, aI_wA_ne, aI_wF_ne, fI_wA_ne, fI_wF_ne, fI_wF_nk, aL_wAL_ne, J_sameA, J_sameF, aL_same, Nat.add_left_cancel_iff, Nat.add_eq_left, Nat.left_eq_add, not_false_eq_true, Nat.reduceEqDiff, Nat.reduceAdd, J_add, J_sub, J_mul, J_neg, J_and, J_or, J_xor, J_shl, J_shr, J_div, J_i2b, J_i2l, J_l2i, J_lcm, J_max, J_min, J_nab, J_nao, rdA, rdF, rdL, wA_fold, wF_fold, wL_fold, wC_fold]
  obtain ⟨k9, w⟩ := w
  refine ⟨fun c7 => ?_, fun c7 => ?_⟩
  · have t8 : kth (fun q => aI h 268 q = x2 ∧ aI h 269 q = 1) (aI h 266 2) x3 < 0 := ((Jlt k9 (by decide)).mp c7)
    replace w := w.1 t8
    exact w
  · have t8 : ¬ kth (fun q => aI h 268 q = x2 ∧ aI h 269 q = 1) (aI h 266 2) x3 < 0 := (fun e => c7 ((Jlt k9 (by decide)).mpr e))
    replace w := w.2 t8
    refine ⟨(ls256 C_h), ?_⟩
    refine m246 (h := h) (x := x2) (o := 0) (k := x3) C_h (by omega) k4 k5 (by decide) k6 ?_
    refine ⟨_, rfl, ?_⟩
    try simp only [aI_wAL, fI_wAL, aL_wA, aL_wF, aI_wA_ne, aI_wF_ne, fI_wA_ne, fI_wF_ne, fI_wF_nk, aL_wAL_ne, J_sameA, J_sameF, aL_same, Nat.add_left_cancel_iff, Nat.add_eq_left, Nat.left_eq_add, not_false_eq_true, Nat.reduceEqDiff, Nat.reduceAdd, J_add, J_sub, J_mul, J_neg, J_and, J_or, J_xor, J_shl, J_shr, J_div, J_i2b, J_i2l, J_l2i, J_lcm, J_max, J_min, J_nab, J_nao, rdA, rdF, rdL, wA_fold, wF_fold, wL_fold, wC_fold]
    obtain ⟨k15, w⟩ := w
    refine ⟨fun c13 => ?_, fun c13 => ?_⟩
    · have t14 : kth (fun q => aI h 268 q = x2 ∧ aI h 269 q = 0) (aI h 266 2) x3 < 0 := ((Jlt k15 (by decide)).mp c13)
      replace w := w.1 t14
      exact w
    · have t14 : ¬ kth (fun q => aI h 268 q = x2 ∧ aI h 269 q = 0) (aI h 266 2) x3 < 0 := (fun e => c13 ((Jlt k15 (by decide)).mpr e))
      replace w := w.2 t14
      refine ⟨(ls256 C_h), ?_⟩
      refine m246 (h := h) (x := x2) (o := 0) (k := x3) C_h (by omega) k4 k5 (by decide) k6 ?_
      refine ⟨_, rfl, ?_⟩
      try simp only [aI_wAL, fI_wAL, aL_wA, aL_wF, aI_wA_ne, aI_wF_ne, fI_wA_ne, fI_wF_ne, fI_wF_nk, aL_wAL_ne, J_sameA, J_sameF, aL_same, Nat.add_left_cancel_iff, Nat.add_eq_left, Nat.left_eq_add, not_false_eq_true, Nat.reduceEqDiff, Nat.reduceAdd, J_add, J_sub, J_mul, J_neg, J_and, J_or, J_xor, J_shl, J_shr, J_div, J_i2b, J_i2l, J_l2i, J_lcm, J_max, J_min, J_nab, J_nao, rdA, rdF, rdL, wA_fold, wF_fold, wL_fold, wC_fold]
      refine ⟨(ls256 C_h), ?_⟩
      refine m246 (h := h) (x := x2) (o := 1) (k := x3) C_h (by omega) k4 k5 (by decide) k6 ?_
      refine ⟨_, rfl, ?_⟩
      try simp only [aI_wAL, fI_wAL, aL_wA, aL_wF, aI_wA_ne, aI_wF_ne, fI_wA_ne, fI_wF_ne, fI_wF_nk, aL_wAL_ne, J_sameA, J_sameF, aL_same, Nat.add_left_cancel_iff, Nat.add_eq_left, Nat.left_eq_add, not_false_eq_true, Nat.reduceEqDiff, Nat.reduceAdd, J_add, J_sub, J_mul, J_neg, J_and, J_or, J_xor, J_shl, J_shr, J_div, J_i2b, J_i2l, J_l2i, J_lcm, J_max, J_min, J_nab, J_nao, rdA, rdF, rdL, wA_fold, wF_fold, wL_fold, wC_fold]
      refine ⟨(ls256 C_h), ?_⟩
      obtain ⟨k24, w⟩ := w
      obtain ⟨k25, w⟩ := w
      obtain ⟨k26, w⟩ := w
      obtain ⟨k27, w⟩ := w
      refine m247 (h := h) (p := (kth (fun q => aI h 268 q = x2 ∧ aI h 269 q = 0) (aI h 266 2) x3)) (x := x2) (b := (kth (fun q => aI h 268 q = x2 ∧ aI h 269 q = 1) (aI h 266 2) x3)) C_h (by omega) k24 k25 k26 k27 ?_
      intro h23 s28 p29
      replace w := w h23 s28 p29
      refine ⟨rfl, ?_⟩
      have C_h23 := Lay_SH s28 C_h
      try simp only [aI_wAL, fI_wAL, aL_wA, aL_wF, aI_wA_ne, aI_wF_ne, fI_wA_ne, fI_wF_ne, fI_wF_nk, aL_wAL_ne, J_sameA, J_sameF, aL_same, Nat.add_left_cancel_iff, Nat.add_eq_left, Nat.left_eq_add, not_false_eq_true, Nat.reduceEqDiff, Nat.reduceAdd, J_add, J_sub, J_mul, J_neg, J_and, J_or, J_xor, J_shl, J_shr, J_div, J_i2b, J_i2l, J_l2i, J_lcm, J_max, J_min, J_nab, J_nao, rdA, rdF, rdL, wA_fold, wF_fold, wL_fold, wC_fold]
      exact w
/-- the doors willed stand in willDoor, willOut -/
def WDs (S D : Int → Int) (A B : Int → Int) (n : Int) : Prop := ∀ q, 0 ≤ q → q < n → A q = D q ∧ B q = bI (gO S D q)
def TP (c k : Nat) : Prop := c = 264 ∨ c = 265 ∨ c = 266 ∨ c = 267 ∨ c = 268 ∨ c = 269 ∨ (c = 256 ∧ k = 18)
theorem q233_4 {X : Cst} {d : Nat} {z : Int} {l3 : Option Value} {Rs : Int → Ru} {h0 : AH} {Q : Post} (C0 : Lay h0) (hd : 9 ≤ d) (W : WF 999 (aI h0 266)) (RO : RefOK h0 (fI h0 256 21) Rs)
    (k : ∀ h, Fr TW h0 h → WDs (aI h0 266) (wdo (aI h0 266) (fI h0 256 21) Rs) (aI h 268) (aI h 269) (aI h0 266 2) → Ex X PG (d + 1) 233 27 [some (.ref 256), some (.int (J z)), some (.int (J 0)), l3] [] h Q) :
    ∀ (n : Nat) (i : Int) (h : AH), Fr TW h0 h → aI h0 266 2 - i = n → 0 ≤ i → WDs (aI h0 266) (wdo (aI h0 266) (fI h0 256 21) Rs) (aI h 268) (aI h 269) i → Ex X PG (d + 1) 233 4 [some (.ref 256), some (.int (J z)), some (.int (J i)), l3] [] h Q := by
  have b := W.1
  unfold WFb at b
  intro n
  induction n with
  | zero =>
    intro i h F h1 h2 w
    have e := F.a 266 (fun k z => by unfold TW at z; omega)
    refine r233_4 (F.C C0) ?_
    rw [e]
    refine ⟨by omega, fun _ => k h F ?_, fun c => absurd (by omega) c⟩
    rw [show aI h0 266 2 = i by omega]; exact w
  | succ n ih =>
    intro i h F h1 h2 w
    have e := F.a 266 (fun k z => by unfold TW at z; omega)
    have e21 : fI h 256 21 = fI h0 256 21 := F.f 256 21 (fun z => by unfold TW at z; omega)
    refine r233_4 (F.C C0) ?_
    rw [e]
    refine ⟨by omega, fun c => absurd c (by omega), fun _ => ?_⟩
    refine m234 (Rs := Rs) (F.C C0) hd (by rw [e]; exact W) (by rw [e]; omega) (by rw [e21]; exact RO.fr F (fun c k z => by unfold TW at z; omega)) (fun h' s po => ⟨rfl, s, ?_⟩)
    rw [e, e21] at po
    refine ih (i + 1) h' (F.tr po.1) (by omega) (by omega) (fun q a c => ?_)
    rw [po.2.1, po.2.2]
    by_cases x : q = i
    · subst x; rw [uu_eq, uu_eq]; exact ⟨rfl, rfl⟩
    · rw [uu_ne (by omega) (by omega) x, uu_ne (by omega) (by omega) x]; exact w q a (by omega)
/-- who goes out -/
theorem q233_27 {X : Cst} {d : Nat} {l3 : Option Value} {D : Int → Int} {h0 : AH} {Q : Post} (C0 : Lay h0) (hd : 2 ≤ d) (S : Int → Int) (hT : Tn S) (W : WF 999 S) (hD : ∀ p, 0 ≤ p → p < S 2 → D p = -1 ∨ (0 ≤ D p ∧ D p < S 1)) (w : WDs S D (aI h0 268) (aI h0 269) (S 2))
    (k : ∀ h, Fr (fun c _ => c = 266) h0 h → aI h 266 = layP S (pclg S D (gO S D) (fun _ => False)) (S 3) → Ex X PG (d + 1) 233 80 [some (.ref 256), some (.int (J (cnt (gO S D) (S 2)))), some (.int (J 0)), l3] [] h Q) :
    ∀ (n : Nat) (i : Int) (h : AH), Fr (fun c _ => c = 266) h0 h → S 2 - i = n → 0 ≤ i → aI h 266 = layP S (pclg S D (fun p => gO S D p ∧ p < i) (fun _ => False)) (S 3) → Ex X PG (d + 1) 233 27 [some (.ref 256), some (.int (J (cnt (gO S D) i))), some (.int (J i)), l3] [] h Q := by
  have b := W.1
  unfold WFb at b
  have two : ∀ F m, layP S F m 2 = S 2 := fun F m => layP_k (by decide) (by decide) (Or.inl (by decide))
  intro n
  induction n with
  | zero =>
    intro i h F h1 h2 e
    refine r233_27 (F.C C0) (by omega) ?_
    rw [e, two]
    refine ⟨by omega, fun _ => ?_, fun c => absurd (by omega) c⟩
    have q : i = S 2 := by omega
    subst q
    refine k h F ?_
    rw [e]
    refine layP_ext hT (Tn_lay6 hT) (by omega) layP_3 (fun p w h1 h2 h3 h4 => ?_) (fun k a b c d => layP_k ⟨a, b⟩ c d)
    rw [layP_p (by omega) ⟨h1, h2⟩ ⟨h3, h4⟩]
    exact pclg_cong ⟨fun z => z.1, fun z => ⟨z, h2⟩⟩ Iff.rfl
  | succ n ih =>
    intro i h F h1 h2 e
    have wi := w i h2 (by omega)
    have e8 := F.a 268 (fun _ => by decide)
    have e9 := F.a 269 (fun _ => by decide)
    have cs := cnt_s (gO S D) h2
    have pi := W.2.1 i h2 (by omega)
    refine r233_27 (F.C C0) (by omega) ?_
    rw [e8, e9, wi.1, wi.2, e, two]
    have stay : ¬ gO S D i → Ex X PG (d + 1) 233 27 [some (.ref 256), some (.int (J (cnt (gO S D) i))), some (.int (J (i + 1))), l3] [] h Q := by
      intro ng
      rw [bI_neg ng, Int.add_zero] at cs
      rw [← cs]
      refine ih (i + 1) h F (by omega) (by omega) ?_
      rw [e]
      refine layP_ext hT (Tn_lay6 hT) (by omega) layP_3 (fun p w h1 h2 h3 h4 => ?_) (fun k a b c d => layP_k ⟨a, b⟩ c d)
      rw [layP_p (by omega) ⟨h1, h2⟩ ⟨h3, h4⟩]
      refine pclg_cong ⟨fun z => ⟨z.1, by omega⟩, fun z => ⟨z.1, ?_⟩⟩ Iff.rfl
      by_cases q : p = i
      · subst q; exact absurd z.1 ng
      · have := z.2; omega
    have p4 : pS (layP S (pclg S D (fun p => gO S D p ∧ p < i) (fun _ => False)) (S 3)) i 4 = pS S i 4 := by
      rw [layP_p (by omega) ⟨h2, by omega⟩ (by decide)]
      unfold pclg
      rw [if_neg (by decide), if_neg (by decide), if_pos rfl, bI_neg (fun z => by have := z.2; omega), Int.add_zero]
    refine ⟨by omega, fun c => absurd c (by omega), fun _ => ⟨by omega, fun c => stay (fun z => by have := z.1; omega), fun c => ⟨fun c2 => ?_, fun c2 => stay (fun z => by rw [bI_pos z] at c2; omega)⟩⟩⟩
    have g : gO S D i := by
      by_cases q : gO S D i
      · exact q
      · rw [bI_neg q] at c2; exact absurd rfl c2
    have db := hD i h2 (by omega)
    have fd : fr (layP S (pclg S D (fun p => gO S D p ∧ p < i) (fun _ => False)) (S 3)) (D i) = fr S (D i) := layP_k (by omega) (by omega) (by omega)
    rw [p4, fd]
    refine ⟨by omega, by omega, fun h14 s14 p14 => ?_⟩
    rw [bI_pos g] at cs
    rw [← cs]
    refine ih (i + 1) h14 (F.tr p14.1) (by omega) (by omega) ?_
    rw [p14.2]
    rw [layP_uu (G := fun q u => if q = i ∧ u = 0 then fr S (D i) else pclg S D (fun p => gO S D p ∧ p < i) (fun _ => False) q u) hT (by omega) ⟨h2, by omega⟩ (by decide) (if_pos ⟨rfl, rfl⟩) (fun q u _ _ _ _ c => if_neg c)]
    refine layP_uu hT (by omega) ⟨h2, by omega⟩ (by decide) ?_ (fun q u a b c d nn => ?_)
    · unfold pclg
      rw [if_neg (by decide), if_neg (by decide), if_pos rfl, bI_pos ⟨g, by omega⟩]
    · by_cases c0 : q = i ∧ u = 0
      · rw [if_pos c0, c0.1, c0.2]
        unfold pclg
        rw [if_pos rfl, if_pos ⟨g, by omega⟩]
      · rw [if_neg c0]
        by_cases qi : q = i
        · have u0 : ¬ u = 0 := fun z => c0 ⟨qi, z⟩
          have u4 : ¬ u = 4 := fun z => nn ⟨qi, z⟩
          unfold pclg
          rw [if_neg u0, if_neg u0, if_neg u4, if_neg u4]
        · exact pclg_cong ⟨fun z => ⟨z.1, by have := z.2; omega⟩, fun z => ⟨z.1, by have := z.2; omega⟩⟩ Iff.rfl
