/-! SPREAD of a Pricer (printed by wip/gen/spread.py). -/
def Basp (h : AH) (pl : Nat) (S : Int → Int) (t : Prop) (m : Nat) (w : Int) : Prop := PlanRep h pl S ∧ fI h 250 1 = bI t ∧ fI h 250 2 = (m : Int) ∧ fI h 250 3 = w
-- OutwardDoors$Passings.passOut(III)V at 0
set_option maxRecDepth 20000 in
set_option maxHeartbeats 4000000 in
theorem r123p_0 {X : Cst} {d : Nat} {x1 : Int} {x2 : Int} {x3 : Int} {pl : Nat} {h : AH} {Q : Post} (C_h : Lay h) (K_h_0 : PlanAt h pl) {co ne be ln : Nat} (B_h : PriAt h pl co ne be ln) (ap : (co = 251 ∨ 281 ≤ co) ∧ (ne = 252 ∨ 281 ≤ ne) ∧ (be = 253 ∨ 281 ≤ be) ∧ (¬ co = ne ∧ ¬ co = be ∧ ¬ ne = be) ∧ (co < pl ∨ pl + 10 < co) ∧ (ne < pl ∨ pl + 10 < ne) ∧ (be < pl ∨ pl + 10 < be)) (hd : 1 ≤ d)
  (w : (0 ≤ x3 ∧ x3 < 14) ∧ (0 ≤ x1 ∧ x1 < 32768) ∧ (0 ≤ x2 ∧ x2 < 5) ∧ (0 ≤ (aI h (pl + 3) x3) ∧ (aI h (pl + 3) x3) < 8) ∧ (0 ≤ x2 ∧ x2 < 8) ∧ (0 ≤ x3 ∧ x3 < 16) ∧ Ex X PG d 126 0 [some (.ref 250), some (.int (J (mvd 8 x1 x2 (aI h (pl + 3) x3)))), some (.int (J x1)), some (.int (J (lbo x2 x3 (-1)))), none] [] h (fun v15 h16 => v15 = none ∧ SH h h16 ∧ Ex X PG (d + 1) 123 32 [some (.ref 250), some (.int (J x1)), some (.int (J x2)), some (.int (J x3)), some (.int (J (mvd 8 x1 x2 (aI h (pl + 3) x3)))), some (.int (J 0))] [] h16 Q)) :
    Ex X PG (d + 1) 123 0 [some (.ref 250), some (.int (J x1)), some (.int (J x2)), some (.int (J x3)), none, none] [] h Q := by
  refine wpx_ok (cut := [32]) 19 d 123 0 _ _ _ _ ?_
  show (hs h 250 = (0, 3) ∨ hs h 250 = (0, 7)) ∧ ∃ q1, hR h 250 0 = some q1 ∧ hs h q1 = (0, 2) ∧ ∃ q2, hR h q1 8 = some q2 ∧ (hs h q2).1 = 1 ∧ ix (J x3) (hs h q2).2 ∧ Ex X PG d 124 0 [some (.int (J x1)), some (.int (J x2)), some (.int (hI h q2 (Int32.toNatClampNeg (J x3))))] [] h (fun v4 h5 => ∃ r6, v4 = some (.int r6) ∧ Ex X PG d 125 0 [some (.int (J x2)), some (.int (J x3)), some (.int (J (-1)))] [] h5 (fun v10 h11 => ∃ r12, v10 = some (.int r12) ∧ (hs h11 250 = (0, 3) → Ex X PG d 126 0 [some (.ref 250), some (.int r6), some (.int (J x1)), some (.int r12), none] [] h11 (fun v15 h16 => v15 = none ∧ Ex X PG (d + 1) 123 32 [some (.ref 250), some (.int (J x1)), some (.int (J x2)), some (.int (J x3)), some (.int r6), some (.int (J 0))] [] h16 Q)) ∧ (¬ hs h11 250 = (0, 3) → hs h11 250 = (0, 7) ∧ Ex X PG d 130 0 [some (.ref 250), some (.int r6), some (.int (J x1)), some (.int r12)] [] h11 (fun v15 h16 => v15 = none ∧ Ex X PG (d + 1) 123 32 [some (.ref 250), some (.int (J x1)), some (.int (J x2)), some (.int (J x3)), some (.int r6), some (.int (J 0))] [] h16 Q))))
  try simp only [aI_wAL, fI_wAL, aL_wA, aL_wF, aI_wA_ne, aI_wF_ne, fI_wA_ne, fI_wF_ne, fI_wF_nk, aL_wAL_ne, J_sameA, J_sameF, aL_same, Nat.add_left_cancel_iff, Nat.add_eq_left, Nat.left_eq_add, not_false_eq_true, Nat.reduceEqDiff, Nat.reduceAdd, J_add, J_sub, J_mul, J_neg, J_and, J_or, J_xor, J_shl, J_shr, J_div, J_i2b, J_i2l, J_l2i, J_lcm, J_max, J_min, J_nab, J_nao, rdA, rdF, rdL, wA_fold, wF_fold, wL_fold, wC_fold]
  refine ⟨(Or.inl (ls250 C_h)), _, B_h.1, ?_⟩
  refine ⟨(plan_0 K_h_0), _, (plan_13 K_h_0), ?_⟩
  obtain ⟨k3, w⟩ := w
  refine ⟨congrArg Prod.fst (plan_3 K_h_0), ixs (plan_3 K_h_0) k3 (by decide), ?_⟩
  obtain ⟨k7, w⟩ := w
  obtain ⟨k8, w⟩ := w
  obtain ⟨k9, w⟩ := w
  refine m124 (h := h) (s := x1) (p := x2) (r := (aI h (pl + 3) x3)) C_h (by omega) k7 k8 k9 ?_
  refine ⟨_, rfl, ?_⟩
  try simp only [aI_wAL, fI_wAL, aL_wA, aL_wF, aI_wA_ne, aI_wF_ne, fI_wA_ne, fI_wF_ne, fI_wF_nk, aL_wAL_ne, J_sameA, J_sameF, aL_same, Nat.add_left_cancel_iff, Nat.add_eq_left, Nat.left_eq_add, not_false_eq_true, Nat.reduceEqDiff, Nat.reduceAdd, J_add, J_sub, J_mul, J_neg, J_and, J_or, J_xor, J_shl, J_shr, J_div, J_i2b, J_i2l, J_l2i, J_lcm, J_max, J_min, J_nab, J_nao, rdA, rdF, rdL, wA_fold, wF_fold, wL_fold, wC_fold]
  obtain ⟨k13, w⟩ := w
  obtain ⟨k14, w⟩ := w
  refine m125 (h := h) (p := x2) (e := x3) (q := (-1)) C_h (by omega) k13 k14 (by decide) ?_
  refine ⟨_, rfl, ?_⟩
  try simp only [aI_wAL, fI_wAL, aL_wA, aL_wF, aI_wA_ne, aI_wF_ne, fI_wA_ne, fI_wF_ne, fI_wF_nk, aL_wAL_ne, J_sameA, J_sameF, aL_same, Nat.add_left_cancel_iff, Nat.add_eq_left, Nat.left_eq_add, not_false_eq_true, Nat.reduceEqDiff, Nat.reduceAdd, J_add, J_sub, J_mul, J_neg, J_and, J_or, J_xor, J_shl, J_shr, J_div, J_i2b, J_i2l, J_l2i, J_lcm, J_max, J_min, J_nab, J_nao, rdA, rdF, rdL, wA_fold, wF_fold, wL_fold, wC_fold]
  refine ⟨fun _ => ?_, fun e => absurd (ls250 C_h) e⟩
  refine Ex.mono w (Nat.le_refl _) ?_
  rintro v15 h16 ⟨rfl, s17, w⟩
  refine ⟨rfl, ?_⟩
  have C_h16 := Lay_SH s17 C_h
  have K_h16_0 := PlanAt_SH s17 K_h_0
  have B_h16 := PriAt_SH s17 B_h
  try simp only [aI_wAL, fI_wAL, aL_wA, aL_wF, aI_wA_ne, aI_wF_ne, fI_wA_ne, fI_wF_ne, fI_wF_nk, aL_wAL_ne, J_sameA, J_sameF, aL_same, Nat.add_left_cancel_iff, Nat.add_eq_left, Nat.left_eq_add, not_false_eq_true, Nat.reduceEqDiff, Nat.reduceAdd, J_add, J_sub, J_mul, J_neg, J_and, J_or, J_xor, J_shl, J_shr, J_div, J_i2b, J_i2l, J_l2i, J_lcm, J_max, J_min, J_nab, J_nao, rdA, rdF, rdL, wA_fold, wF_fold, wL_fold, wC_fold]
  exact w
-- OutwardDoors$Passings.passOut(III)V at 32
set_option maxRecDepth 20000 in
set_option maxHeartbeats 4000000 in
theorem r123p_32 {X : Cst} {d : Nat} {x1 : Int} {x2 : Int} {x3 : Int} {x4 : Int} {x5 : Int} {pl : Nat} {h : AH} {Q : Post} (C_h : Lay h) (K_h_0 : PlanAt h pl) {co ne be ln : Nat} (B_h : PriAt h pl co ne be ln) (ap : (co = 251 ∨ 281 ≤ co) ∧ (ne = 252 ∨ 281 ≤ ne) ∧ (be = 253 ∨ 281 ≤ be) ∧ (¬ co = ne ∧ ¬ co = be ∧ ¬ ne = be) ∧ (co < pl ∨ pl + 10 < co) ∧ (ne < pl ∨ pl + 10 < ne) ∧ (be < pl ∨ pl + 10 < be)) (hd : 1 ≤ d)
  (w : (-2147483648 ≤ x5 ∧ x5 < 2147483648) ∧ ((fI h 250 2 ≤ x5 → Q none h) ∧ (¬ fI h 250 2 ≤ x5 → (-2147483648 ≤ x2 ∧ x2 < 2147483648) ∧ ((x5 = x2 → Ex X PG (d + 1) 123 32 [some (.ref 250), some (.int (J x1)), some (.int (J x2)), some (.int (J x3)), some (.int (J x4)), some (.int (J (x5 + 1)))] [] h Q) ∧ (¬ x5 = x2 → (0 ≤ x1 ∧ x1 < 2147483648) ∧ (0 ≤ x5 ∧ x5 < 5) ∧ (0 ≤ x3 ∧ x3 < 14) ∧ ((¬ dgt 8 x1 x5 = aI h (pl + 3) x3 → Ex X PG (d + 1) 123 32 [some (.ref 250), some (.int (J x1)), some (.int (J x2)), some (.int (J x3)), some (.int (J x4)), some (.int (J (x5 + 1)))] [] h Q) ∧ (dgt 8 x1 x5 = aI h (pl + 3) x3 → (0 ≤ x4 ∧ x4 < 32768) ∧ (0 ≤ (aI h (pl + 2) x3) ∧ (aI h (pl + 2) x3) < 8) ∧ (0 ≤ x2 ∧ x2 < 8) ∧ (0 ≤ x3 ∧ x3 < 16) ∧ (-1 ≤ x5 ∧ x5 < 7) ∧ Ex X PG d 126 0 [some (.ref 250), some (.int (J (mvd 8 x4 x5 (aI h (pl + 2) x3)))), some (.int (J x1)), some (.int (J (lbo x2 x3 x5))), none] [] h (fun v30 h31 => v30 = none ∧ SH h h31 ∧ Ex X PG (d + 1) 123 32 [some (.ref 250), some (.int (J x1)), some (.int (J x2)), some (.int (J x3)), some (.int (J x4)), some (.int (J (x5 + 1)))] [] h31 Q)))))))) :
    Ex X PG (d + 1) 123 32 [some (.ref 250), some (.int (J x1)), some (.int (J x2)), some (.int (J x3)), some (.int (J x4)), some (.int (J x5))] [] h Q := by
  refine wpx_ok (cut := [32]) 33 d 123 32 _ _ _ _ ?_
  show (hs h 250 = (0, 3) ∨ hs h 250 = (0, 7)) ∧ (((hF h 250 2) ≤ (J x5) → Q none h) ∧ (¬ ((hF h 250 2) ≤ (J x5)) → (((J x5) = (J x2) → Ex X PG (d + 1) 123 32 [some (.ref 250), some (.int (J x1)), some (.int (J x2)), some (.int (J x3)), some (.int (J x4)), some (.int ((J x5) + (J 1)))] [] h Q) ∧ (¬ ((J x5) = (J x2)) → Ex X PG d 122 0 [some (.int (J x1)), some (.int (J x5))] [] h (fun v7 h8 => ∃ r9, v7 = some (.int r9) ∧ (hs h8 250 = (0, 3) ∨ hs h8 250 = (0, 7)) ∧ ∃ q12, hR h8 250 0 = some q12 ∧ hs h8 q12 = (0, 2) ∧ ∃ q13, hR h8 q12 8 = some q13 ∧ (hs h8 q13).1 = 1 ∧ ix (J x3) (hs h8 q13).2 ∧ ((¬ r9 = (hI h8 q13 (Int32.toNatClampNeg (J x3))) → Ex X PG (d + 1) 123 32 [some (.ref 250), some (.int (J x1)), some (.int (J x2)), some (.int (J x3)), some (.int (J x4)), some (.int ((J x5) + (J 1)))] [] h8 Q) ∧ (¬ (¬ r9 = (hI h8 q13 (Int32.toNatClampNeg (J x3)))) → (hs h8 250 = (0, 3) ∨ hs h8 250 = (0, 7)) ∧ ∃ q17, hR h8 250 0 = some q17 ∧ hs h8 q17 = (0, 2) ∧ ∃ q18, hR h8 q17 7 = some q18 ∧ (hs h8 q18).1 = 1 ∧ ix (J x3) (hs h8 q18).2 ∧ Ex X PG d 124 0 [some (.int (J x4)), some (.int (J x5)), some (.int (hI h8 q18 (Int32.toNatClampNeg (J x3))))] [] h8 (fun v19 h20 => ∃ r21, v19 = some (.int r21) ∧ Ex X PG d 125 0 [some (.int (J x2)), some (.int (J x3)), some (.int (J x5))] [] h20 (fun v24 h25 => ∃ r26, v24 = some (.int r26) ∧ (hs h25 250 = (0, 3) → Ex X PG d 126 0 [some (.ref 250), some (.int r21), some (.int (J x1)), some (.int r26), none] [] h25 (fun v30 h31 => v30 = none ∧ Ex X PG (d + 1) 123 32 [some (.ref 250), some (.int (J x1)), some (.int (J x2)), some (.int (J x3)), some (.int (J x4)), some (.int ((J x5) + (J 1)))] [] h31 Q)) ∧ (¬ hs h25 250 = (0, 3) → hs h25 250 = (0, 7) ∧ Ex X PG d 130 0 [some (.ref 250), some (.int r21), some (.int (J x1)), some (.int r26)] [] h25 (fun v30 h31 => v30 = none ∧ Ex X PG (d + 1) 123 32 [some (.ref 250), some (.int (J x1)), some (.int (J x2)), some (.int (J x3)), some (.int (J x4)), some (.int ((J x5) + (J 1)))] [] h31 Q)))))))))))
  try simp only [aI_wAL, fI_wAL, aL_wA, aL_wF, aI_wA_ne, aI_wF_ne, fI_wA_ne, fI_wF_ne, fI_wF_nk, aL_wAL_ne, J_sameA, J_sameF, aL_same, Nat.add_left_cancel_iff, Nat.add_eq_left, Nat.left_eq_add, not_false_eq_true, Nat.reduceEqDiff, Nat.reduceAdd, J_add, J_sub, J_mul, J_neg, J_and, J_or, J_xor, J_shl, J_shr, J_div, J_i2b, J_i2l, J_l2i, J_lcm, J_max, J_min, J_nab, J_nao, rdA, rdF, rdL, wA_fold, wF_fold, wL_fold, wC_fold]
  refine ⟨(Or.inl (ls250 C_h)), ?_⟩
  obtain ⟨k3, w⟩ := w
  refine ⟨fun c1 => ?_, fun c1 => ?_⟩
  · have t2 : fI h 250 2 ≤ x5 := ((Jle (rg_toInt _) k3).mp c1)
    replace w := w.1 t2
    exact w
  · have t2 : ¬ fI h 250 2 ≤ x5 := (fun e => c1 ((Jle (rg_toInt _) k3).mpr e))
    replace w := w.2 t2
    obtain ⟨k6, w⟩ := w
    refine ⟨fun c4 => ?_, fun c4 => ?_⟩
    · have t5 : x5 = x2 := ((Jeq k3 k6).mp c4)
      replace w := w.1 t5
      exact w
    · have t5 : ¬ x5 = x2 := (fun e => c4 ((Jeq k3 k6).mpr e))
      replace w := w.2 t5
      obtain ⟨k10, w⟩ := w
      obtain ⟨k11, w⟩ := w
      refine m122 (h := h) (s := x1) (p := x5) C_h (by omega) k10 k11 ?_
      refine ⟨_, rfl, ?_⟩
      try simp only [aI_wAL, fI_wAL, aL_wA, aL_wF, aI_wA_ne, aI_wF_ne, fI_wA_ne, fI_wF_ne, fI_wF_nk, aL_wAL_ne, J_sameA, J_sameF, aL_same, Nat.add_left_cancel_iff, Nat.add_eq_left, Nat.left_eq_add, not_false_eq_true, Nat.reduceEqDiff, Nat.reduceAdd, J_add, J_sub, J_mul, J_neg, J_and, J_or, J_xor, J_shl, J_shr, J_div, J_i2b, J_i2l, J_l2i, J_lcm, J_max, J_min, J_nab, J_nao, rdA, rdF, rdL, wA_fold, wF_fold, wL_fold, wC_fold]
      refine ⟨(Or.inl (ls250 C_h)), _, B_h.1, ?_⟩
      refine ⟨(plan_0 K_h_0), _, (plan_13 K_h_0), ?_⟩
      obtain ⟨k14, w⟩ := w
      refine ⟨congrArg Prod.fst (plan_3 K_h_0), ixs (plan_3 K_h_0) k14 (by decide), ?_⟩
      refine ⟨fun c15 => ?_, fun c15 => ?_⟩
      · have t16 : ¬ dgt 8 x1 x5 = aI h (pl + 3) x3 := (fun e => c15 ((Jeq (dgt_rg _ _ _) (rg_toInt _)).mpr e))
        replace w := w.1 t16
        exact w
      · have t16 : dgt 8 x1 x5 = aI h (pl + 3) x3 := ((Jeq (dgt_rg _ _ _) (rg_toInt _)).mp (Classical.byContradiction c15))
        replace w := w.2 t16
        refine ⟨(Or.inl (ls250 C_h)), _, B_h.1, ?_⟩
        refine ⟨(plan_0 K_h_0), _, (plan_12 K_h_0), ?_⟩
        refine ⟨congrArg Prod.fst (plan_2 K_h_0), ixs (plan_2 K_h_0) k14 (by decide), ?_⟩
        obtain ⟨k22, w⟩ := w
        obtain ⟨k23, w⟩ := w
        refine m124 (h := h) (s := x4) (p := x5) (r := (aI h (pl + 2) x3)) C_h (by omega) k22 k11 k23 ?_
        refine ⟨_, rfl, ?_⟩
        try simp only [aI_wAL, fI_wAL, aL_wA, aL_wF, aI_wA_ne, aI_wF_ne, fI_wA_ne, fI_wF_ne, fI_wF_nk, aL_wAL_ne, J_sameA, J_sameF, aL_same, Nat.add_left_cancel_iff, Nat.add_eq_left, Nat.left_eq_add, not_false_eq_true, Nat.reduceEqDiff, Nat.reduceAdd, J_add, J_sub, J_mul, J_neg, J_and, J_or, J_xor, J_shl, J_shr, J_div, J_i2b, J_i2l, J_l2i, J_lcm, J_max, J_min, J_nab, J_nao, rdA, rdF, rdL, wA_fold, wF_fold, wL_fold, wC_fold]
        obtain ⟨k27, w⟩ := w
        obtain ⟨k28, w⟩ := w
        obtain ⟨k29, w⟩ := w
        refine m125 (h := h) (p := x2) (e := x3) (q := x5) C_h (by omega) k27 k28 k29 ?_
        refine ⟨_, rfl, ?_⟩
        try simp only [aI_wAL, fI_wAL, aL_wA, aL_wF, aI_wA_ne, aI_wF_ne, fI_wA_ne, fI_wF_ne, fI_wF_nk, aL_wAL_ne, J_sameA, J_sameF, aL_same, Nat.add_left_cancel_iff, Nat.add_eq_left, Nat.left_eq_add, not_false_eq_true, Nat.reduceEqDiff, Nat.reduceAdd, J_add, J_sub, J_mul, J_neg, J_and, J_or, J_xor, J_shl, J_shr, J_div, J_i2b, J_i2l, J_l2i, J_lcm, J_max, J_min, J_nab, J_nao, rdA, rdF, rdL, wA_fold, wF_fold, wL_fold, wC_fold]
        refine ⟨fun _ => ?_, fun e => absurd (ls250 C_h) e⟩
        refine Ex.mono w (Nat.le_refl _) ?_
        rintro v30 h31 ⟨rfl, s32, w⟩
        refine ⟨rfl, ?_⟩
        have C_h31 := Lay_SH s32 C_h
        have K_h31_0 := PlanAt_SH s32 K_h_0
        have B_h31 := PriAt_SH s32 B_h
        try simp only [aI_wAL, fI_wAL, aL_wA, aL_wF, aI_wA_ne, aI_wF_ne, fI_wA_ne, fI_wF_ne, fI_wF_nk, aL_wAL_ne, J_sameA, J_sameF, aL_same, Nat.add_left_cancel_iff, Nat.add_eq_left, Nat.left_eq_add, not_false_eq_true, Nat.reduceEqDiff, Nat.reduceAdd, J_add, J_sub, J_mul, J_neg, J_and, J_or, J_xor, J_shl, J_shr, J_div, J_i2b, J_i2l, J_l2i, J_lcm, J_max, J_min, J_nab, J_nao, rdA, rdF, rdL, wA_fold, wF_fold, wL_fold, wC_fold]
        exact w
theorem m123p {X : Cst} {d m pl : Nat} {co ne be ln : Nat} {p e w N k0 : Int} {f : Int → Int} {S : Int → Int} {t : Prop} {h0 h : AH} {Q : Post} {J' : Int → AH → Prop} {Rd : Int → Int → Int → (Int → Int) → AH → Prop}
    (C0 : Lay h0) (K0 : PlanAt h0 pl) (B0 : PriAt h0 pl co ne be ln) (ap : apP pl co ne be) (hd : 4 ≤ d) (hm : m ≤ 5) (W : WF N S) (kf : Kf m (S 0) f)
    (hJ : ∀ k h, J' k h → SH h0 h ∧ Basp h pl S t m w) (mono : ∀ k k' h, k ≤ k' → J' k h → J' k' h)
    (rch : ∀ p e q g, Lbl S t m (-1) f p e q g → ∀ d', 3 ≤ d' → ∀ k h (Q : Post), k ≤ lab p e q → J' k h → (∀ h', SH h h' → J' (lab p e q + 1) h' → Rd p e q g h' → (∀ p' e' q' g', Rd p' e' q' g' h → Rd p' e' q' g' h') → Q none h') → Ex X PG d' 126 0 [some (.ref 250), some (.int (J (enc 8 m g))), some (.int (J (enc 8 m f))), some (.int (J (lbo p e q))), none] [] h Q)
    (hp : 0 ≤ p ∧ p < m) (he : 0 ≤ e ∧ e < S 1) (ho : opn S t e) (fp : f p = nr S e) (hk : k0 ≤ lab p e (-1)) (j : J' k0 h)
    (k : ∀ h', SH h h' → J' (lab p e 6) h' → (∀ q g, Lbl S t m (-1) f p e q g → Rd p e q g h') → (∀ p' e' q' g', Rd p' e' q' g' h → Rd p' e' q' g' h') → Q none h') : Ex X PG d 123 0 [some (.ref 250), some (.int (J (enc 8 m f))), some (.int (J p)), some (.int (J e)), none, none] [] h Q := by
  obtain ⟨d, rfl⟩ : ∃ e, d = e + 1 := ⟨d - 1, by omega⟩
  have b := W.1
  unfold WFb at b
  have kf8 : Kf m 8 f := kf.up b.2.1
  have dk := dr_ok W he
  have k1 := kf.fu hp dk.2
  have k18 : Kf m 8 (fu f p (fr S e)) := k1.up b.2.1
  have pw := pw_32k (b := 8) (by decide) (by decide) hm
  have ef := enc_b (b := 8) (by decide) m f kf8.1
  have e1 := enc_b (b := 8) (by decide) m _ k18.1
  have mv1 : mvd 8 (enc 8 m f) p (fr S e) = enc 8 m (fu f p (fr S e)) := mvd_enc (by decide) hm kf8 hp _
  have s0 := (hJ k0 h j).1
  have B := (hJ k0 h j).2
  have dd := B.1.2.2.2.1 e he.1 he.2
  refine r123p_0 (Lay_SH s0 C0) (PlanAt_SH s0 K0) (PriAt_SH s0 B0) ap (by omega) ?_
  rw [dd.2, mv1]
  refine ⟨by omega, by omega, by omega, by omega, by omega, by omega, ?_⟩
  have l1 : Lbl S t m (-1) f p e (-1) (fu f p (fr S e)) := ⟨he, ho, hp, Or.inl ⟨fp, Or.inl ⟨rfl, rfl⟩⟩⟩
  refine rch p e (-1) _ l1 d (by omega) k0 h _ hk j (fun h1 s1 j1 r1 o1 => ⟨rfl, s1, ?_⟩)
  have lp : ∀ (z : Nat) (q : Int) (h' : AH), m - q = z → 0 ≤ q → SH h h' → J' (lab p e (q - 1) + 1) h' → (∀ q' g, q' < q → Lbl S t m (-1) f p e q' g → Rd p e q' g h') → (∀ p' e' q' g', Rd p' e' q' g' h → Rd p' e' q' g' h') → Ex X PG (d + 1) 123 32 [some (.ref 250), some (.int (J (enc 8 m f))), some (.int (J p)), some (.int (J e)), some (.int (J (enc 8 m (fu f p (fr S e))))), some (.int (J q))] [] h' Q := by
    intro z
    induction z with
    | zero =>
      intro q h' z1 q0 s' j' a o
      have s0 := (hJ _ h' j').1
      have B := (hJ _ h' j').2
      refine r123p_32 (Lay_SH s0 C0) (PlanAt_SH s0 K0) (PriAt_SH s0 B0) ap (by omega) ?_
      rw [B.2.2.1]
      refine ⟨by omega, fun _ => k h' s' (mono _ _ _ (by unfold lab; omega) j') (fun q' g hl => a q' g (by have := Lbl_rg hl; omega) hl) o, fun y => absurd (by omega) y⟩
    | succ z ih =>
      intro q h' z1 q0 s' j' a o
      have s0 := (hJ _ h' j').1
      have B := (hJ _ h' j').2
      have dd := B.1.2.2.2.1 e he.1 he.2
      have no : (∀ g, ¬ Lbl S t m (-1) f p e q g) → Ex X PG (d + 1) 123 32 [some (.ref 250), some (.int (J (enc 8 m f))), some (.int (J p)), some (.int (J e)), some (.int (J (enc 8 m (fu f p (fr S e))))), some (.int (J (q + 1)))] [] h' Q := by
        intro no
        refine ih (q + 1) h' (by omega) (by omega) s' (mono _ _ _ (by unfold lab; omega) j') (fun q' g hq hl => ?_) o
        by_cases c : q' = q
        · subst c; exact absurd hl (no g)
        · exact a q' g (by omega) hl
      refine r123p_32 (Lay_SH s0 C0) (PlanAt_SH s0 K0) (PriAt_SH s0 B0) ap (by omega) ?_
      rw [B.2.2.1, dd.2, dd.1, dgt_enc (by decide) kf8 (p := q) (by omega)]
      refine ⟨by omega, fun y => absurd y (by omega), fun _ => ⟨by omega, fun c1 => ?_, fun c1 => ⟨by omega, by omega, by omega, fun c2 => ?_, fun c2 => ⟨by omega, by omega, by omega, by omega, by omega, ?_⟩⟩⟩⟩
      · refine no (fun g hl => ?_)
        obtain ⟨_, _, _, h4⟩ := hl
        rcases h4 with ⟨_, ⟨y, _⟩ | ⟨_, y, _⟩⟩ | ⟨y, _⟩
        · omega
        · exact y c1
        · omega
      · refine no (fun g hl => ?_)
        obtain ⟨_, _, _, h4⟩ := hl
        rcases h4 with ⟨_, ⟨y, _⟩ | ⟨_, _, y, _⟩⟩ | ⟨y, _⟩
        · omega
        · exact c2 y
        · omega
      · have mv2 : mvd 8 (enc 8 m (fu f p (fr S e))) q (nr S e) = enc 8 m (fu (fu f p (fr S e)) q (nr S e)) := mvd_enc (by decide) hm k18 (by omega) _
        rw [mv2]
        have l2 : Lbl S t m (-1) f p e q (fu (fu f p (fr S e)) q (nr S e)) := ⟨he, ho, hp, Or.inl ⟨fp, Or.inr ⟨by omega, c1, c2, rfl⟩⟩⟩
        refine rch p e q _ l2 d (by omega) _ h' _ (show lab p e (q - 1) + 1 ≤ lab p e q by unfold lab; omega) j' (fun h2 s2 j2 r2 o2 => ⟨rfl, s2, ?_⟩)
        refine ih (q + 1) h2 (by omega) (by omega) (s'.tr s2) (by rw [show q + 1 - 1 = q by omega]; exact j2) (fun q' g hq hl => ?_) (fun p' e' q' g' r => o2 _ _ _ _ (o _ _ _ _ r))
        by_cases c : q' = q
        · subst c
          rw [Lbl_det hl l2]; exact r2
        · exact o2 _ _ _ _ (a q' g (by omega) hl)
  exact lp m 0 h1 (by omega) (by omega) s1 j1 (fun q' g hq hl => by
    have := (Lbl_rg hl).2.2
    have e1 : q' = -1 := by omega
    subst e1
    rw [Lbl_det hl l1]; exact r1) o1
-- OutwardDoors$Passings.spread(I)V at 0
set_option maxRecDepth 20000 in
set_option maxHeartbeats 4000000 in
theorem r121p_0 {X : Cst} {d : Nat} {x1 : Int} {pl : Nat} {h : AH} {Q : Post} (C_h : Lay h) (K_h_0 : PlanAt h pl) {co ne be ln : Nat} (B_h : PriAt h pl co ne be ln) (ap : (co = 251 ∨ 281 ≤ co) ∧ (ne = 252 ∨ 281 ≤ ne) ∧ (be = 253 ∨ 281 ≤ be) ∧ (¬ co = ne ∧ ¬ co = be ∧ ¬ ne = be) ∧ (co < pl ∨ pl + 10 < co) ∧ (ne < pl ∨ pl + 10 < ne) ∧ (be < pl ∨ pl + 10 < be))
  (w : Ex X PG (d + 1) 121 2 [some (.ref 250), some (.int (J x1)), some (.int (J 0)), none, none] [] h Q) :
    Ex X PG (d + 1) 121 0 [some (.ref 250), some (.int (J x1)), none, none, none] [] h Q := by
  refine wpx_ok (cut := [2, 30]) 2 d 121 0 _ _ _ _ ?_
  show Ex X PG (d + 1) 121 2 [some (.ref 250), some (.int (J x1)), some (.int (J 0)), none, none] [] h Q
  try simp only [aI_wAL, fI_wAL, aL_wA, aL_wF, aI_wA_ne, aI_wF_ne, fI_wA_ne, fI_wF_ne, fI_wF_nk, aL_wAL_ne, J_sameA, J_sameF, aL_same, Nat.add_left_cancel_iff, Nat.add_eq_left, Nat.left_eq_add, not_false_eq_true, Nat.reduceEqDiff, Nat.reduceAdd, J_add, J_sub, J_mul, J_neg, J_and, J_or, J_xor, J_shl, J_shr, J_div, J_i2b, J_i2l, J_l2i, J_lcm, J_max, J_min, J_nab, J_nao, rdA, rdF, rdL, wA_fold, wF_fold, wL_fold, wC_fold]
  exact w
-- OutwardDoors$Passings.spread(I)V at 2
set_option maxRecDepth 20000 in
set_option maxHeartbeats 4000000 in
theorem r121p_2 {X : Cst} {d : Nat} {x1 : Int} {x2 : Int} {l3 : Option Value} {l4 : Option Value} {pl : Nat} {h : AH} {Q : Post} (C_h : Lay h) (K_h_0 : PlanAt h pl) {co ne be ln : Nat} (B_h : PriAt h pl co ne be ln) (ap : (co = 251 ∨ 281 ≤ co) ∧ (ne = 252 ∨ 281 ≤ ne) ∧ (be = 253 ∨ 281 ≤ be) ∧ (¬ co = ne ∧ ¬ co = be ∧ ¬ ne = be) ∧ (co < pl ∨ pl + 10 < co) ∧ (ne < pl ∨ pl + 10 < ne) ∧ (be < pl ∨ pl + 10 < be)) (hd : 1 ≤ d)
  (w : (-2147483648 ≤ x2 ∧ x2 < 2147483648) ∧ ((fI h 250 2 ≤ x2 → ((fI h 250 3 = (-1) → Q none h) ∧ (¬ fI h 250 3 = (-1) → Ex X PG d 131 0 [some (.ref 250), some (.int (J x1)), none] [] h (fun v6 h7 => v6 = none ∧ SH h h7 ∧ Q none h7)))) ∧ (¬ fI h 250 2 ≤ x2 → (0 ≤ x1 ∧ x1 < 2147483648) ∧ (0 ≤ x2 ∧ x2 < 5) ∧ (0 ≤ (fI h 250 1) * 8 + (dgt 8 x1 x2) ∧ (fI h 250 1) * 8 + (dgt 8 x1 x2) < 16) ∧ Ex X PG (d + 1) 121 30 [some (.ref 250), some (.int (J x1)), some (.int (J x2)), some (.int (J (aI h (pl + 9) ((fI h 250 1) * 8 + (dgt 8 x1 x2))))), some (.int (J 0))] [] h Q))) :
    Ex X PG (d + 1) 121 2 [some (.ref 250), some (.int (J x1)), some (.int (J x2)), l3, l4] [] h Q := by
  refine wpx_ok (cut := [2, 30]) 15 d 121 2 _ _ _ _ ?_
  show (hs h 250 = (0, 3) ∨ hs h 250 = (0, 7)) ∧ (((hF h 250 2) ≤ (J x2) → (hs h 250 = (0, 3) ∨ hs h 250 = (0, 7)) ∧ (((hF h 250 3) = (J (-1)) → Q none h) ∧ (¬ ((hF h 250 3) = (J (-1))) → (hs h 250 = (0, 3) → Ex X PG d 131 0 [some (.ref 250), some (.int (J x1)), none] [] h (fun v6 h7 => v6 = none ∧ Q none h7)) ∧ (¬ hs h 250 = (0, 3) → hs h 250 = (0, 7) ∧ Ex X PG d 131 0 [some (.ref 250), some (.int (J x1)), none] [] h (fun v6 h7 => v6 = none ∧ Q none h7))))) ∧ (¬ ((hF h 250 2) ≤ (J x2)) → (hs h 250 = (0, 3) ∨ hs h 250 = (0, 7)) ∧ ∃ q9, hR h 250 0 = some q9 ∧ (hs h 250 = (0, 3) ∨ hs h 250 = (0, 7)) ∧ Ex X PG d 122 0 [some (.int (J x1)), some (.int (J x2))] [] h (fun v10 h11 => ∃ r12, v10 = some (.int r12) ∧ hs h11 q9 = (0, 2) ∧ Ex X PG d 97 0 [some (.ref q9), some (.int (hF h 250 1)), some (.int r12)] [] h11 (fun v15 h16 => ∃ r17, v15 = some (.int r17) ∧ Ex X PG (d + 1) 121 30 [some (.ref 250), some (.int (J x1)), some (.int (J x2)), some (.int r17), some (.int (J 0))] [] h16 Q))))
  try simp only [aI_wAL, fI_wAL, aL_wA, aL_wF, aI_wA_ne, aI_wF_ne, fI_wA_ne, fI_wF_ne, fI_wF_nk, aL_wAL_ne, J_sameA, J_sameF, aL_same, Nat.add_left_cancel_iff, Nat.add_eq_left, Nat.left_eq_add, not_false_eq_true, Nat.reduceEqDiff, Nat.reduceAdd, J_add, J_sub, J_mul, J_neg, J_and, J_or, J_xor, J_shl, J_shr, J_div, J_i2b, J_i2l, J_l2i, J_lcm, J_max, J_min, J_nab, J_nao, rdA, rdF, rdL, wA_fold, wF_fold, wL_fold, wC_fold]
  refine ⟨(Or.inl (ls250 C_h)), ?_⟩
  obtain ⟨k3, w⟩ := w
  refine ⟨fun c1 => ?_, fun c1 => ?_⟩
  · have t2 : fI h 250 2 ≤ x2 := ((Jle (rg_toInt _) k3).mp c1)
    replace w := w.1 t2
    refine ⟨(Or.inl (ls250 C_h)), ?_⟩
    refine ⟨fun c4 => ?_, fun c4 => ?_⟩
    · have t5 : fI h 250 3 = (-1) := ((Jeq (rg_toInt _) (by decide)).mp c4)
      replace w := w.1 t5
      exact w
    · have t5 : ¬ fI h 250 3 = (-1) := (fun e => c4 ((Jeq (rg_toInt _) (by decide)).mpr e))
      replace w := w.2 t5
      refine ⟨fun _ => ?_, fun e => absurd (ls250 C_h) e⟩
      refine Ex.mono w (Nat.le_refl _) ?_
      rintro v6 h7 ⟨rfl, s8, w⟩
      refine ⟨rfl, ?_⟩
      have C_h7 := Lay_SH s8 C_h
      have K_h7_0 := PlanAt_SH s8 K_h_0
      have B_h7 := PriAt_SH s8 B_h
      try simp only [aI_wAL, fI_wAL, aL_wA, aL_wF, aI_wA_ne, aI_wF_ne, fI_wA_ne, fI_wF_ne, fI_wF_nk, aL_wAL_ne, J_sameA, J_sameF, aL_same, Nat.add_left_cancel_iff, Nat.add_eq_left, Nat.left_eq_add, not_false_eq_true, Nat.reduceEqDiff, Nat.reduceAdd, J_add, J_sub, J_mul, J_neg, J_and, J_or, J_xor, J_shl, J_shr, J_div, J_i2b, J_i2l, J_l2i, J_lcm, J_max, J_min, J_nab, J_nao, rdA, rdF, rdL, wA_fold, wF_fold, wL_fold, wC_fold]
      exact w
  · have t2 : ¬ fI h 250 2 ≤ x2 := (fun e => c1 ((Jle (rg_toInt _) k3).mpr e))
    replace w := w.2 t2
    refine ⟨(Or.inl (ls250 C_h)), _, B_h.1, ?_⟩
    refine ⟨(Or.inl (ls250 C_h)), ?_⟩
    obtain ⟨k13, w⟩ := w
    obtain ⟨k14, w⟩ := w
    refine m122 (h := h) (s := x1) (p := x2) C_h (by omega) k13 k14 ?_
    refine ⟨_, rfl, ?_⟩
    try simp only [aI_wAL, fI_wAL, aL_wA, aL_wF, aI_wA_ne, aI_wF_ne, fI_wA_ne, fI_wF_ne, fI_wF_nk, aL_wAL_ne, J_sameA, J_sameF, aL_same, Nat.add_left_cancel_iff, Nat.add_eq_left, Nat.left_eq_add, not_false_eq_true, Nat.reduceEqDiff, Nat.reduceAdd, J_add, J_sub, J_mul, J_neg, J_and, J_or, J_xor, J_shl, J_shr, J_div, J_i2b, J_i2l, J_l2i, J_lcm, J_max, J_min, J_nab, J_nao, rdA, rdF, rdL, wA_fold, wF_fold, wL_fold, wC_fold]
    refine ⟨(plan_0 K_h_0), ?_⟩
    obtain ⟨k18, w⟩ := w
    refine m97 (h := h) (a := pl) (r := (fI h 250 1)) (x := (dgt 8 x1 x2)) C_h K_h_0 (by omega) k18 ?_
    refine ⟨_, rfl, ?_⟩
    try simp only [aI_wAL, fI_wAL, aL_wA, aL_wF, aI_wA_ne, aI_wF_ne, fI_wA_ne, fI_wF_ne, fI_wF_nk, aL_wAL_ne, J_sameA, J_sameF, aL_same, Nat.add_left_cancel_iff, Nat.add_eq_left, Nat.left_eq_add, not_false_eq_true, Nat.reduceEqDiff, Nat.reduceAdd, J_add, J_sub, J_mul, J_neg, J_and, J_or, J_xor, J_shl, J_shr, J_div, J_i2b, J_i2l, J_l2i, J_lcm, J_max, J_min, J_nab, J_nao, rdA, rdF, rdL, wA_fold, wF_fold, wL_fold, wC_fold]
    exact w
-- OutwardDoors$Passings.spread(I)V at 30
set_option maxRecDepth 20000 in
set_option maxHeartbeats 4000000 in
theorem r121p_30 {X : Cst} {d : Nat} {x1 : Int} {x2 : Int} {x3 : Int} {x4 : Int} {pl : Nat} {h : AH} {Q : Post} (C_h : Lay h) (K_h_0 : PlanAt h pl) {co ne be ln : Nat} (B_h : PriAt h pl co ne be ln) (ap : (co = 251 ∨ 281 ≤ co) ∧ (ne = 252 ∨ 281 ≤ ne) ∧ (be = 253 ∨ 281 ≤ be) ∧ (¬ co = ne ∧ ¬ co = be ∧ ¬ ne = be) ∧ (co < pl ∨ pl + 10 < co) ∧ (ne < pl ∨ pl + 10 < ne) ∧ (be < pl ∨ pl + 10 < be)) (hd : 2 ≤ d)
  (w : (-2147483648 ≤ x4 ∧ x4 < 2147483648) ∧ ((14 ≤ x4 → Ex X PG (d + 1) 121 2 [some (.ref 250), some (.int (J x1)), some (.int (J (x2 + 1))), some (.int (J x3)), some (.int (J x4))] [] h Q) ∧ (¬ 14 ≤ x4 → (-2147483648 ≤ x3 ∧ x3 < 2147483648) ∧ ((x3 = 0 → Ex X PG (d + 1) 121 2 [some (.ref 250), some (.int (J x1)), some (.int (J (x2 + 1))), some (.int (J x3)), some (.int (J x4))] [] h Q) ∧ (¬ x3 = 0 → (0 < x3 ∧ x3 < 16384) ∧ Ex X PG d 123 0 [some (.ref 250), some (.int (J x1)), some (.int (J x2)), some (.int (J (lowb x3))), none, none] [] h (fun v11 h12 => v11 = none ∧ SH h h12 ∧ Ex X PG (d + 1) 121 30 [some (.ref 250), some (.int (J x1)), some (.int (J x2)), some (.int (J (iand x3 (x3 - 1)))), some (.int (J (x4 + 1)))] [] h12 Q)))))) :
    Ex X PG (d + 1) 121 30 [some (.ref 250), some (.int (J x1)), some (.int (J x2)), some (.int (J x3)), some (.int (J x4))] [] h Q := by
  refine wpx_ok (cut := [2, 30]) 19 d 121 30 _ _ _ _ ?_
  show (((J 14) ≤ (J x4) → Ex X PG (d + 1) 121 2 [some (.ref 250), some (.int (J x1)), some (.int ((J x2) + (J 1))), some (.int (J x3)), some (.int (J x4))] [] h Q) ∧ (¬ ((J 14) ≤ (J x4)) → (((J x3) = (J 0) → Ex X PG (d + 1) 121 2 [some (.ref 250), some (.int (J x1)), some (.int ((J x2) + (J 1))), some (.int (J x3)), some (.int (J x4))] [] h Q) ∧ (¬ ((J x3) = (J 0)) → Ex X PG d 98 0 [some (.int (J x3))] [] h (fun v7 h8 => ∃ r9, v7 = some (.int r9) ∧ (hs h8 250 = (0, 3) → Ex X PG d 123 0 [some (.ref 250), some (.int (J x1)), some (.int (J x2)), some (.int r9), none, none] [] h8 (fun v11 h12 => v11 = none ∧ Ex X PG (d + 1) 121 30 [some (.ref 250), some (.int (J x1)), some (.int (J x2)), some (.int ((J x3) &&& ((J x3) - (J 1)))), some (.int ((J x4) + (J 1)))] [] h12 Q)) ∧ (¬ hs h8 250 = (0, 3) → hs h8 250 = (0, 7) ∧ Ex X PG d 123 0 [some (.ref 250), some (.int (J x1)), some (.int (J x2)), some (.int r9), none, none] [] h8 (fun v11 h12 => v11 = none ∧ Ex X PG (d + 1) 121 30 [some (.ref 250), some (.int (J x1)), some (.int (J x2)), some (.int ((J x3) &&& ((J x3) - (J 1)))), some (.int ((J x4) + (J 1)))] [] h12 Q)))))))
  try simp only [aI_wAL, fI_wAL, aL_wA, aL_wF, aI_wA_ne, aI_wF_ne, fI_wA_ne, fI_wF_ne, fI_wF_nk, aL_wAL_ne, J_sameA, J_sameF, aL_same, Nat.add_left_cancel_iff, Nat.add_eq_left, Nat.left_eq_add, not_false_eq_true, Nat.reduceEqDiff, Nat.reduceAdd, J_add, J_sub, J_mul, J_neg, J_and, J_or, J_xor, J_shl, J_shr, J_div, J_i2b, J_i2l, J_l2i, J_lcm, J_max, J_min, J_nab, J_nao, rdA, rdF, rdL, wA_fold, wF_fold, wL_fold, wC_fold]
  obtain ⟨k3, w⟩ := w
  refine ⟨fun c1 => ?_, fun c1 => ?_⟩
  · have t2 : 14 ≤ x4 := ((Jle (by decide) k3).mp c1)
    replace w := w.1 t2
    exact w
  · have t2 : ¬ 14 ≤ x4 := (fun e => c1 ((Jle (by decide) k3).mpr e))
    replace w := w.2 t2
    obtain ⟨k6, w⟩ := w
    refine ⟨fun c4 => ?_, fun c4 => ?_⟩
    · have t5 : x3 = 0 := ((Jeq k6 (by decide)).mp c4)
      replace w := w.1 t5
      exact w
    · have t5 : ¬ x3 = 0 := (fun e => c4 ((Jeq k6 (by decide)).mpr e))
      replace w := w.2 t5
      obtain ⟨k10, w⟩ := w
      refine m98 (h := h) (x := x3) C_h (by omega) k10 ?_
      refine ⟨_, rfl, ?_⟩
      try simp only [aI_wAL, fI_wAL, aL_wA, aL_wF, aI_wA_ne, aI_wF_ne, fI_wA_ne, fI_wF_ne, fI_wF_nk, aL_wAL_ne, J_sameA, J_sameF, aL_same, Nat.add_left_cancel_iff, Nat.add_eq_left, Nat.left_eq_add, not_false_eq_true, Nat.reduceEqDiff, Nat.reduceAdd, J_add, J_sub, J_mul, J_neg, J_and, J_or, J_xor, J_shl, J_shr, J_div, J_i2b, J_i2l, J_l2i, J_lcm, J_max, J_min, J_nab, J_nao, rdA, rdF, rdL, wA_fold, wF_fold, wL_fold, wC_fold]
      refine ⟨fun _ => ?_, fun e => absurd (ls250 C_h) e⟩
      refine Ex.mono w (Nat.le_refl _) ?_
      rintro v11 h12 ⟨rfl, s13, w⟩
      refine ⟨rfl, ?_⟩
      have C_h12 := Lay_SH s13 C_h
      have K_h12_0 := PlanAt_SH s13 K_h_0
      have B_h12 := PriAt_SH s13 B_h
      try simp only [aI_wAL, fI_wAL, aL_wA, aL_wF, aI_wA_ne, aI_wF_ne, fI_wA_ne, fI_wF_ne, fI_wF_nk, aL_wAL_ne, J_sameA, J_sameF, aL_same, Nat.add_left_cancel_iff, Nat.add_eq_left, Nat.left_eq_add, not_false_eq_true, Nat.reduceEqDiff, Nat.reduceAdd, J_add, J_sub, J_mul, J_neg, J_and, J_or, J_xor, J_shl, J_shr, J_div, J_i2b, J_i2l, J_l2i, J_lcm, J_max, J_min, J_nab, J_nao, rdA, rdF, rdL, wA_fold, wF_fold, wL_fold, wC_fold]
      exact w
theorem m121p {X : Cst} {d m pl : Nat} {co ne be ln : Nat} {w N k0 : Int} {f : Int → Int} {S : Int → Int} {t : Prop} {h0 h : AH} {Q : Post} {J' : Int → AH → Prop} {Rd : Int → Int → Int → (Int → Int) → AH → Prop}
    (C0 : Lay h0) (K0 : PlanAt h0 pl) (B0 : PriAt h0 pl co ne be ln) (ap : apP pl co ne be) (hd : 5 ≤ d) (hm : m ≤ 5) (W : WF N S) (kf : Kf m (S 0) f)
    (hJ : ∀ k h, J' k h → SH h0 h ∧ Basp h pl S t m w) (mono : ∀ k k' h, k ≤ k' → J' k h → J' k' h)
    (rch : ∀ p e q g, Lbl S t m (-1) f p e q g → ∀ d', 3 ≤ d' → ∀ k h (Q : Post), k ≤ lab p e q → J' k h → (∀ h', SH h h' → J' (lab p e q + 1) h' → Rd p e q g h' → (∀ p' e' q' g', Rd p' e' q' g' h → Rd p' e' q' g' h') → Q none h') → Ex X PG d' 126 0 [some (.ref 250), some (.int (J (enc 8 m g))), some (.int (J (enc 8 m f))), some (.int (J (lbo p e q))), none] [] h Q)
    (hw : w = -1)
    (hk : k0 ≤ lab 0 0 (-1)) (j : J' k0 h)
    (k : ∀ h', SH h h' → J' (lab 8 0 0) h' → (∀ p e q g, Lbl S t m w f p e q g → Rd p e q g h') → Q none h') : Ex X PG d 121 0 [some (.ref 250), some (.int (J (enc 8 m f))), none, none, none] [] h Q := by
  obtain ⟨d, rfl⟩ : ∃ e, d = e + 1 := ⟨d - 1, by omega⟩
  have b := W.1
  unfold WFb at b
  have kf8 : Kf m 8 f := kf.up b.2.1
  have pw := pw_32k (b := 8) (by decide) (by decide) hm
  have ef := enc_b (b := 8) (by decide) m f kf8.1
  have lo : ∀ (z : Nat) (p : Int) (h' : AH) (l3 l4 : Option Value), m - p = z → 0 ≤ p → SH h h' → J' (lab p 0 (-1)) h' → (∀ p' e q g, p' < p → Lbl S t m (-1) f p' e q g → Rd p' e q g h') → Ex X PG (d + 1) 121 2 [some (.ref 250), some (.int (J (enc 8 m f))), some (.int (J p)), l3, l4] [] h' Q := by
    intro z
    induction z with
    | zero =>
      intro p h' l3 l4 z1 p0 s' j' a
      have s0 := (hJ _ h' j').1
      have B := (hJ _ h' j').2
      have an : ∀ p e q g, Lbl S t m (-1) f p e q g → Rd p e q g h' := fun p e q g hl => a p e q g (by have := Lbl_rg hl; omega) hl
      refine r121p_2 (Lay_SH s0 C0) (PlanAt_SH s0 K0) (PriAt_SH s0 B0) ap (by omega) ?_
      rw [B.2.2.1, B.2.2.2]
      refine ⟨by omega, fun _ => ⟨fun _ => k h' s' (mono _ _ _ (by unfold lab; omega) j') (fun p e q g hl => an p e q g (by rw [hw] at hl; exact hl)), fun c => absurd hw c⟩, fun y => absurd (by omega) y⟩
    | succ z ih =>
      intro p h' l3 l4 z1 p0 s' j' a
      have s0 := (hJ _ h' j').1
      have B := (hJ _ h' j').2
      have fpr := kf.1 p p0 (by omega)
      have bo := bI_or t
      refine r121p_2 (Lay_SH s0 C0) (PlanAt_SH s0 K0) (PriAt_SH s0 B0) ap (by omega) ?_
      rw [B.2.2.1, B.2.1, dgt_enc (by decide) kf8 (p := p) (by omega)]
      have od := B.1.2.2.2.2.2.2.2.1 (bI t) (f p) (by omega) (by omega) fpr.1 (by omega)
      rw [bI_1] at od
      refine ⟨by omega, fun y => absurd y (by omega), fun _ => ⟨by omega, by omega, by omega, ?_⟩⟩
      -- the doors out, one by one
      have l1 : ∀ (y : Nat) (x u : Int) (h' : AH), 14 - u = y → 0 ≤ u → (0 ≤ x ∧ x < 16384) → (∀ e, 0 ≤ e → e < u → ¬ bt x e) → SH h h' → ∀ kk, J' kk h' → (∀ e, 0 ≤ e → bt x e → fouP S t (f p) e ∧ kk ≤ lab p e (-1)) → kk ≤ lab (p + 1) 0 (-1) → (∀ p' e q g, p' < p → Lbl S t m (-1) f p' e q g → Rd p' e q g h') → (∀ e q g, ¬ bt x e → Lbl S t m (-1) f p e q g → Rd p e q g h') → Ex X PG (d + 1) 121 30 [some (.ref 250), some (.int (J (enc 8 m f))), some (.int (J p)), some (.int (J x)), some (.int (J u))] [] h' Q := by
        have fin : ∀ (h' : AH) (kk : Int) (l3 l4 : Option Value), SH h h' → J' kk h' → kk ≤ lab (p + 1) 0 (-1) → (∀ p' e q g, p' < p → Lbl S t m (-1) f p' e q g → Rd p' e q g h') → (∀ e q g, Lbl S t m (-1) f p e q g → Rd p e q g h') → Ex X PG (d + 1) 121 2 [some (.ref 250), some (.int (J (enc 8 m f))), some (.int (J (p + 1))), l3, l4] [] h' Q := by
          intro h' kk l3 l4 s' j' hk a a2
          refine ih (p + 1) h' l3 l4 (by omega) (by omega) s' (mono _ _ _ hk j') (fun p' e q g hp hl => ?_)
          by_cases c : p' = p
          · subst c; exact a2 e q g hl
          · exact a p' e q g (by omega) hl
        intro y
        induction y with
        | zero =>
          intro x u h' y1 u0 hx nb s' kk j' bx hk a a2
          have s0 := (hJ _ h' j').1
          refine r121p_30 (Lay_SH s0 C0) (PlanAt_SH s0 K0) (PriAt_SH s0 B0) ap (by omega) ⟨by omega, fun _ => fin h' kk _ _ s' j' hk a (fun e q g hl => a2 e q g (nb e (Lbl_rg hl).2.1.1 (by have := (Lbl_rg hl).2.1; omega)) hl), fun y => absurd (by omega) y⟩
        | succ y ih2 =>
          intro x u h' y1 u0 hx nb s' kk j' bx hk a a2
          have s0 := (hJ _ h' j').1
          refine r121p_30 (Lay_SH s0 C0) (PlanAt_SH s0 K0) (PriAt_SH s0 B0) ap (by omega) ⟨by omega, fun y => absurd y (by omega), fun _ => ⟨by omega, fun c => ?_, fun c => ⟨by omega, ?_⟩⟩⟩
          · refine fin h' kk _ _ s' j' hk a (fun e q g hl => a2 e q g (fun z => ?_) hl)
            rw [c] at z
            unfold bt at z
            rw [show (0 : Int).toNat = 0 from rfl, Nat.zero_testBit] at z
            exact absurd z (by decide)
          · obtain ⟨q1, q2, q3, q4, q5⟩ := clrlow (x := x) (by omega)
            have fo := bx _ q4 q3
            have lu : u ≤ lowb x := by
              apply Classical.byContradiction
              intro z
              exact nb (lowb x) q4 (by omega) q3
            refine m123p (J' := J') (Rd := Rd) C0 K0 B0 ap (by omega) hm W kf hJ mono rch ⟨p0, by omega⟩ ⟨q4, fo.1.1⟩ fo.1.2.1 fo.1.2.2.symm fo.2 j' (fun h2 s2 j2 r2 o2 => ⟨rfl, s2, ?_⟩)
            refine ih2 (iand x (x - 1)) (u + 1) h2 (by omega) (by omega) (by omega) (fun e e0 e1 z => ?_) (s'.tr s2) _ j2 (fun e e0 hb => ?_) (by have := fo.1.1; unfold lab; omega) (fun p' e q g hp hl => o2 _ _ _ _ (a p' e q g hp hl)) (fun e q g nbt hl => ?_)
            · have := (q2 e e0).mp z
              by_cases c2 : e = u
              · subst c2
                have := q5 e e0 this.1
                omega
              · exact nb e e0 (by omega) this.1
            · have z := (q2 e e0).mp hb
              have l5 := q5 e e0 z.1
              exact ⟨(bx e e0 z.1).1, by unfold lab; omega⟩
            · by_cases c2 : e = lowb x
              · subst c2; exact r2 q g hl
              · have e0 := (Lbl_rg hl).2.1.1
                exact o2 _ _ _ _ (a2 e q g (fun z => nbt ((q2 e e0).mpr ⟨z, c2⟩)) hl)
      refine l1 14 _ 0 h' (by omega) (by omega) od.1 (fun e e0 e1 => by omega) s' _ j' (fun e e0 hb => ?_) (by unfold lab; omega) a (fun e q g nbt hl => ?_)
      · have e14 : e < 14 := by
          apply Classical.byContradiction
          intro z
          unfold bt at hb
          rw [Nat.testBit_lt_two_pow (Nat.lt_of_lt_of_le (show (aI h' (pl + 9) (bI t * 8 + f p)).toNat < 2 ^ 14 by omega) (Nat.pow_le_pow_right (by decide) (by omega)))] at hb
          exact absurd hb (by decide)
        exact ⟨(od.2 e e0 e14).mp hb, by unfold lab; omega⟩
      · have rg := (Lbl_rg hl).2.1
        refine absurd ((od.2 e rg.1 (by omega)).mpr ⟨rg.2, hl.2.1, ?_⟩) nbt
        obtain ⟨_, _, _, h4⟩ := hl
        rcases h4 with ⟨z, _⟩ | ⟨z, _⟩
        · exact z.symm
        · omega
  refine r121p_0 (Lay_SH (hJ _ h j).1 C0) (PlanAt_SH (hJ _ h j).1 K0) (PriAt_SH (hJ _ h j).1 B0) ap ?_
  exact lo m 0 h _ _ (by omega) (by omega) SH.rf (mono _ _ _ hk j) (fun p' e q g hp hl => by have := Lbl_rg hl; omega)
