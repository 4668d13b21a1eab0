/-! The reference takes a castle over. -/
def tlt (S : Int → Int) (a b : Int) : Prop := S (34 + a) < S (34 + b) ∨ (S (34 + a) = S (34 + b) ∧ a < b)
/-- door d of S is door d of R, turned outward -/
def trd (R S : Int → Int) (d : Int) : Prop := S (42 + 3 * d + 2) = R (42 + 3 * d + 2) ∧ ((tlt R (R (42 + 3 * d)) (R (42 + 3 * d + 1)) ∧ S (42 + 3 * d) = R (42 + 3 * d) ∧ S (42 + 3 * d + 1) = R (42 + 3 * d + 1)) ∨ (¬ tlt R (R (42 + 3 * d)) (R (42 + 3 * d + 1)) ∧ S (42 + 3 * d) = R (42 + 3 * d + 1) ∧ S (42 + 3 * d + 1) = R (42 + 3 * d)))
def TrT (R S : Int → Int) (n : Int) : Prop := (∀ k, 0 ≤ k → k < 123 → (k < 42 ∨ 42 + 3 * n ≤ k) → S k = R k) ∧ ∀ d, 0 ≤ d → d < n → trd R S d
def FinS (R S : Int → Int) : Prop := (∀ k, 0 ≤ k → k < 42 → S k = R k) ∧ (∀ d, 0 ≤ d → d < R 1 → trd R S d) ∧ (∀ k, 84 ≤ k → k < 115 → S k = 0) ∧ ∀ p, 0 ≤ p → p < R 2 → S (115 + 2 * p) = R (10 + 6 * p) ∧ S (115 + 2 * p + 1) = R (10 + 6 * p + 1)
-- OutwardDoorsModel.turnsDoors()V at 0
set_option maxRecDepth 20000 in
set_option maxHeartbeats 4000000 in
theorem r208_0 {X : Cst} {d : Nat}  {h : AH} {Q : Post} (C_h : Lay h)
  (w : Ex X PG (d + 1) 208 2 [some (.ref 256), some (.int (J 0)), none, none, none] [] h Q) :
    Ex X PG (d + 1) 208 0 [some (.ref 256), none, none, none, none] [] h Q := by
  refine wpx_ok (cut := [2]) 2 d 208 0 _ _ _ _ ?_
  show Ex X PG (d + 1) 208 2 [some (.ref 256), some (.int (J 0)), none, none, none] [] h Q
  try simp only [aI_wAL, fI_wAL, aL_wA, aL_wF, aI_wA_ne, aI_wF_ne, fI_wA_ne, fI_wF_ne, fI_wF_nk, aL_wAL_ne, J_sameA, J_sameF, aL_same, Nat.add_left_cancel_iff, Nat.add_eq_left, Nat.left_eq_add, not_false_eq_true, Nat.reduceEqDiff, Nat.reduceAdd, J_add, J_sub, J_mul, J_neg, J_and, J_or, J_xor, J_shl, J_shr, J_div, J_i2b, J_i2l, J_l2i, J_lcm, J_max, J_min, J_nab, J_nao, rdA, rdF, rdL, wA_fold, wF_fold, wL_fold, wC_fold]
  exact w
-- OutwardDoorsModel.turnsDoors()V at 2
set_option maxRecDepth 20000 in
set_option maxHeartbeats 4000000 in
theorem r208_2 {X : Cst} {d : Nat} {x1 : Int} {l2 : Option Value} {l3 : Option Value} {l4 : Option Value} {h : AH} {Q : Post} (C_h : Lay h)
  (w : (-2147483648 ≤ x1 ∧ x1 < 2147483648) ∧ ((aI h 266 1 ≤ x1 → Q none h) ∧ (¬ aI h 266 1 ≤ x1 → (0 ≤ 42 + (3 * x1) ∧ 42 + (3 * x1) < 123) ∧ (0 ≤ (42 + (3 * x1)) + 1 ∧ (42 + (3 * x1)) + 1 < 123) ∧ (0 ≤ 34 + (aI h 266 (42 + (3 * x1))) ∧ 34 + (aI h 266 (42 + (3 * x1))) < 123) ∧ (0 ≤ 34 + (aI h 266 ((42 + (3 * x1)) + 1)) ∧ 34 + (aI h 266 ((42 + (3 * x1)) + 1)) < 123) ∧ ((aI h 266 (34 + (aI h 266 (42 + (3 * x1)))) < aI h 266 (34 + (aI h 266 ((42 + (3 * x1)) + 1))) → Ex X PG (d + 1) 208 2 [some (.ref 256), some (.int (J (x1 + 1))), some (.int (J (42 + (3 * x1)))), some (.int (J (aI h 266 (42 + (3 * x1))))), some (.int (J (aI h 266 ((42 + (3 * x1)) + 1))))] [] h Q) ∧ (¬ aI h 266 (34 + (aI h 266 (42 + (3 * x1)))) < aI h 266 (34 + (aI h 266 ((42 + (3 * x1)) + 1))) → ((¬ aI h 266 (34 + (aI h 266 (42 + (3 * x1)))) = aI h 266 (34 + (aI h 266 ((42 + (3 * x1)) + 1))) → Ex X PG (d + 1) 208 2 [some (.ref 256), some (.int (J (x1 + 1))), some (.int (J (42 + (3 * x1)))), some (.int (J (aI h 266 (42 + (3 * x1))))), some (.int (J (aI h 266 ((42 + (3 * x1)) + 1))))] [] (wA (wA h 266 (42 + (3 * x1)) (aI h 266 ((42 + (3 * x1)) + 1))) 266 ((42 + (3 * x1)) + 1) (aI h 266 (42 + (3 * x1)))) Q) ∧ (aI h 266 (34 + (aI h 266 (42 + (3 * x1)))) = aI h 266 (34 + (aI h 266 ((42 + (3 * x1)) + 1))) → ((aI h 266 ((42 + (3 * x1)) + 1) ≤ aI h 266 (42 + (3 * x1)) → Ex X PG (d + 1) 208 2 [some (.ref 256), some (.int (J (x1 + 1))), some (.int (J (42 + (3 * x1)))), some (.int (J (aI h 266 (42 + (3 * x1))))), some (.int (J (aI h 266 ((42 + (3 * x1)) + 1))))] [] (wA (wA h 266 (42 + (3 * x1)) (aI h 266 ((42 + (3 * x1)) + 1))) 266 ((42 + (3 * x1)) + 1) (aI h 266 (42 + (3 * x1)))) Q) ∧ (¬ aI h 266 ((42 + (3 * x1)) + 1) ≤ aI h 266 (42 + (3 * x1)) → Ex X PG (d + 1) 208 2 [some (.ref 256), some (.int (J (x1 + 1))), some (.int (J (42 + (3 * x1)))), some (.int (J (aI h 266 (42 + (3 * x1))))), some (.int (J (aI h 266 ((42 + (3 * x1)) + 1))))] [] h Q))))))))) :
    Ex X PG (d + 1) 208 2 [some (.ref 256), some (.int (J x1)), l2, l3, l4] [] h Q := by
  refine wpx_ok (cut := [2]) 67 d 208 2 _ _ _ _ ?_
  show hs h 256 = (0, 11) ∧ ∃ q1, hR h 256 20 = some q1 ∧ (hs h q1).1 = 1 ∧ ix (J 1) (hs h q1).2 ∧ (((hI h q1 (Int32.toNatClampNeg (J 1))) ≤ (J x1) → Q none h) ∧ (¬ ((hI h q1 (Int32.toNatClampNeg (J 1))) ≤ (J x1)) → hs h 256 = (0, 11) ∧ ∃ q5, hR h 256 20 = some q5 ∧ (hs h q5).1 = 1 ∧ ix ((J 42) + ((J 3) * (J x1))) (hs h q5).2 ∧ hs h 256 = (0, 11) ∧ ∃ q7, hR h 256 20 = some q7 ∧ (hs h q7).1 = 1 ∧ ix (((J 42) + ((J 3) * (J x1))) + (J 1)) (hs h q7).2 ∧ hs h 256 = (0, 11) ∧ ∃ q9, hR h 256 20 = some q9 ∧ (hs h q9).1 = 1 ∧ ix ((J 34) + (hI h q5 (Int32.toNatClampNeg ((J 42) + ((J 3) * (J x1)))))) (hs h q9).2 ∧ hs h 256 = (0, 11) ∧ ∃ q11, hR h 256 20 = some q11 ∧ (hs h q11).1 = 1 ∧ ix ((J 34) + (hI h q7 (Int32.toNatClampNeg (((J 42) + ((J 3) * (J x1))) + (J 1))))) (hs h q11).2 ∧ (((hI h q9 (Int32.toNatClampNeg ((J 34) + (hI h q5 (Int32.toNatClampNeg ((J 42) + ((J 3) * (J x1)))))))) < (hI h q11 (Int32.toNatClampNeg ((J 34) + (hI h q7 (Int32.toNatClampNeg (((J 42) + ((J 3) * (J x1))) + (J 1))))))) → Ex X PG (d + 1) 208 2 [some (.ref 256), some (.int ((J x1) + (J 1))), some (.int ((J 42) + ((J 3) * (J x1)))), some (.int (hI h q5 (Int32.toNatClampNeg ((J 42) + ((J 3) * (J x1)))))), some (.int (hI h q7 (Int32.toNatClampNeg (((J 42) + ((J 3) * (J x1))) + (J 1)))))] [] h Q) ∧ (¬ ((hI h q9 (Int32.toNatClampNeg ((J 34) + (hI h q5 (Int32.toNatClampNeg ((J 42) + ((J 3) * (J x1)))))))) < (hI h q11 (Int32.toNatClampNeg ((J 34) + (hI h q7 (Int32.toNatClampNeg (((J 42) + ((J 3) * (J x1))) + (J 1)))))))) → hs h 256 = (0, 11) ∧ ∃ q15, hR h 256 20 = some q15 ∧ (hs h q15).1 = 1 ∧ ix ((J 34) + (hI h q5 (Int32.toNatClampNeg ((J 42) + ((J 3) * (J x1)))))) (hs h q15).2 ∧ hs h 256 = (0, 11) ∧ ∃ q16, hR h 256 20 = some q16 ∧ (hs h q16).1 = 1 ∧ ix ((J 34) + (hI h q7 (Int32.toNatClampNeg (((J 42) + ((J 3) * (J x1))) + (J 1))))) (hs h q16).2 ∧ ((¬ (hI h q15 (Int32.toNatClampNeg ((J 34) + (hI h q5 (Int32.toNatClampNeg ((J 42) + ((J 3) * (J x1)))))))) = (hI h q16 (Int32.toNatClampNeg ((J 34) + (hI h q7 (Int32.toNatClampNeg (((J 42) + ((J 3) * (J x1))) + (J 1))))))) → hs h 256 = (0, 11) ∧ ∃ q19, hR h 256 20 = some q19 ∧ (hs h q19).1 = 1 ∧ ix ((J 42) + ((J 3) * (J x1))) (hs h q19).2 ∧ hs (wI h q19 (Int32.toNatClampNeg ((J 42) + ((J 3) * (J x1)))) (hI h q7 (Int32.toNatClampNeg (((J 42) + ((J 3) * (J x1))) + (J 1))))) 256 = (0, 11) ∧ ∃ q20, hR (wI h q19 (Int32.toNatClampNeg ((J 42) + ((J 3) * (J x1)))) (hI h q7 (Int32.toNatClampNeg (((J 42) + ((J 3) * (J x1))) + (J 1))))) 256 20 = some q20 ∧ (hs (wI h q19 (Int32.toNatClampNeg ((J 42) + ((J 3) * (J x1)))) (hI h q7 (Int32.toNatClampNeg (((J 42) + ((J 3) * (J x1))) + (J 1))))) q20).1 = 1 ∧ ix (((J 42) + ((J 3) * (J x1))) + (J 1)) (hs (wI h q19 (Int32.toNatClampNeg ((J 42) + ((J 3) * (J x1)))) (hI h q7 (Int32.toNatClampNeg (((J 42) + ((J 3) * (J x1))) + (J 1))))) q20).2 ∧ Ex X PG (d + 1) 208 2 [some (.ref 256), some (.int ((J x1) + (J 1))), some (.int ((J 42) + ((J 3) * (J x1)))), some (.int (hI h q5 (Int32.toNatClampNeg ((J 42) + ((J 3) * (J x1)))))), some (.int (hI h q7 (Int32.toNatClampNeg (((J 42) + ((J 3) * (J x1))) + (J 1)))))] [] (wI (wI h q19 (Int32.toNatClampNeg ((J 42) + ((J 3) * (J x1)))) (hI h q7 (Int32.toNatClampNeg (((J 42) + ((J 3) * (J x1))) + (J 1))))) q20 (Int32.toNatClampNeg (((J 42) + ((J 3) * (J x1))) + (J 1))) (hI h q5 (Int32.toNatClampNeg ((J 42) + ((J 3) * (J x1)))))) Q) ∧ (¬ (¬ (hI h q15 (Int32.toNatClampNeg ((J 34) + (hI h q5 (Int32.toNatClampNeg ((J 42) + ((J 3) * (J x1)))))))) = (hI h q16 (Int32.toNatClampNeg ((J 34) + (hI h q7 (Int32.toNatClampNeg (((J 42) + ((J 3) * (J x1))) + (J 1)))))))) → (((hI h q7 (Int32.toNatClampNeg (((J 42) + ((J 3) * (J x1))) + (J 1)))) ≤ (hI h q5 (Int32.toNatClampNeg ((J 42) + ((J 3) * (J x1))))) → hs h 256 = (0, 11) ∧ ∃ q23, hR h 256 20 = some q23 ∧ (hs h q23).1 = 1 ∧ ix ((J 42) + ((J 3) * (J x1))) (hs h q23).2 ∧ hs (wI h q23 (Int32.toNatClampNeg ((J 42) + ((J 3) * (J x1)))) (hI h q7 (Int32.toNatClampNeg (((J 42) + ((J 3) * (J x1))) + (J 1))))) 256 = (0, 11) ∧ ∃ q24, hR (wI h q23 (Int32.toNatClampNeg ((J 42) + ((J 3) * (J x1)))) (hI h q7 (Int32.toNatClampNeg (((J 42) + ((J 3) * (J x1))) + (J 1))))) 256 20 = some q24 ∧ (hs (wI h q23 (Int32.toNatClampNeg ((J 42) + ((J 3) * (J x1)))) (hI h q7 (Int32.toNatClampNeg (((J 42) + ((J 3) * (J x1))) + (J 1))))) q24).1 = 1 ∧ ix (((J 42) + ((J 3) * (J x1))) + (J 1)) (hs (wI h q23 (Int32.toNatClampNeg ((J 42) + ((J 3) * (J x1)))) (hI h q7 (Int32.toNatClampNeg (((J 42) + ((J 3) * (J x1))) + (J 1))))) q24).2 ∧ Ex X PG (d + 1) 208 2 [some (.ref 256), some (.int ((J x1) + (J 1))), some (.int ((J 42) + ((J 3) * (J x1)))), some (.int (hI h q5 (Int32.toNatClampNeg ((J 42) + ((J 3) * (J x1)))))), some (.int (hI h q7 (Int32.toNatClampNeg (((J 42) + ((J 3) * (J x1))) + (J 1)))))] [] (wI (wI h q23 (Int32.toNatClampNeg ((J 42) + ((J 3) * (J x1)))) (hI h q7 (Int32.toNatClampNeg (((J 42) + ((J 3) * (J x1))) + (J 1))))) q24 (Int32.toNatClampNeg (((J 42) + ((J 3) * (J x1))) + (J 1))) (hI h q5 (Int32.toNatClampNeg ((J 42) + ((J 3) * (J x1)))))) Q) ∧ (¬ ((hI h q7 (Int32.toNatClampNeg (((J 42) + ((J 3) * (J x1))) + (J 1)))) ≤ (hI h q5 (Int32.toNatClampNeg ((J 42) + ((J 3) * (J x1)))))) → Ex X PG (d + 1) 208 2 [some (.ref 256), some (.int ((J x1) + (J 1))), some (.int ((J 42) + ((J 3) * (J x1)))), some (.int (hI h q5 (Int32.toNatClampNeg ((J 42) + ((J 3) * (J x1)))))), some (.int (hI h q7 (Int32.toNatClampNeg (((J 42) + ((J 3) * (J x1))) + (J 1)))))] [] h Q))))))))
  try simp only [aI_wAL, fI_wAL, aL_wA, aL_wF, aI_wA_ne, aI_wF_ne, fI_wA_ne, fI_wF_ne, fI_wF_nk, aL_wAL_ne, J_sameA, J_sameF, aL_same, Nat.add_left_cancel_iff, Nat.add_eq_left, Nat.left_eq_add, not_false_eq_true, Nat.reduceEqDiff, Nat.reduceAdd, J_add, J_sub, J_mul, J_neg, J_and, J_or, J_xor, J_shl, J_shr, J_div, J_i2b, J_i2l, J_l2i, J_lcm, J_max, J_min, J_nab, J_nao, rdA, rdF, rdL, wA_fold, wF_fold, wL_fold, wC_fold]
  refine ⟨(ls256 C_h), _, (lr256_20 C_h), ?_⟩
  refine ⟨congrArg Prod.fst (ls266 C_h), ixs (ls266 C_h) (by decide) (by decide), ?_⟩
  obtain ⟨k4, w⟩ := w
  refine ⟨fun c2 => ?_, fun c2 => ?_⟩
  · have t3 : aI h 266 1 ≤ x1 := ((Jle (rg_toInt _) k4).mp c2)
    replace w := w.1 t3
    exact w
  · have t3 : ¬ aI h 266 1 ≤ x1 := (fun e => c2 ((Jle (rg_toInt _) k4).mpr e))
    replace w := w.2 t3
    refine ⟨(ls256 C_h), _, (lr256_20 C_h), ?_⟩
    obtain ⟨k6, w⟩ := w
    refine ⟨congrArg Prod.fst (ls266 C_h), ixs (ls266 C_h) k6 (by decide), ?_⟩
    refine ⟨(ls256 C_h), _, (lr256_20 C_h), ?_⟩
    obtain ⟨k8, w⟩ := w
    refine ⟨congrArg Prod.fst (ls266 C_h), ixs (ls266 C_h) k8 (by decide), ?_⟩
    refine ⟨(ls256 C_h), _, (lr256_20 C_h), ?_⟩
    obtain ⟨k10, w⟩ := w
    refine ⟨congrArg Prod.fst (ls266 C_h), ixs (ls266 C_h) k10 (by decide), ?_⟩
    refine ⟨(ls256 C_h), _, (lr256_20 C_h), ?_⟩
    obtain ⟨k12, w⟩ := w
    refine ⟨congrArg Prod.fst (ls266 C_h), ixs (ls266 C_h) k12 (by decide), ?_⟩
    refine ⟨fun c13 => ?_, fun c13 => ?_⟩
    · have t14 : aI h 266 (34 + (aI h 266 (42 + (3 * x1)))) < aI h 266 (34 + (aI h 266 ((42 + (3 * x1)) + 1))) := ((Jlt (rg_toInt _) (rg_toInt _)).mp c13)
      replace w := w.1 t14
      exact w
    · have t14 : ¬ aI h 266 (34 + (aI h 266 (42 + (3 * x1)))) < aI h 266 (34 + (aI h 266 ((42 + (3 * x1)) + 1))) := (fun e => c13 ((Jlt (rg_toInt _) (rg_toInt _)).mpr e))
      replace w := w.2 t14
      refine ⟨(ls256 C_h), _, (lr256_20 C_h), ?_⟩
      refine ⟨congrArg Prod.fst (ls266 C_h), ixs (ls266 C_h) k10 (by decide), ?_⟩
      refine ⟨(ls256 C_h), _, (lr256_20 C_h), ?_⟩
      refine ⟨congrArg Prod.fst (ls266 C_h), ixs (ls266 C_h) k12 (by decide), ?_⟩
      refine ⟨fun c17 => ?_, fun c17 => ?_⟩
      · have t18 : ¬ aI h 266 (34 + (aI h 266 (42 + (3 * x1)))) = aI h 266 (34 + (aI h 266 ((42 + (3 * x1)) + 1))) := (fun e => c17 ((Jeq (rg_toInt _) (rg_toInt _)).mpr e))
        replace w := w.1 t18
        refine ⟨(ls256 C_h), _, (lr256_20 C_h), ?_⟩
        refine ⟨congrArg Prod.fst (ls266 C_h), ixs (ls266 C_h) k6 (by decide), ?_⟩
        refine ⟨(ls256 C_h), _, (lr256_20 C_h), ?_⟩
        refine ⟨congrArg Prod.fst (ls266 C_h), ixs (ls266 C_h) k8 (by decide), ?_⟩
        exact w
      · have t18 : aI h 266 (34 + (aI h 266 (42 + (3 * x1)))) = aI h 266 (34 + (aI h 266 ((42 + (3 * x1)) + 1))) := ((Jeq (rg_toInt _) (rg_toInt _)).mp (Classical.byContradiction c17))
        replace w := w.2 t18
        refine ⟨fun c21 => ?_, fun c21 => ?_⟩
        · have t22 : aI h 266 ((42 + (3 * x1)) + 1) ≤ aI h 266 (42 + (3 * x1)) := ((Jle (rg_toInt _) (rg_toInt _)).mp c21)
          replace w := w.1 t22
          refine ⟨(ls256 C_h), _, (lr256_20 C_h), ?_⟩
          refine ⟨congrArg Prod.fst (ls266 C_h), ixs (ls266 C_h) k6 (by decide), ?_⟩
          refine ⟨(ls256 C_h), _, (lr256_20 C_h), ?_⟩
          refine ⟨congrArg Prod.fst (ls266 C_h), ixs (ls266 C_h) k8 (by decide), ?_⟩
          exact w
        · have t22 : ¬ aI h 266 ((42 + (3 * x1)) + 1) ≤ aI h 266 (42 + (3 * x1)) := (fun e => c21 ((Jle (rg_toInt _) (rg_toInt _)).mpr e))
          replace w := w.2 t22
          exact w
theorem m208 {X : Cst} {d : Nat} {S : Int → Int} {h : AH} {Q : Post} (C : Lay h) (hd : 1 ≤ d) (eS : aI h 266 = S) (S1 : 0 ≤ S 1 ∧ S 1 ≤ 14) (hr : ∀ e, 0 ≤ e → e < S 1 → 0 ≤ S (42 + 3 * e) ∧ S (42 + 3 * e) < 8 ∧ 0 ≤ S (42 + 3 * e + 1) ∧ S (42 + 3 * e + 1) < 8) (k : ∀ h', Fr (fun c _ => c = 266) h h' → TrT S (aI h' 266) (S 1) → Q none h') : Ex X PG d 208 0 [some (.ref 256), none, none, none, none] [] h Q := by
  obtain ⟨d, rfl⟩ : ∃ e, d = e + 1 := ⟨d - 1, by omega⟩
  have lp : ∀ (z : Nat) (n : Int) (l2 l3 l4 : Option Value) (h' : AH), S 1 - n = z → 0 ≤ n → n ≤ S 1 → Fr (fun c _ => c = 266) h h' → TrT S (aI h' 266) n → Ex X PG (d + 1) 208 2 [some (.ref 256), some (.int (J n)), l2, l3, l4] [] h' Q := by
    intro z
    induction z with
    | zero =>
      intro n l2 l3 l4 h' ez n0 n1 F T
      have e1 := T.1 1 (by omega) (by omega) (by omega)
      refine r208_2 (F.C C) ?_
      rw [e1]
      refine ⟨by omega, fun _ => k h' F ?_, fun c => absurd (by omega) c⟩
      rw [show S 1 = n by omega]; exact T
    | succ z ih =>
      intro n l2 l3 l4 h' ez n0 n1 F T
      have e1 := T.1 1 (by omega) (by omega) (by omega)
      have ea := T.1 (42 + 3 * n) (by omega) (by omega) (by omega)
      have eb := T.1 (42 + 3 * n + 1) (by omega) (by omega) (by omega)
      have ew := T.1 (42 + 3 * n + 2) (by omega) (by omega) (by omega)
      have hr' := hr n n0 (by omega)
      have fa := T.1 (34 + S (42 + 3 * n)) (by omega) (by omega) (by omega)
      have fb := T.1 (34 + S (42 + 3 * n + 1)) (by omega) (by omega) (by omega)
      have y : tlt S (S (42 + 3 * n)) (S (42 + 3 * n + 1)) → ∀ l2 l3 l4, Ex X PG (d + 1) 208 2 [some (.ref 256), some (.int (J (n + 1))), l2, l3, l4] [] h' Q := by
        intro t l2 l3 l4
        refine ih (n + 1) l2 l3 l4 h' (by omega) (by omega) (by omega) F ⟨fun k k0 k1 k2 => T.1 k k0 k1 (by omega), fun e e0 e1 => ?_⟩
        by_cases c : e = n
        · rw [c]; exact ⟨ew, Or.inl ⟨t, ea, eb⟩⟩
        · exact T.2 e e0 (by omega)
      have nn : ¬ tlt S (S (42 + 3 * n)) (S (42 + 3 * n + 1)) → ∀ l2 l3 l4, Ex X PG (d + 1) 208 2 [some (.ref 256), some (.int (J (n + 1))), l2, l3, l4] [] (wA (wA h' 266 (42 + 3 * n) (S (42 + 3 * n + 1))) 266 (42 + 3 * n + 1) (S (42 + 3 * n))) Q := by
        intro t l2 l3 l4
        have eu : aI (wA (wA h' 266 (42 + 3 * n) (S (42 + 3 * n + 1))) 266 (42 + 3 * n + 1) (S (42 + 3 * n))) 266 = uu_ (uu_ (aI h' 266) (42 + 3 * n) (S (42 + 3 * n + 1))) (42 + 3 * n + 1) (S (42 + 3 * n)) := by rw [aI_wA (by omega), aI_wA (by omega)]
        have o : ∀ k, 0 ≤ k → k < 123 → ¬ k = 42 + 3 * n → ¬ k = 42 + 3 * n + 1 → uu_ (uu_ (aI h' 266) (42 + 3 * n) (S (42 + 3 * n + 1))) (42 + 3 * n + 1) (S (42 + 3 * n)) k = aI h' 266 k := fun k k0 k1 k2 k3 => by rw [uu_ne (by omega) (by omega) (by omega), uu_ne (by omega) (by omega) (by omega)]
        refine ih (n + 1) l2 l3 l4 _ (by omega) (by omega) (by omega) ((F.wA rfl).wA rfl) ?_
        rw [eu]
        refine ⟨fun k k0 k1 k2 => ?_, fun e e0 e1 => ?_⟩
        · rw [o k k0 k1 (by omega) (by omega)]; exact T.1 k k0 k1 (by omega)
        · by_cases c : e = n
          · subst c
            unfold trd
            rw [o _ (by omega) (by omega) (by omega) (by omega), uu_eq, uu_ne (by omega) (by omega) (by omega), uu_eq]
            exact ⟨ew, Or.inr ⟨t, rfl, rfl⟩⟩
          · have q := T.2 e e0 (by omega)
            unfold trd at q ⊢
            rw [o _ (by omega) (by omega) (by omega) (by omega), o _ (by omega) (by omega) (by omega) (by omega), o _ (by omega) (by omega) (by omega) (by omega)]
            exact q
      refine r208_2 (F.C C) ?_
      rw [e1, ea, eb, fa, fb]
      refine ⟨by omega, fun c => absurd c (by omega), fun _ => ⟨by omega, by omega, by omega, by omega, fun c => y (Or.inl c) _ _ _, fun c => ⟨fun c2 => nn (fun q => by rcases q with q | q; exact c q; exact c2 q.1) _ _ _, fun c2 => ⟨fun c3 => nn (fun q => by rcases q with q | q; exact c q; omega) _ _ _, fun c3 => y (Or.inr ⟨c2, by omega⟩) _ _ _⟩⟩⟩⟩
  refine r208_0 C ?_
  refine lp (S 1).toNat 0 none none none h (by omega) (by omega) (by omega) Fr.rf ?_
  rw [eS]
  exact ⟨fun k _ _ _ => rfl, fun e e0 e1 => by omega⟩
def crA (U : Int → Int) : Nat → Int → Int
  | 0 => U
  | n + 1 => uu_ (crA U n) (n : Int) (if (n : Int) = 4 ∨ (n : Int) = 5 then -1 else 0)
def crB (U : Int → Int) : Nat → Int → Int
  | 0 => U
  | n + 1 => uu_ (crB U n) (34 + (n : Int)) n
/-- cells ready for a reading -/
def crR (U : Int → Int) : Int → Int := crB (crA U 10) 8
theorem crA_v {U : Int → Int} : ∀ n : Nat, n ≤ 10 → ∀ k : Int, 0 ≤ k → k < n → crA U n k = if k = 4 ∨ k = 5 then -1 else 0 := by
  intro n
  induction n with
  | zero => intro _ k k0 k1; omega
  | succ n ih =>
    intro hn k k0 k1
    show uu_ (crA U n) (n : Int) _ k = _
    by_cases c : k = n
    · rw [c, uu_eq]
    · rw [uu_ne (by omega) (by omega) (by omega)]; exact ih (by omega) k k0 (by omega)
theorem crB_v {U : Int → Int} : ∀ n : Nat, n ≤ 8 → (∀ k : Int, 0 ≤ k → k < 34 → crB U n k = U k) ∧ ∀ k : Int, 0 ≤ k → k < n → crB U n (34 + k) = k := by
  intro n
  induction n with
  | zero => intro _; exact ⟨fun k _ _ => rfl, fun k k0 k1 => by omega⟩
  | succ n ih =>
    intro hn
    have a := ih (by omega)
    refine ⟨fun k k0 k1 => ?_, fun k k0 k1 => ?_⟩
    · show uu_ (crB U n) (34 + (n : Int)) n k = _
      rw [uu_ne (by omega) (by omega) (by omega)]; exact a.1 k k0 k1
    · show uu_ (crB U n) (34 + (n : Int)) n (34 + k) = _
      by_cases c : k = n
      · rw [c, uu_eq]
      · rw [uu_ne (by omega) (by omega) (by omega)]; exact a.2 k k0 (by omega)
theorem crR_v (U : Int → Int) : (∀ k, 0 ≤ k → k < 10 → crR U k = if k = 4 ∨ k = 5 then -1 else 0) ∧ ∀ r, 0 ≤ r → r < 8 → crR U (34 + r) = r :=
  ⟨fun k k0 k1 => ((crB_v 8 (by omega)).1 k k0 (by omega)).trans (crA_v 10 (by omega) k k0 k1), fun r r0 r1 => (crB_v 8 (by omega)).2 r r0 r1⟩
theorem CI_crR (U : Int → Int) : CI 0 (crR U) := by
  obtain ⟨a, b⟩ := crR_v U
  have e0 := a 0 (by omega) (by omega)
  have e1 := a 1 (by omega) (by omega)
  have e2 := a 2 (by omega) (by omega)
  have e3 := a 3 (by omega) (by omega)
  have e4 := a 4 (by omega) (by omega)
  have e5 := a 5 (by omega) (by omega)
  rw [if_neg (by omega)] at e0 e1 e2 e3
  rw [if_pos (by omega)] at e4 e5
  unfold CI
  rw [e0, e1, e2, e3, e4, e5]
  refine ⟨by omega, by omega, by omega, fun r r0 r1 => ?_, fun d d0 d1 => by omega, fun d e d0 d1 d2 => by omega, fun p p0 p1 => by omega⟩
  rw [b r r0 r1]; omega
theorem CI_rdC {tp : Int → Int} {L : Int} : ∀ (m : Nat) (j n : Int) (R : Int → Int), CI n R → 0 ≤ j → j ≤ L → (rdC tp L m j n R).1 = 0 → ∃ n', 0 < n' ∧ CI n' (rdC tp L m j n R).2.2 := by
  intro m
  induction m with
  | zero => intro j n R I h0 hj e; exact absurd e (fltR_n (by omega))
  | succ m ih =>
    intro j n R I h0 hj e
    rw [rdC_s] at e ⊢
    unfold rst at e ⊢
    by_cases c : (cCl tp L j n R).1 = 0
    · rw [pI_pos c] at e ⊢
      have cl := I.cl h0 hj c
      have n0 := I.1
      by_cases c2 : L ≤ (cCl tp L j n R).2.1
      · rw [pI_pos c2]; exact ⟨n + 1, by omega, cl.1.1⟩
      rw [pI_neg c2] at e ⊢
      by_cases c3 : tp (cCl tp L j n R).2.1 = 59
      · rw [pI_pos c3] at e ⊢
        have nb := nx_b (tp := tp) cl.2.1 cl.2.2
        exact ih _ _ _ cl.1.1 (by omega) nb.2.1 e
      · rw [pI_neg c3] at e; exact absurd e (fltR_n (by omega))
    · rw [pI_neg c] at e; exact absurd e c
def TCa (c k : Nat) : Prop := (c = 256 ∧ (k = 1 ∨ k = 8 ∨ k = 9 ∨ k = 10 ∨ k = 11 ∨ k = 12 ∨ k = 14 ∨ k = 27)) ∨ c = 262 ∨ (c = 259 ∧ k = 6) ∨ c = 266
def TCf (c k : Nat) : Prop := (c = 256 ∧ (k = 1 ∨ k = 8 ∨ k = 9 ∨ k = 10 ∨ k = 11 ∨ k = 12 ∨ k = 14)) ∨ c = 262 ∨ (c = 259 ∧ k = 6)
theorem TNe_f {c k : Nat} (z : TNe c k) : TCf c k := by unfold TNe at z; unfold TCf; omega
theorem TCf_a {c k : Nat} (z : TCf c k) : TCa c k := by unfold TCf at z; unfold TCa; omega
-- OutwardDoorsModel.castle()I at 0
set_option maxRecDepth 20000 in
set_option maxHeartbeats 4000000 in
theorem r207_0 {X : Cst} {d : Nat}  {h : AH} {Q : Post} (C_h : Lay h)
  (w : Ex X PG (d + 1) 207 8 [some (.ref 256), some (.int (J 0))] [] (wF h 256 11 6) Q) :
    Ex X PG (d + 1) 207 0 [some (.ref 256), none] [] h Q := by
  refine wpx_ok (cut := [8, 43, 82, 122]) 5 d 207 0 _ _ _ _ ?_
  show hs h 256 = (0, 11) ∧ Ex X PG (d + 1) 207 8 [some (.ref 256), some (.int (J 0))] [] (wG h 256 11 (J 6)) Q
  try simp only [aI_wAL, fI_wAL, aL_wA, aL_wF, aI_wA_ne, aI_wF_ne, fI_wA_ne, fI_wF_ne, fI_wF_nk, aL_wAL_ne, J_sameA, J_sameF, aL_same, Nat.add_left_cancel_iff, Nat.add_eq_left, Nat.left_eq_add, not_false_eq_true, Nat.reduceEqDiff, Nat.reduceAdd, J_add, J_sub, J_mul, J_neg, J_and, J_or, J_xor, J_shl, J_shr, J_div, J_i2b, J_i2l, J_l2i, J_lcm, J_max, J_min, J_nab, J_nao, rdA, rdF, rdL, wA_fold, wF_fold, wL_fold, wC_fold]
  refine ⟨(ls256 C_h), ?_⟩
  exact w
-- OutwardDoorsModel.castle()I at 8
set_option maxRecDepth 20000 in
set_option maxHeartbeats 4000000 in
theorem r207_8 {X : Cst} {d : Nat} {x1 : Int} {h : AH} {Q : Post} (C_h : Lay h)
  (w : (-2147483648 ≤ x1 ∧ x1 < 2147483648) ∧ ((10 ≤ x1 → Ex X PG (d + 1) 207 43 [some (.ref 256), some (.int (J 0))] [] h Q) ∧ (¬ 10 ≤ x1 → ((x1 = 4 → (0 ≤ x1 ∧ x1 < 84) ∧ Ex X PG (d + 1) 207 8 [some (.ref 256), some (.int (J (x1 + 1)))] [] (wA h 262 x1 (-1)) Q) ∧ (¬ x1 = 4 → ((¬ x1 = 5 → (0 ≤ x1 ∧ x1 < 84) ∧ Ex X PG (d + 1) 207 8 [some (.ref 256), some (.int (J (x1 + 1)))] [] (wA h 262 x1 0) Q) ∧ (x1 = 5 → (0 ≤ x1 ∧ x1 < 84) ∧ Ex X PG (d + 1) 207 8 [some (.ref 256), some (.int (J (x1 + 1)))] [] (wA h 262 x1 (-1)) Q))))))) :
    Ex X PG (d + 1) 207 8 [some (.ref 256), some (.int (J x1))] [] h Q := by
  refine wpx_ok (cut := [8, 43, 82, 122]) 17 d 207 8 _ _ _ _ ?_
  show (((J 10) ≤ (J x1) → Ex X PG (d + 1) 207 43 [some (.ref 256), some (.int (J 0))] [] h Q) ∧ (¬ ((J 10) ≤ (J x1)) → hs h 256 = (0, 11) ∧ ∃ q4, hR h 256 7 = some q4 ∧ (((J x1) = (J 4) → (hs h q4).1 = 1 ∧ ix (J x1) (hs h q4).2 ∧ Ex X PG (d + 1) 207 8 [some (.ref 256), some (.int ((J x1) + (J 1)))] [] (wI h q4 (Int32.toNatClampNeg (J x1)) (J (-1))) Q) ∧ (¬ ((J x1) = (J 4)) → ((¬ (J x1) = (J 5) → (hs h q4).1 = 1 ∧ ix (J x1) (hs h q4).2 ∧ Ex X PG (d + 1) 207 8 [some (.ref 256), some (.int ((J x1) + (J 1)))] [] (wI h q4 (Int32.toNatClampNeg (J x1)) (J 0)) Q) ∧ (¬ (¬ (J x1) = (J 5)) → (hs h q4).1 = 1 ∧ ix (J x1) (hs h q4).2 ∧ Ex X PG (d + 1) 207 8 [some (.ref 256), some (.int ((J x1) + (J 1)))] [] (wI h q4 (Int32.toNatClampNeg (J x1)) (J (-1))) Q))))))
  try simp only [aI_wAL, fI_wAL, aL_wA, aL_wF, aI_wA_ne, aI_wF_ne, fI_wA_ne, fI_wF_ne, fI_wF_nk, aL_wAL_ne, J_sameA, J_sameF, aL_same, Nat.add_left_cancel_iff, Nat.add_eq_left, Nat.left_eq_add, not_false_eq_true, Nat.reduceEqDiff, Nat.reduceAdd, J_add, J_sub, J_mul, J_neg, J_and, J_or, J_xor, J_shl, J_shr, J_div, J_i2b, J_i2l, J_l2i, J_lcm, J_max, J_min, J_nab, J_nao, rdA, rdF, rdL, wA_fold, wF_fold, wL_fold, wC_fold]
  obtain ⟨k3, w⟩ := w
  refine ⟨fun c1 => ?_, fun c1 => ?_⟩
  · have t2 : 10 ≤ x1 := ((Jle (by decide) k3).mp c1)
    replace w := w.1 t2
    exact w
  · have t2 : ¬ 10 ≤ x1 := (fun e => c1 ((Jle (by decide) k3).mpr e))
    replace w := w.2 t2
    refine ⟨(ls256 C_h), _, (lr256_7 C_h), ?_⟩
    refine ⟨fun c5 => ?_, fun c5 => ?_⟩
    · have t6 : x1 = 4 := ((Jeq k3 (by decide)).mp c5)
      replace w := w.1 t6
      obtain ⟨k7, w⟩ := w
      refine ⟨congrArg Prod.fst (ls262 C_h), ixs (ls262 C_h) k7 (by decide), ?_⟩
      exact w
    · have t6 : ¬ x1 = 4 := (fun e => c5 ((Jeq k3 (by decide)).mpr e))
      replace w := w.2 t6
      refine ⟨fun c8 => ?_, fun c8 => ?_⟩
      · have t9 : ¬ x1 = 5 := (fun e => c8 ((Jeq k3 (by decide)).mpr e))
        replace w := w.1 t9
        obtain ⟨k10, w⟩ := w
        refine ⟨congrArg Prod.fst (ls262 C_h), ixs (ls262 C_h) k10 (by decide), ?_⟩
        exact w
      · have t9 : x1 = 5 := ((Jeq k3 (by decide)).mp (Classical.byContradiction c8))
        replace w := w.2 t9
        obtain ⟨k11, w⟩ := w
        refine ⟨congrArg Prod.fst (ls262 C_h), ixs (ls262 C_h) k11 (by decide), ?_⟩
        exact w
-- OutwardDoorsModel.castle()I at 43
set_option maxRecDepth 20000 in
set_option maxHeartbeats 4000000 in
theorem r207_43 {X : Cst} {d : Nat} {x1 : Int} {h : AH} {Q : Post} (C_h : Lay h)
  (w : (-2147483648 ≤ x1 ∧ x1 < 2147483648) ∧ ((8 ≤ x1 → Ex X PG d 173 0 [some (.ref 256), none] [] h (fun v4 h5 => ∃ r6 : Int, (-2147483648 ≤ r6 ∧ r6 < 2147483648) ∧ v4 = some (.int (J r6)) ∧ SH h h5 ∧ ((¬ r6 = 0 → Ex X PG (d + 1) 207 82 [some (.ref 256), some (.int (J 0))] [] h5 Q) ∧ (r6 = 0 → Q (some (.int (J ((-2) - (fI h5 256 9))))) h5)))) ∧ (¬ 8 ≤ x1 → (0 ≤ 34 + x1 ∧ 34 + x1 < 84) ∧ Ex X PG (d + 1) 207 43 [some (.ref 256), some (.int (J (x1 + 1)))] [] (wA h 262 (34 + x1) x1) Q))) :
    Ex X PG (d + 1) 207 43 [some (.ref 256), some (.int (J x1))] [] h Q := by
  refine wpx_ok (cut := [8, 43, 82, 122]) 12 d 207 43 _ _ _ _ ?_
  show (((J 8) ≤ (J x1) → hs h 256 = (0, 11) ∧ Ex X PG d 173 0 [some (.ref 256), none] [] h (fun v4 h5 => ∃ r6, v4 = some (.int r6) ∧ ((¬ r6 = (J 0) → Ex X PG (d + 1) 207 82 [some (.ref 256), some (.int (J 0))] [] h5 Q) ∧ (¬ (¬ r6 = (J 0)) → hs h5 256 = (0, 11) ∧ Q (some (.int ((J (-2)) - (hF h5 256 9)))) h5)))) ∧ (¬ ((J 8) ≤ (J x1)) → hs h 256 = (0, 11) ∧ ∃ q10, hR h 256 7 = some q10 ∧ (hs h q10).1 = 1 ∧ ix ((J 34) + (J x1)) (hs h q10).2 ∧ Ex X PG (d + 1) 207 43 [some (.ref 256), some (.int ((J x1) + (J 1)))] [] (wI h q10 (Int32.toNatClampNeg ((J 34) + (J x1))) (J x1)) Q))
  try simp only [aI_wAL, fI_wAL, aL_wA, aL_wF, aI_wA_ne, aI_wF_ne, fI_wA_ne, fI_wF_ne, fI_wF_nk, aL_wAL_ne, J_sameA, J_sameF, aL_same, Nat.add_left_cancel_iff, Nat.add_eq_left, Nat.left_eq_add, not_false_eq_true, Nat.reduceEqDiff, Nat.reduceAdd, J_add, J_sub, J_mul, J_neg, J_and, J_or, J_xor, J_shl, J_shr, J_div, J_i2b, J_i2l, J_l2i, J_lcm, J_max, J_min, J_nab, J_nao, rdA, rdF, rdL, wA_fold, wF_fold, wL_fold, wC_fold]
  obtain ⟨k3, w⟩ := w
  refine ⟨fun c1 => ?_, fun c1 => ?_⟩
  · have t2 : 8 ≤ x1 := ((Jle (by decide) k3).mp c1)
    replace w := w.1 t2
    refine ⟨(ls256 C_h), ?_⟩
    refine Ex.mono w (Nat.le_refl _) ?_
    rintro v4 h5 ⟨r6, gr6, rfl, s9, w⟩
    refine ⟨_, rfl, ?_⟩
    have C_h5 := Lay_SH s9 C_h
    try simp only [aI_wAL, fI_wAL, aL_wA, aL_wF, aI_wA_ne, aI_wF_ne, fI_wA_ne, fI_wF_ne, fI_wF_nk, aL_wAL_ne, J_sameA, J_sameF, aL_same, Nat.add_left_cancel_iff, Nat.add_eq_left, Nat.left_eq_add, not_false_eq_true, Nat.reduceEqDiff, Nat.reduceAdd, J_add, J_sub, J_mul, J_neg, J_and, J_or, J_xor, J_shl, J_shr, J_div, J_i2b, J_i2l, J_l2i, J_lcm, J_max, J_min, J_nab, J_nao, rdA, rdF, rdL, wA_fold, wF_fold, wL_fold, wC_fold]
    refine ⟨fun c7 => ?_, fun c7 => ?_⟩
    · have t8 : ¬ r6 = 0 := (fun e => c7 ((Jeq gr6 (by decide)).mpr e))
      replace w := w.1 t8
      exact w
    · have t8 : r6 = 0 := ((Jeq gr6 (by decide)).mp (Classical.byContradiction c7))
      replace w := w.2 t8
      refine ⟨(ls256 C_h5), ?_⟩
      exact w
  · have t2 : ¬ 8 ≤ x1 := (fun e => c1 ((Jle (by decide) k3).mpr e))
    replace w := w.2 t2
    refine ⟨(ls256 C_h), _, (lr256_7 C_h), ?_⟩
    obtain ⟨k11, w⟩ := w
    refine ⟨congrArg Prod.fst (ls262 C_h), ixs (ls262 C_h) k11 (by decide), ?_⟩
    exact w
-- OutwardDoorsModel.castle()I at 82
set_option maxRecDepth 20000 in
set_option maxHeartbeats 4000000 in
theorem r207_82 {X : Cst} {d : Nat} {x1 : Int} {h : AH} {Q : Post} (C_h : Lay h)
  (w : (-2147483648 ≤ x1 ∧ x1 < 2147483648) ∧ ((123 ≤ x1 → Ex X PG d 208 0 [some (.ref 256), none, none, none, none] [] h (fun v4 h5 => v4 = none ∧ SH h h5 ∧ Ex X PG (d + 1) 207 122 [some (.ref 256), some (.int (J 0))] [] h5 Q)) ∧ (¬ 123 ≤ x1 → ((84 ≤ x1 → (0 ≤ x1 ∧ x1 < 123) ∧ Ex X PG (d + 1) 207 82 [some (.ref 256), some (.int (J (x1 + 1)))] [] (wA h 266 x1 0) Q) ∧ (¬ 84 ≤ x1 → (0 ≤ x1 ∧ x1 < 84) ∧ (0 ≤ x1 ∧ x1 < 123) ∧ Ex X PG (d + 1) 207 82 [some (.ref 256), some (.int (J (x1 + 1)))] [] (wA h 266 x1 (aI h 262 x1)) Q))))) :
    Ex X PG (d + 1) 207 82 [some (.ref 256), some (.int (J x1))] [] h Q := by
  refine wpx_ok (cut := [8, 43, 82, 122]) 17 d 207 82 _ _ _ _ ?_
  show (((J 123) ≤ (J x1) → hs h 256 = (0, 11) ∧ Ex X PG d 208 0 [some (.ref 256), none, none, none, none] [] h (fun v4 h5 => v4 = none ∧ Ex X PG (d + 1) 207 122 [some (.ref 256), some (.int (J 0))] [] h5 Q)) ∧ (¬ ((J 123) ≤ (J x1)) → hs h 256 = (0, 11) ∧ ∃ q7, hR h 256 20 = some q7 ∧ (((J 84) ≤ (J x1) → (hs h q7).1 = 1 ∧ ix (J x1) (hs h q7).2 ∧ Ex X PG (d + 1) 207 82 [some (.ref 256), some (.int ((J x1) + (J 1)))] [] (wI h q7 (Int32.toNatClampNeg (J x1)) (J 0)) Q) ∧ (¬ ((J 84) ≤ (J x1)) → hs h 256 = (0, 11) ∧ ∃ q11, hR h 256 7 = some q11 ∧ (hs h q11).1 = 1 ∧ ix (J x1) (hs h q11).2 ∧ (hs h q7).1 = 1 ∧ ix (J x1) (hs h q7).2 ∧ Ex X PG (d + 1) 207 82 [some (.ref 256), some (.int ((J x1) + (J 1)))] [] (wI h q7 (Int32.toNatClampNeg (J x1)) (hI h q11 (Int32.toNatClampNeg (J x1)))) Q))))
  try simp only [aI_wAL, fI_wAL, aL_wA, aL_wF, aI_wA_ne, aI_wF_ne, fI_wA_ne, fI_wF_ne, fI_wF_nk, aL_wAL_ne, J_sameA, J_sameF, aL_same, Nat.add_left_cancel_iff, Nat.add_eq_left, Nat.left_eq_add, not_false_eq_true, Nat.reduceEqDiff, Nat.reduceAdd, J_add, J_sub, J_mul, J_neg, J_and, J_or, J_xor, J_shl, J_shr, J_div, J_i2b, J_i2l, J_l2i, J_lcm, J_max, J_min, J_nab, J_nao, rdA, rdF, rdL, wA_fold, wF_fold, wL_fold, wC_fold]
  obtain ⟨k3, w⟩ := w
  refine ⟨fun c1 => ?_, fun c1 => ?_⟩
  · have t2 : 123 ≤ x1 := ((Jle (by decide) k3).mp c1)
    replace w := w.1 t2
    refine ⟨(ls256 C_h), ?_⟩
    refine Ex.mono w (Nat.le_refl _) ?_
    rintro v4 h5 ⟨rfl, s6, w⟩
    refine ⟨rfl, ?_⟩
    have C_h5 := Lay_SH s6 C_h
    try simp only [aI_wAL, fI_wAL, aL_wA, aL_wF, aI_wA_ne, aI_wF_ne, fI_wA_ne, fI_wF_ne, fI_wF_nk, aL_wAL_ne, J_sameA, J_sameF, aL_same, Nat.add_left_cancel_iff, Nat.add_eq_left, Nat.left_eq_add, not_false_eq_true, Nat.reduceEqDiff, Nat.reduceAdd, J_add, J_sub, J_mul, J_neg, J_and, J_or, J_xor, J_shl, J_shr, J_div, J_i2b, J_i2l, J_l2i, J_lcm, J_max, J_min, J_nab, J_nao, rdA, rdF, rdL, wA_fold, wF_fold, wL_fold, wC_fold]
    exact w
  · have t2 : ¬ 123 ≤ x1 := (fun e => c1 ((Jle (by decide) k3).mpr e))
    replace w := w.2 t2
    refine ⟨(ls256 C_h), _, (lr256_20 C_h), ?_⟩
    refine ⟨fun c8 => ?_, fun c8 => ?_⟩
    · have t9 : 84 ≤ x1 := ((Jle (by decide) k3).mp c8)
      replace w := w.1 t9
      obtain ⟨k10, w⟩ := w
      refine ⟨congrArg Prod.fst (ls266 C_h), ixs (ls266 C_h) k10 (by decide), ?_⟩
      exact w
    · have t9 : ¬ 84 ≤ x1 := (fun e => c8 ((Jle (by decide) k3).mpr e))
      replace w := w.2 t9
      refine ⟨(ls256 C_h), _, (lr256_7 C_h), ?_⟩
      obtain ⟨k12, w⟩ := w
      refine ⟨congrArg Prod.fst (ls262 C_h), ixs (ls262 C_h) k12 (by decide), ?_⟩
      obtain ⟨k13, w⟩ := w
      refine ⟨congrArg Prod.fst (ls266 C_h), ixs (ls266 C_h) k13 (by decide), ?_⟩
      exact w
-- OutwardDoorsModel.castle()I at 122
set_option maxRecDepth 20000 in
set_option maxHeartbeats 4000000 in
theorem r207_122 {X : Cst} {d : Nat} {x1 : Int} {h : AH} {Q : Post} (C_h : Lay h) (hd : 1 ≤ d)
  (w : (-2147483648 ≤ x1 ∧ x1 < 2147483648) ∧ ((aI h 266 2 ≤ x1 → Q (some (.int (J (aI h 266 2)))) (wF h 256 27 0)) ∧ (¬ aI h 266 2 ≤ x1 → (0 ≤ 10 + 6 * x1 + 0 ∧ 10 + 6 * x1 + 0 < 123) ∧ (0 ≤ 115 + (2 * x1) ∧ 115 + (2 * x1) < 123) ∧ (0 ≤ 10 + 6 * x1 + 1 ∧ 10 + 6 * x1 + 1 < 123) ∧ (0 ≤ (115 + (2 * x1)) + 1 ∧ (115 + (2 * x1)) + 1 < 123) ∧ Ex X PG (d + 1) 207 122 [some (.ref 256), some (.int (J (x1 + 1)))] [] (wA (wA h 266 (115 + (2 * x1)) (pS (aI h 266) x1 0)) 266 ((115 + (2 * x1)) + 1) (pS (aI (wA h 266 (115 + (2 * x1)) (pS (aI h 266) x1 0)) 266) x1 1)) Q))) :
    Ex X PG (d + 1) 207 122 [some (.ref 256), some (.int (J x1))] [] h Q := by
  refine wpx_ok (cut := [8, 43, 82, 122]) 34 d 207 122 _ _ _ _ ?_
  show hs h 256 = (0, 11) ∧ ∃ q1, hR h 256 20 = some q1 ∧ (hs h q1).1 = 1 ∧ ix (J 2) (hs h q1).2 ∧ (((hI h q1 (Int32.toNatClampNeg (J 2))) ≤ (J x1) → hs h 256 = (0, 11) ∧ hs (wG h 256 27 (J 0)) 256 = (0, 11) ∧ ∃ q5, hR (wG h 256 27 (J 0)) 256 20 = some q5 ∧ (hs (wG h 256 27 (J 0)) q5).1 = 1 ∧ ix (J 2) (hs (wG h 256 27 (J 0)) q5).2 ∧ Q (some (.int (hI (wG h 256 27 (J 0)) q5 (Int32.toNatClampNeg (J 2))))) (wG h 256 27 (J 0))) ∧ (¬ ((hI h q1 (Int32.toNatClampNeg (J 2))) ≤ (J x1)) → hs h 256 = (0, 11) ∧ ∃ q6, hR h 256 20 = some q6 ∧ hs h 256 = (0, 11) ∧ Ex X PG d 209 0 [some (.ref 256), some (.int (J x1)), some (.int (J 0))] [] h (fun v7 h8 => ∃ r9, v7 = some (.int r9) ∧ (hs h8 q6).1 = 1 ∧ ix ((J 115) + ((J 2) * (J x1))) (hs h8 q6).2 ∧ hs (wI h8 q6 (Int32.toNatClampNeg ((J 115) + ((J 2) * (J x1)))) r9) 256 = (0, 11) ∧ ∃ q12, hR (wI h8 q6 (Int32.toNatClampNeg ((J 115) + ((J 2) * (J x1)))) r9) 256 20 = some q12 ∧ hs (wI h8 q6 (Int32.toNatClampNeg ((J 115) + ((J 2) * (J x1)))) r9) 256 = (0, 11) ∧ Ex X PG d 209 0 [some (.ref 256), some (.int (J x1)), some (.int (J 1))] [] (wI h8 q6 (Int32.toNatClampNeg ((J 115) + ((J 2) * (J x1)))) r9) (fun v13 h14 => ∃ r15, v13 = some (.int r15) ∧ (hs h14 q12).1 = 1 ∧ ix (((J 115) + ((J 2) * (J x1))) + (J 1)) (hs h14 q12).2 ∧ Ex X PG (d + 1) 207 122 [some (.ref 256), some (.int ((J x1) + (J 1)))] [] (wI h14 q12 (Int32.toNatClampNeg (((J 115) + ((J 2) * (J x1))) + (J 1))) r15) Q))))
  try simp only [aI_wAL, fI_wAL, aL_wA, aL_wF, aI_wA_ne, aI_wF_ne, fI_wA_ne, fI_wF_ne, fI_wF_nk, aL_wAL_ne, J_sameA, J_sameF, aL_same, Nat.add_left_cancel_iff, Nat.add_eq_left, Nat.left_eq_add, not_false_eq_true, Nat.reduceEqDiff, Nat.reduceAdd, J_add, J_sub, J_mul, J_neg, J_and, J_or, J_xor, J_shl, J_shr, J_div, J_i2b, J_i2l, J_l2i, J_lcm, J_max, J_min, J_nab, J_nao, rdA, rdF, rdL, wA_fold, wF_fold, wL_fold, wC_fold]
  refine ⟨(ls256 C_h), _, (lr256_20 C_h), ?_⟩
  refine ⟨congrArg Prod.fst (ls266 C_h), ixs (ls266 C_h) (by decide) (by decide), ?_⟩
  obtain ⟨k4, w⟩ := w
  refine ⟨fun c2 => ?_, fun c2 => ?_⟩
  · have t3 : aI h 266 2 ≤ x1 := ((Jle (rg_toInt _) k4).mp c2)
    replace w := w.1 t3
    refine ⟨(ls256 C_h), ?_⟩
    refine ⟨(ls256 C_h), _, (lr256_20 C_h), ?_⟩
    refine ⟨congrArg Prod.fst (ls266 C_h), ixs (ls266 C_h) (by decide) (by decide), ?_⟩
    try simp only [aI_wAL, fI_wAL, aL_wA, aL_wF, aI_wA_ne, aI_wF_ne, fI_wA_ne, fI_wF_ne, fI_wF_nk, aL_wAL_ne, J_sameA, J_sameF, aL_same, Nat.add_left_cancel_iff, Nat.add_eq_left, Nat.left_eq_add, not_false_eq_true, Nat.reduceEqDiff, Nat.reduceAdd]
    exact w
  · have t3 : ¬ aI h 266 2 ≤ x1 := (fun e => c2 ((Jle (rg_toInt _) k4).mpr e))
    replace w := w.2 t3
    refine ⟨(ls256 C_h), _, (lr256_20 C_h), ?_⟩
    refine ⟨(ls256 C_h), ?_⟩
    obtain ⟨k10, w⟩ := w
    refine m209 (h := h) (p := x1) (w := 0) C_h (by omega) k10 ?_
    refine ⟨_, rfl, ?_⟩
    try simp only [aI_wAL, fI_wAL, aL_wA, aL_wF, aI_wA_ne, aI_wF_ne, fI_wA_ne, fI_wF_ne, fI_wF_nk, aL_wAL_ne, J_sameA, J_sameF, aL_same, Nat.add_left_cancel_iff, Nat.add_eq_left, Nat.left_eq_add, not_false_eq_true, Nat.reduceEqDiff, Nat.reduceAdd, J_add, J_sub, J_mul, J_neg, J_and, J_or, J_xor, J_shl, J_shr, J_div, J_i2b, J_i2l, J_l2i, J_lcm, J_max, J_min, J_nab, J_nao, rdA, rdF, rdL, wA_fold, wF_fold, wL_fold, wC_fold]
    obtain ⟨k11, w⟩ := w
    refine ⟨congrArg Prod.fst (ls266 C_h), ixs (ls266 C_h) k11 (by decide), ?_⟩
    refine ⟨(ls256 C_h), _, (lr256_20 C_h), ?_⟩
    refine ⟨(ls256 C_h), ?_⟩
    obtain ⟨k16, w⟩ := w
    refine m209 (h := wA h 266 (115 + (2 * x1)) (pS (aI h 266) x1 0)) (p := x1) (w := 1) C_h (by omega) (by first | exact k16 | (simp only [aI_wAL, fI_wAL, aL_wA, aL_wF, aI_wA_ne, aI_wF_ne, fI_wA_ne, fI_wF_ne, fI_wF_nk, aL_wAL_ne, Nat.add_left_cancel_iff, Nat.add_eq_left, Nat.left_eq_add, not_false_eq_true, Nat.reduceEqDiff]; exact k16)) ?_
    refine ⟨_, rfl, ?_⟩
    try simp only [aI_wAL, fI_wAL, aL_wA, aL_wF, aI_wA_ne, aI_wF_ne, fI_wA_ne, fI_wF_ne, fI_wF_nk, aL_wAL_ne, J_sameA, J_sameF, aL_same, Nat.add_left_cancel_iff, Nat.add_eq_left, Nat.left_eq_add, not_false_eq_true, Nat.reduceEqDiff, Nat.reduceAdd, J_add, J_sub, J_mul, J_neg, J_and, J_or, J_xor, J_shl, J_shr, J_div, J_i2b, J_i2l, J_l2i, J_lcm, J_max, J_min, J_nab, J_nao, rdA, rdF, rdL, wA_fold, wF_fold, wL_fold, wC_fold]
    obtain ⟨k17, w⟩ := w
    refine ⟨congrArg Prod.fst (ls266 C_h), ixs (ls266 C_h) k17 (by decide), ?_⟩
    exact w
theorem m207 {X : Cst} {d : Nat} {L : Int} {tp : Int → Int} {r : RS} {h : AH} {Q : Post} (C : Lay h) (hd : 8 ≤ d) (B : BT tp) (et : aI h 257 = tp) (eL : fI h 256 1 = L) (hL : 0 ≤ L ∧ L ≤ 400) (er : r = rdC tp L 41 (skp tp L 0) 0 (crR (aI h 262)))
    (k1 : r.1 = 0 → ∀ h', Fr TCa h h' → FinS r.2.2 (aI h' 266) → fI h' 256 27 = 0 → fI h' 256 1 = 0 → Q (some (.int (J (r.2.2 2)))) h')
    (k0 : ¬ r.1 = 0 → ∀ h', Fr TCf h h' → fI h' 256 1 = 0 → Q (some (.int (J (-2 - r.1)))) h') : Ex X PG d 207 0 [some (.ref 256), none] [] h Q := by
  obtain ⟨d, rfl⟩ : ∃ e, d = e + 1 := ⟨d - 1, by omega⟩
  have sb := skp_b (tp := tp) (L := L) (i := 0) (by omega) hL.1
  have p3 : r.1 = 0 → ∀ (h3 : AH), Fr TCa h h3 → fI h3 256 1 = 0 → TrT (fun k => if k < 84 then r.2.2 k else 0) (aI h3 266) (r.2.2 1) → Ex X PG (d + 1) 207 122 [some (.ref 256), some (.int (J 0))] [] h3 Q := by
    intro r0 h3 F3 e1 T
    obtain ⟨n', hn', I⟩ := CI_rdC 41 _ 0 _ (CI_crR (aI h 262)) (by omega) sb.2 (by rw [← er]; exact r0)
    rw [← er] at I
    obtain ⟨I0, I1, I2, I3, I4, I5, I6⟩ := I
    generalize r.2.2 = R at *
    have lp : ∀ (z : Nat) (n : Int) (h' : AH), R 2 - n = z → 0 ≤ n → n ≤ R 2 → Fr (fun c _ => c = 266) h3 h' → (∀ k, 0 ≤ k → k < 115 → aI h' 266 k = aI h3 266 k) → (∀ p, 0 ≤ p → p < n → aI h' 266 (115 + 2 * p) = R (10 + 6 * p) ∧ aI h' 266 (115 + 2 * p + 1) = R (10 + 6 * p + 1)) → Ex X PG (d + 1) 207 122 [some (.ref 256), some (.int (J n))] [] h' Q := by
      intro z
      induction z with
      | zero =>
        intro n h' ez n0 n1 F a b
        have e2 : aI h' 266 2 = R 2 := by rw [a 2 (by omega) (by omega), T.1 2 (by omega) (by omega) (by omega)]; rfl
        have F' := F3.tr (F.mo (U := TCa) (fun c k z => by unfold TCa; omega))
        refine r207_122 (F'.C C) (by omega) ?_
        rw [e2]
        refine ⟨by omega, fun _ => ?_, fun c => absurd (by omega) c⟩
        refine k1 r0 _ (F'.wF (by unfold TCa; omega)) ?_ (fI_wF_eq (by omega)) (by rw [fI_wF_nk (by decide), F.f 256 1 (by omega)]; exact e1)
        rw [aI_wF_ne (by decide)]
        refine ⟨fun k k0 k1 => ?_, fun e e0 e1 => ?_, fun k k0 k1 => ?_, fun p p0 p1 => b p p0 (by omega)⟩
        · rw [a k k0 (by omega), T.1 k k0 (by omega) (by omega)]; exact if_pos (by omega)
        · have t := T.2 e e0 e1
          have dd := I4 e e0 e1
          unfold trd tlt at t ⊢
          dsimp only at t
          rw [if_pos (show 42 + 3 * e + 2 < 84 by omega), if_pos (show 42 + 3 * e < 84 by omega), if_pos (show 42 + 3 * e + 1 < 84 by omega), if_pos (show 34 + R (42 + 3 * e) < 84 by omega), if_pos (show 34 + R (42 + 3 * e + 1) < 84 by omega)] at t
          rw [a _ (by omega) (by omega), a _ (by omega) (by omega), a _ (by omega) (by omega)]
          exact t
        · rw [a k (by omega) k1, T.1 k (by omega) (by omega) (by omega)]; exact if_neg (by omega)
      | succ z ih =>
        intro n h' ez n0 n1 F a b
        have e2 : aI h' 266 2 = R 2 := by rw [a 2 (by omega) (by omega), T.1 2 (by omega) (by omega) (by omega)]; rfl
        have F' := F3.tr (F.mo (U := TCa) (fun c k z => by unfold TCa; omega))
        have pr := I6 n n0 (by omega)
        have ea : pS (aI h' 266) n 0 = R (10 + 6 * n) := by
          unfold pS; rw [show 10 + 6 * n + 0 = 10 + 6 * n by omega, a _ (by omega) (by omega), T.1 _ (by omega) (by omega) (by omega)]; exact if_pos (by omega)
        have w1 : aI (wA h' 266 (115 + 2 * n) (R (10 + 6 * n))) 266 = uu_ (aI h' 266) (115 + 2 * n) (R (10 + 6 * n)) := aI_wA (by omega)
        have eb : pS (aI (wA h' 266 (115 + 2 * n) (R (10 + 6 * n))) 266) n 1 = R (10 + 6 * n + 1) := by
          unfold pS; rw [w1, uu_ne (by omega) (by omega) (by omega), a _ (by omega) (by omega), T.1 _ (by omega) (by omega) (by omega)]; exact if_pos (by omega)
        refine r207_122 (F'.C C) (by omega) ?_
        rw [e2, ea, eb]
        refine ⟨by omega, fun c => absurd c (by omega), fun _ => ⟨by omega, by omega, by omega, by omega, ?_⟩⟩
        have w2 : aI (wA (wA h' 266 (115 + 2 * n) (R (10 + 6 * n))) 266 (115 + 2 * n + 1) (R (10 + 6 * n + 1))) 266 = uu_ (uu_ (aI h' 266) (115 + 2 * n) (R (10 + 6 * n))) (115 + 2 * n + 1) (R (10 + 6 * n + 1)) := by rw [aI_wA (by omega), w1]
        refine ih (n + 1) _ (by omega) (by omega) (by omega) ((F.wA rfl).wA rfl) (fun k k0 k1 => ?_) (fun p p0 p1 => ?_)
        · rw [w2, uu_ne (by omega) (by omega) (by omega), uu_ne (by omega) (by omega) (by omega)]; exact a k k0 k1
        · rw [w2]
          by_cases c : p = n
          · rw [c, uu_eq, uu_ne (by omega) (by omega) (by omega), uu_eq]; exact ⟨rfl, rfl⟩
          · rw [uu_ne (by omega) (by omega) (by omega), uu_ne (by omega) (by omega) (by omega), uu_ne (by omega) (by omega) (by omega), uu_ne (by omega) (by omega) (by omega)]
            exact b p p0 (by omega)
    exact lp (R 2).toNat 0 h3 (by omega) (by omega) (by omega) Fr.rf (fun k _ _ => rfl) (fun p p0 p1 => by omega)
  have p2 : r.1 = 0 → ∀ (h2 : AH), Fr TCf h h2 → aI h2 262 = r.2.2 → fI h2 256 1 = 0 → Ex X PG (d + 1) 207 82 [some (.ref 256), some (.int (J 0))] [] h2 Q := by
    intro r0 h2 F2 eR e1
    obtain ⟨n', hn', I⟩ := CI_rdC 41 _ 0 _ (CI_crR (aI h 262)) (by omega) sb.2 (by rw [← er]; exact r0)
    rw [← er] at I
    obtain ⟨I0, I1, I2, I3, I4, I5, I6⟩ := I
    have lp : ∀ (z : Nat) (n : Int) (h' : AH), 123 - n = z → 0 ≤ n → n ≤ 123 → Fr (fun c _ => c = 266) h2 h' → (∀ k, 0 ≤ k → k < n → aI h' 266 k = if k < 84 then r.2.2 k else 0) → Ex X PG (d + 1) 207 82 [some (.ref 256), some (.int (J n))] [] h' Q := by
      intro z
      induction z with
      | zero =>
        intro n h' ez n0 n1 F a
        have F' := (F2.mo (U := TCa) (fun _ _ => TCf_a)).tr (F.mo (U := TCa) (fun c k z => by unfold TCa; omega))
        refine r207_82 (F'.C C) ⟨by omega, fun _ => ?_, fun c => absurd (by omega) c⟩
        have g : ∀ k, 0 ≤ k → k < 84 → aI h' 266 k = r.2.2 k := fun k k0 k1 => (a k k0 (by omega)).trans (if_pos k1)
        refine m208 (S := aI h' 266) (F'.C C) (by omega) rfl (by rw [g 1 (by omega) (by omega)]; omega) (fun e e0 e1 => ?_) (fun h4 F4 T => ⟨rfl, F4.1, ?_⟩)
        · rw [g 1 (by omega) (by omega)] at e1
          have := I4 e e0 e1
          rw [g _ (by omega) (by omega), g _ (by omega) (by omega)]; omega
        · refine p3 r0 h4 (F'.tr (F4.mo (fun c k z => by unfold TCa; omega))) ?_ ?_
          · rw [F4.f 256 1 (by omega), F.f 256 1 (by omega)]; exact e1
          · rw [g 1 (by omega) (by omega)] at T
            refine ⟨fun k k0 k1 k2 => ?_, fun e e0 e1 => ?_⟩
            · rw [T.1 k k0 k1 k2]; exact a k k0 (by omega)
            · have t := T.2 e e0 e1
              have dd := I4 e e0 e1
              unfold trd tlt at t ⊢
              rw [g _ (show 0 ≤ 42 + 3 * e + 2 by omega) (by omega), g _ (show 0 ≤ 42 + 3 * e by omega) (by omega), g _ (show 0 ≤ 42 + 3 * e + 1 by omega) (by omega), g _ (show 0 ≤ 34 + r.2.2 (42 + 3 * e) by omega) (by omega), g _ (show 0 ≤ 34 + r.2.2 (42 + 3 * e + 1) by omega) (by omega)] at t
              dsimp only
              rw [if_pos (show 42 + 3 * e + 2 < 84 by omega), if_pos (show 42 + 3 * e < 84 by omega), if_pos (show 42 + 3 * e + 1 < 84 by omega), if_pos (show 34 + r.2.2 (42 + 3 * e) < 84 by omega), if_pos (show 34 + r.2.2 (42 + 3 * e + 1) < 84 by omega)]
              exact t
      | succ z ih =>
        intro n h' ez n0 n1 F a
        have F' := (F2.mo (U := TCa) (fun _ _ => TCf_a)).tr (F.mo (U := TCa) (fun c k z => by unfold TCa; omega))
        have st : ∀ v, (-2147483648 ≤ v ∧ v < 2147483648) → v = (if n < 84 then r.2.2 n else 0) → Ex X PG (d + 1) 207 82 [some (.ref 256), some (.int (J (n + 1)))] [] (wA h' 266 n v) Q := by
          intro v vr ev
          refine ih (n + 1) _ (by omega) (by omega) (by omega) (F.wA rfl) (fun k k0 k1 => ?_)
          rw [aI_wA vr]
          by_cases c : k = n
          · rw [c, uu_eq]; exact ev
          · rw [uu_ne (by omega) (by omega) (by omega)]; exact a k k0 (by omega)
        refine r207_82 (F'.C C) ⟨by omega, fun c => absurd c (by omega), fun _ => ⟨fun c => ⟨by omega, st 0 (by omega) (if_neg (by omega)).symm⟩, fun c => ⟨by omega, by omega, ?_⟩⟩⟩
        have e : aI h' 262 n = r.2.2 n := by rw [F.a 262 (by omega), eR]
        exact st _ (aI_rg _ _ _) (by rw [e]; exact (if_pos (by omega)).symm)
    exact lp 123 0 h2 (by omega) (by omega) (by omega) Fr.rf (fun k k0 k1 => by omega)
  have p1 : ∀ (z n : Nat) (h' : AH), 8 - n = z → n ≤ 8 → Fr TCf h h' → (∀ k, k ≠ 11 → fI h' 256 k = fI h 256 k) → fI h' 256 11 = 6 → aI h' 262 = crB (crA (aI h 262) 10) n → Ex X PG (d + 1) 207 43 [some (.ref 256), some (.int (J n))] [] h' Q := by
    intro z
    induction z with
    | zero =>
      intro n h' ez n1 F ff e11 eR
      have en : n = 8 := by omega
      subst en
      refine r207_43 (F.C C) ⟨by omega, fun _ => ?_, fun c => absurd (by omega) c⟩
      refine m173c (R := crR (aI h 262)) (F.C C) (by omega) B e11 ((F.a 257 (fun k => by unfold TCf; omega)).trans et) ((ff 1 (by decide)).trans eL) hL eR (CI_crR _) ?_
      rw [← er]
      refine ⟨fun r0 h2 F2 eR2 e1 => ⟨1, by omega, rfl, F2.1, fun _ => p2 r0 h2 (F.tr (F2.mo (fun _ _ => TNe_f))) eR2 e1, fun z => absurd z (by decide)⟩, fun r0 h2 F2 e9 e1 => ⟨0, by omega, rfl, F2.1, fun z => absurd rfl z, fun _ => ?_⟩⟩
      rw [e9]
      exact k0 r0 h2 (F.tr (F2.mo (fun _ _ => TNe_f))) e1
    | succ z ih =>
      intro n h' ez n1 F ff e11 eR
      refine r207_43 (F.C C) ⟨by omega, fun c => absurd c (by omega), fun _ => ⟨by omega, ?_⟩⟩
      refine ih (n + 1) _ (by omega) (by omega) (F.wA (by unfold TCf; omega)) (fun k hk => by rw [fI_wA_ne (by decide)]; exact ff k hk) (by rw [fI_wA_ne (by decide)]; exact e11) ?_
      rw [aI_wA (by omega), eR]; rfl
  have p0 : ∀ (z n : Nat) (h' : AH), 10 - n = z → n ≤ 10 → Fr TCf h h' → (∀ k, k ≠ 11 → fI h' 256 k = fI h 256 k) → fI h' 256 11 = 6 → aI h' 262 = crA (aI h 262) n → Ex X PG (d + 1) 207 8 [some (.ref 256), some (.int (J n))] [] h' Q := by
    intro z
    induction z with
    | zero =>
      intro n h' ez n1 F ff e11 eR
      have en : n = 10 := by omega
      subst en
      exact r207_8 (F.C C) ⟨by omega, fun _ => p1 8 0 h' (by omega) (by omega) F ff e11 eR, fun c => absurd (by omega) c⟩
    | succ z ih =>
      intro n h' ez n1 F ff e11 eR
      have st : ∀ v, (-2147483648 ≤ v ∧ v < 2147483648) → v = (if (n : Int) = 4 ∨ (n : Int) = 5 then -1 else 0) → Ex X PG (d + 1) 207 8 [some (.ref 256), some (.int (J ((n : Int) + 1)))] [] (wA h' 262 n v) Q := by
        intro v vr ev
        refine ih (n + 1) _ (by omega) (by omega) (F.wA (by unfold TCf; omega)) (fun k hk => by rw [fI_wA_ne (by decide)]; exact ff k hk) (by rw [fI_wA_ne (by decide)]; exact e11) ?_
        rw [aI_wA vr, eR, ev]; rfl
      refine r207_8 (F.C C) ⟨by omega, fun c => absurd c (by omega), fun _ => ⟨fun c => ⟨by omega, st _ (by omega) (if_pos (Or.inl c)).symm⟩, fun c => ⟨fun c2 => ⟨by omega, st _ (by omega) (if_neg (by omega)).symm⟩, fun c2 => ⟨by omega, st _ (by omega) (if_pos (Or.inr c2)).symm⟩⟩⟩⟩
  refine r207_0 C ?_
  refine p0 10 0 _ (by omega) (by omega) (Fr.rf.wF (by unfold TCf; omega)) (fun k hk => fI_wF_nk hk) (fI_wF_eq (by omega)) ?_
  rw [aI_wF_ne (by decide)]; rfl
