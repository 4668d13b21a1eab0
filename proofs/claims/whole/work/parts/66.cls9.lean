/-! THE CLASS: force, seed, count, note. -/
-- OutwardDoors.force(I)I at 0
set_option maxRecDepth 20000 in
set_option maxHeartbeats 4000000 in
theorem r73_0 {X : Cst} {d : Nat} {x1 : Int} {pl : Nat} {h : AH} {Q : Post} (C_h : Lay h) (K_h_0 : PlanAt h pl) (P_h : hR h 52 0 = some pl)
  (w : (-2147483648 ≤ x1 ∧ x1 < 2147483648) ∧ ((x1 < (-1) → Q (some (.int (J (-2)))) h) ∧ (¬ x1 < (-1) → ((x1 < fI h 0 13 → Q (some (.int (J (fI h 52 2)))) (wF h 52 2 x1)) ∧ (¬ x1 < fI h 0 13 → Q (some (.int (J (-2)))) h))))) :
    Ex X PG (d + 1) 73 0 [some (.ref 0), some (.int (J x1)), none] [] h Q := by
  refine wpx_ok (cut := []) 17 d 73 0 _ _ _ _ ?_
  show (((J x1) < (J (-1)) → Q (some (.int (J (-2)))) h) ∧ (¬ ((J x1) < (J (-1))) → hs h 0 = (0, 10) ∧ (((J x1) < (hF h 0 13) → hs h 0 = (0, 10) ∧ ∃ q6, hR h 0 5 = some q6 ∧ hs h q6 = (0, 6) ∧ hs h 0 = (0, 10) ∧ ∃ q7, hR h 0 5 = some q7 ∧ hs h q7 = (0, 6) ∧ Q (some (.int (hF h q6 2))) (wG h q7 2 (J x1))) ∧ (¬ ((J x1) < (hF h 0 13)) → Q (some (.int (J (-2)))) h))))
  try simp only [aI_wAL, fI_wAL, aL_wA, aL_wF, aI_wA_ne, aI_wF_ne, fI_wA_ne, fI_wF_ne, fI_wF_nk, aL_wAL_ne, J_sameA, J_sameF, aL_same, Nat.add_left_cancel_iff, Nat.add_eq_left, Nat.left_eq_add, not_false_eq_true, Nat.reduceEqDiff, Nat.reduceAdd, J_add, J_sub, J_mul, J_neg, J_and, J_or, J_xor, J_shl, J_shr, J_div, J_i2b, J_i2l, J_l2i, J_lcm, J_max, J_min, J_nab, J_nao, rdA, rdF, rdL, wA_fold, wF_fold, wL_fold, wC_fold]
  obtain ⟨k3, w⟩ := w
  refine ⟨fun c1 => ?_, fun c1 => ?_⟩
  · have t2 : x1 < (-1) := ((Jlt k3 (by decide)).mp c1)
    replace w := w.1 t2
    exact w
  · have t2 : ¬ x1 < (-1) := (fun e => c1 ((Jlt k3 (by decide)).mpr e))
    replace w := w.2 t2
    refine ⟨(ls0 C_h), ?_⟩
    refine ⟨fun c4 => ?_, fun c4 => ?_⟩
    · have t5 : x1 < fI h 0 13 := ((Jlt k3 (rg_toInt _)).mp c4)
      replace w := w.1 t5
      refine ⟨(ls0 C_h), _, (lr0_5 C_h), ?_⟩
      refine ⟨(ls52 C_h), ?_⟩
      refine ⟨(ls0 C_h), _, (lr0_5 C_h), ?_⟩
      refine ⟨(ls52 C_h), ?_⟩
      exact w
    · have t5 : ¬ x1 < fI h 0 13 := (fun e => c4 ((Jlt k3 (rg_toInt _)).mpr e))
      replace w := w.2 t5
      exact w
theorem m73 {X : Cst} {d : Nat} {pl : Nat} {r : Int} {h : AH} {Q : Post} (C : Lay h) (P : hR h 52 0 = some pl) (K : PlanAt h pl) (hd : 1 ≤ d) (g1 : -2147483648 ≤ r ∧ r < 2147483648)
    (k0 : ¬ (r = -1 ∨ (0 ≤ r ∧ r < fI h 0 13)) → Q (some (.int (J (-2)))) h) (k : (r = -1 ∨ (0 ≤ r ∧ r < fI h 0 13)) → Q (some (.int (J (fI h 52 2)))) (wF h 52 2 r)) (n0 : 0 ≤ fI h 0 13) : Ex X PG d 73 0 [some (.ref 0), some (.int (J r)), none] [] h Q := by
  obtain ⟨d, rfl⟩ : ∃ e, d = e + 1 := ⟨d - 1, by omega⟩
  exact r73_0 C K P ⟨g1, fun c => k0 (by omega), fun c => ⟨fun c2 => k (by omega), fun c2 => k0 (by omega)⟩⟩
-- OutwardDoors.seed(I)I at 0
set_option maxRecDepth 20000 in
set_option maxHeartbeats 4000000 in
theorem r160_0 {X : Cst} {d : Nat} {x1 : Int} {pl : Nat} {h : AH} {Q : Post} (C_h : Lay h) (K_h_0 : PlanAt h pl) (P_h : hR h 52 0 = some pl)
  (w : (-2147483648 ≤ x1 ∧ x1 < 2147483648) ∧ ((0 ≤ x1 → Q (some (.int (J (fI h 52 3)))) (wF h 52 3 x1)) ∧ (¬ 0 ≤ x1 → Q (some (.int (J (-1)))) h))) :
    Ex X PG (d + 1) 160 0 [some (.ref 0), some (.int (J x1)), none] [] h Q := by
  refine wpx_ok (cut := []) 12 d 160 0 _ _ _ _ ?_
  show (((J 0) ≤ (J x1) → hs h 0 = (0, 10) ∧ ∃ q4, hR h 0 5 = some q4 ∧ hs h q4 = (0, 6) ∧ hs h 0 = (0, 10) ∧ ∃ q5, hR h 0 5 = some q5 ∧ hs h q5 = (0, 6) ∧ Q (some (.int (hF h q4 3))) (wG h q5 3 (J x1))) ∧ (¬ ((J 0) ≤ (J x1)) → Q (some (.int (J (-1)))) h))
  try simp only [aI_wAL, fI_wAL, aL_wA, aL_wF, aI_wA_ne, aI_wF_ne, fI_wA_ne, fI_wF_ne, fI_wF_nk, aL_wAL_ne, J_sameA, J_sameF, aL_same, Nat.add_left_cancel_iff, Nat.add_eq_left, Nat.left_eq_add, not_false_eq_true, Nat.reduceEqDiff, Nat.reduceAdd, J_add, J_sub, J_mul, J_neg, J_and, J_or, J_xor, J_shl, J_shr, J_div, J_i2b, J_i2l, J_l2i, J_lcm, J_max, J_min, J_nab, J_nao, rdA, rdF, rdL, wA_fold, wF_fold, wL_fold, wC_fold]
  obtain ⟨k3, w⟩ := w
  refine ⟨fun c1 => ?_, fun c1 => ?_⟩
  · have t2 : 0 ≤ x1 := ((Jle (by decide) k3).mp c1)
    replace w := w.1 t2
    refine ⟨(ls0 C_h), _, (lr0_5 C_h), ?_⟩
    refine ⟨(ls52 C_h), ?_⟩
    refine ⟨(ls0 C_h), _, (lr0_5 C_h), ?_⟩
    refine ⟨(ls52 C_h), ?_⟩
    exact w
  · have t2 : ¬ 0 ≤ x1 := (fun e => c1 ((Jle (by decide) k3).mpr e))
    replace w := w.2 t2
    exact w
theorem m160 {X : Cst} {d : Nat} {pl : Nat} {r : Int} {h : AH} {Q : Post} (C : Lay h) (P : hR h 52 0 = some pl) (K : PlanAt h pl) (hd : 1 ≤ d) (g1 : -2147483648 ≤ r ∧ r < 2147483648)
    (k0 : ¬ 0 ≤ r → Q (some (.int (J (-1)))) h) (k : 0 ≤ r → Q (some (.int (J (fI h 52 3)))) (wF h 52 3 r)) : Ex X PG d 160 0 [some (.ref 0), some (.int (J r)), none] [] h Q := by
  obtain ⟨d, rfl⟩ : ∃ e, d = e + 1 := ⟨d - 1, by omega⟩
  exact r160_0 C K P ⟨g1, fun c => k c, fun c => k0 c⟩
-- OutwardDoors.count(I)I at 0
set_option maxRecDepth 20000 in
set_option maxHeartbeats 4000000 in
theorem r163_0 {X : Cst} {d : Nat} {x1 : Int} {pl : Nat} {S : Int → Int} {h : AH} {Q : Post} (C_h : Lay h) (K_h_0 : PlanAt h pl) (P_h : hR h 52 0 = some pl) (hd : 3 ≤ d)
  (w : (-2147483648 ≤ x1 ∧ x1 < 2147483648) ∧ ((x1 = 0 → Q (some (.int (J (fI h pl 0)))) h) ∧ (¬ x1 = 0 → ((x1 = 1 → Q (some (.int (J (fI h pl 1)))) h) ∧ (¬ x1 = 1 → ((x1 = 2 → Q (some (.int (J (fI h pl 2)))) h) ∧ (¬ x1 = 2 → ((x1 = 3 → Q (some (.int (J (fI h 0 13)))) h) ∧ (¬ x1 = 3 → ((x1 = 4 → Q (some (.int (J (fI h 52 2)))) h) ∧ (¬ x1 = 4 → ((x1 = 5 → Q (some (.int (J (fI h 64 5)))) h) ∧ (¬ x1 = 5 → ((x1 = 6 → (CS h pl S) ∧ (WF 999 S) ∧ Q (some (.int (J (bI (nightP S))))) h) ∧ (¬ x1 = 6 → ((x1 = 7 → Ex X PG d 164 0 [some (.ref 64), some (.ref 67), none, none] [] h (fun v28 h29 => ∃ r30 : Int, (-2147483648 ≤ r30 ∧ r30 < 2147483648) ∧ v28 = some (.int (J r30)) ∧ SH h h29 ∧ Q (some (.int (J r30))) h29)) ∧ (¬ x1 = 7 → ((x1 = 8 → Ex X PG d 164 0 [some (.ref 64), some (.ref 68), none, none] [] h (fun v38 h39 => ∃ r40 : Int, (-2147483648 ≤ r40 ∧ r40 < 2147483648) ∧ v38 = some (.int (J r40)) ∧ SH h h39 ∧ Q (some (.int (J r40))) h39)) ∧ (¬ x1 = 8 → ((x1 = 9 → Q (some (.int (J (fI h 52 4)))) h) ∧ (¬ x1 = 9 → ((x1 = 10 → Q (some (.int (J (fI h 0 14)))) h) ∧ (¬ x1 = 10 → ((x1 = 11 → Q (some (.int (J (fI h 52 3)))) h) ∧ (¬ x1 = 11 → ((x1 = 12 → Q (some (.int (J (fI h 1 1)))) h) ∧ (¬ x1 = 12 → Q (some (.int (J (-1)))) h))))))))))))))))))))))))))) :
    Ex X PG (d + 1) 163 0 [some (.ref 0), some (.int (J x1))] [] h Q := by
  refine wpx_ok (cut := []) 11 d 163 0 _ _ _ _ ?_
  show (((J x1) = J 0 → hs h 0 = (0, 10) ∧ ∃ q2, hR h 0 5 = some q2 ∧ hs h q2 = (0, 6) ∧ ∃ q3, hR h q2 0 = some q3 ∧ hs h q3 = (0, 2) ∧ Q (some (.int (hF h q3 0))) h) ∧ (¬ (J x1) = J 0 → (((J x1) = J 1 → hs h 0 = (0, 10) ∧ ∃ q5, hR h 0 5 = some q5 ∧ hs h q5 = (0, 6) ∧ ∃ q6, hR h q5 0 = some q6 ∧ hs h q6 = (0, 2) ∧ Q (some (.int (hF h q6 1))) h) ∧ (¬ (J x1) = J 1 → (((J x1) = J 2 → hs h 0 = (0, 10) ∧ ∃ q8, hR h 0 5 = some q8 ∧ hs h q8 = (0, 6) ∧ ∃ q9, hR h q8 0 = some q9 ∧ hs h q9 = (0, 2) ∧ Q (some (.int (hF h q9 2))) h) ∧ (¬ (J x1) = J 2 → (((J x1) = J 3 → hs h 0 = (0, 10) ∧ Q (some (.int (hF h 0 13))) h) ∧ (¬ (J x1) = J 3 → (((J x1) = J 4 → hs h 0 = (0, 10) ∧ ∃ q12, hR h 0 5 = some q12 ∧ hs h q12 = (0, 6) ∧ Q (some (.int (hF h q12 2))) h) ∧ (¬ (J x1) = J 4 → (((J x1) = J 5 → hs h 0 = (0, 10) ∧ ∃ q14, hR h 0 5 = some q14 ∧ hs h q14 = (0, 6) ∧ ∃ q15, hR h q14 1 = some q15 ∧ hs h q15 = (0, 9) ∧ Q (some (.int (hF h q15 5))) h) ∧ (¬ (J x1) = J 5 → (((J x1) = J 6 → hs h 0 = (0, 10) ∧ Ex X PG d 76 0 [some (.ref 0)] [] h (fun v17 h18 => ∃ r19, v17 = some (.int r19) ∧ Q (some (.int r19)) h18)) ∧ (¬ (J x1) = J 6 → (((J x1) = J 7 → hs h 0 = (0, 10) ∧ ∃ q23, hR h 0 5 = some q23 ∧ hs h q23 = (0, 6) ∧ ∃ q24, hR h q23 1 = some q24 ∧ hs h 0 = (0, 10) ∧ ∃ q25, hR h 0 5 = some q25 ∧ hs h q25 = (0, 6) ∧ ∃ q26, hR h q25 1 = some q26 ∧ hs h q26 = (0, 9) ∧ ∃ q27, hR h q26 2 = some q27 ∧ hs h q24 = (0, 9) ∧ Ex X PG d 164 0 [some (.ref q24), some (.ref q27), none, none] [] h (fun v28 h29 => ∃ r30, v28 = some (.int r30) ∧ Q (some (.int r30)) h29)) ∧ (¬ (J x1) = J 7 → (((J x1) = J 8 → hs h 0 = (0, 10) ∧ ∃ q33, hR h 0 5 = some q33 ∧ hs h q33 = (0, 6) ∧ ∃ q34, hR h q33 1 = some q34 ∧ hs h 0 = (0, 10) ∧ ∃ q35, hR h 0 5 = some q35 ∧ hs h q35 = (0, 6) ∧ ∃ q36, hR h q35 1 = some q36 ∧ hs h q36 = (0, 9) ∧ ∃ q37, hR h q36 3 = some q37 ∧ hs h q34 = (0, 9) ∧ Ex X PG d 164 0 [some (.ref q34), some (.ref q37), none, none] [] h (fun v38 h39 => ∃ r40, v38 = some (.int r40) ∧ Q (some (.int r40)) h39)) ∧ (¬ (J x1) = J 8 → (((J x1) = J 9 → hs h 0 = (0, 10) ∧ ∃ q43, hR h 0 5 = some q43 ∧ hs h q43 = (0, 6) ∧ Q (some (.int (hF h q43 4))) h) ∧ (¬ (J x1) = J 9 → (((J x1) = J 10 → hs h 0 = (0, 10) ∧ Q (some (.int (hF h 0 14))) h) ∧ (¬ (J x1) = J 10 → (((J x1) = J 11 → hs h 0 = (0, 10) ∧ ∃ q46, hR h 0 5 = some q46 ∧ hs h q46 = (0, 6) ∧ Q (some (.int (hF h q46 3))) h) ∧ (¬ (J x1) = J 11 → (((J x1) = J 12 → hs h 0 = (0, 10) ∧ ∃ q48, hR h 0 0 = some q48 ∧ hs h q48 = (0, 8) ∧ Q (some (.int (hF h q48 1))) h) ∧ (¬ (J x1) = J 12 → Q (some (.int (J (-1)))) h))))))))))))))))))))))))))
  try simp only [aI_wAL, fI_wAL, aL_wA, aL_wF, aI_wA_ne, aI_wF_ne, fI_wA_ne, fI_wF_ne, fI_wF_nk, aL_wAL_ne, J_sameA, J_sameF, aL_same, Nat.add_left_cancel_iff, Nat.add_eq_left, Nat.left_eq_add, not_false_eq_true, Nat.reduceEqDiff, Nat.reduceAdd, J_add, J_sub, J_mul, J_neg, J_and, J_or, J_xor, J_shl, J_shr, J_div, J_i2b, J_i2l, J_l2i, J_lcm, J_max, J_min, J_nab, J_nao, rdA, rdF, rdL, wA_fold, wF_fold, wL_fold, wC_fold]
  obtain ⟨k1, w⟩ := w
  refine ⟨fun c4 => ?_, fun c4 => ?_⟩
  · replace w := w.1 ((Jeq k1 (by decide)).mp c4)
    refine ⟨(ls0 C_h), _, (lr0_5 C_h), ?_⟩
    refine ⟨(ls52 C_h), _, P_h, ?_⟩
    refine ⟨(plan_0 K_h_0), ?_⟩
    exact w
  · replace w := w.2 (fun e => c4 ((Jeq k1 (by decide)).mpr e))
    refine ⟨fun c7 => ?_, fun c7 => ?_⟩
    · replace w := w.1 ((Jeq k1 (by decide)).mp c7)
      refine ⟨(ls0 C_h), _, (lr0_5 C_h), ?_⟩
      refine ⟨(ls52 C_h), _, P_h, ?_⟩
      refine ⟨(plan_0 K_h_0), ?_⟩
      exact w
    · replace w := w.2 (fun e => c7 ((Jeq k1 (by decide)).mpr e))
      refine ⟨fun c10 => ?_, fun c10 => ?_⟩
      · replace w := w.1 ((Jeq k1 (by decide)).mp c10)
        refine ⟨(ls0 C_h), _, (lr0_5 C_h), ?_⟩
        refine ⟨(ls52 C_h), _, P_h, ?_⟩
        refine ⟨(plan_0 K_h_0), ?_⟩
        exact w
      · replace w := w.2 (fun e => c10 ((Jeq k1 (by decide)).mpr e))
        refine ⟨fun c11 => ?_, fun c11 => ?_⟩
        · replace w := w.1 ((Jeq k1 (by decide)).mp c11)
          refine ⟨(ls0 C_h), ?_⟩
          exact w
        · replace w := w.2 (fun e => c11 ((Jeq k1 (by decide)).mpr e))
          refine ⟨fun c13 => ?_, fun c13 => ?_⟩
          · replace w := w.1 ((Jeq k1 (by decide)).mp c13)
            refine ⟨(ls0 C_h), _, (lr0_5 C_h), ?_⟩
            refine ⟨(ls52 C_h), ?_⟩
            exact w
          · replace w := w.2 (fun e => c13 ((Jeq k1 (by decide)).mpr e))
            refine ⟨fun c16 => ?_, fun c16 => ?_⟩
            · replace w := w.1 ((Jeq k1 (by decide)).mp c16)
              refine ⟨(ls0 C_h), _, (lr0_5 C_h), ?_⟩
              refine ⟨(ls52 C_h), _, (lr52_1 C_h), ?_⟩
              refine ⟨(ls64 C_h), ?_⟩
              exact w
            · replace w := w.2 (fun e => c16 ((Jeq k1 (by decide)).mpr e))
              refine ⟨fun c22 => ?_, fun c22 => ?_⟩
              · replace w := w.1 ((Jeq k1 (by decide)).mp c22)
                refine ⟨(ls0 C_h), ?_⟩
                obtain ⟨k20, w⟩ := w
                obtain ⟨k21, w⟩ := w
                refine m76 (h := h)  (S := S) (pl := pl) C_h P_h K_h_0 (by omega) k20 k21 ?_
                refine ⟨_, rfl, ?_⟩
                try simp only [aI_wAL, fI_wAL, aL_wA, aL_wF, aI_wA_ne, aI_wF_ne, fI_wA_ne, fI_wF_ne, fI_wF_nk, aL_wAL_ne, J_sameA, J_sameF, aL_same, Nat.add_left_cancel_iff, Nat.add_eq_left, Nat.left_eq_add, not_false_eq_true, Nat.reduceEqDiff, Nat.reduceAdd, J_add, J_sub, J_mul, J_neg, J_and, J_or, J_xor, J_shl, J_shr, J_div, J_i2b, J_i2l, J_l2i, J_lcm, J_max, J_min, J_nab, J_nao, rdA, rdF, rdL, wA_fold, wF_fold, wL_fold, wC_fold]
                exact w
              · replace w := w.2 (fun e => c22 ((Jeq k1 (by decide)).mpr e))
                refine ⟨fun c32 => ?_, fun c32 => ?_⟩
                · replace w := w.1 ((Jeq k1 (by decide)).mp c32)
                  refine ⟨(ls0 C_h), _, (lr0_5 C_h), ?_⟩
                  refine ⟨(ls52 C_h), _, (lr52_1 C_h), ?_⟩
                  refine ⟨(ls0 C_h), _, (lr0_5 C_h), ?_⟩
                  refine ⟨(ls52 C_h), _, (lr52_1 C_h), ?_⟩
                  refine ⟨(ls64 C_h), _, (lr64_2 C_h), ?_⟩
                  refine ⟨(ls64 C_h), ?_⟩
                  refine Ex.mono w (Nat.le_refl _) ?_
                  rintro v28 h29 ⟨r30, gr30, rfl, s31, w⟩
                  refine ⟨_, rfl, ?_⟩
                  have C_h29 := Lay_SH s31 C_h
                  have K_h29_0 := PlanAt_SH s31 K_h_0
                  have P_h29 := (congrFun (congrFun s31.2 52) 0).trans P_h
                  try simp only [aI_wAL, fI_wAL, aL_wA, aL_wF, aI_wA_ne, aI_wF_ne, fI_wA_ne, fI_wF_ne, fI_wF_nk, aL_wAL_ne, J_sameA, J_sameF, aL_same, Nat.add_left_cancel_iff, Nat.add_eq_left, Nat.left_eq_add, not_false_eq_true, Nat.reduceEqDiff, Nat.reduceAdd, J_add, J_sub, J_mul, J_neg, J_and, J_or, J_xor, J_shl, J_shr, J_div, J_i2b, J_i2l, J_l2i, J_lcm, J_max, J_min, J_nab, J_nao, rdA, rdF, rdL, wA_fold, wF_fold, wL_fold, wC_fold]
                  exact w
                · replace w := w.2 (fun e => c32 ((Jeq k1 (by decide)).mpr e))
                  refine ⟨fun c42 => ?_, fun c42 => ?_⟩
                  · replace w := w.1 ((Jeq k1 (by decide)).mp c42)
                    refine ⟨(ls0 C_h), _, (lr0_5 C_h), ?_⟩
                    refine ⟨(ls52 C_h), _, (lr52_1 C_h), ?_⟩
                    refine ⟨(ls0 C_h), _, (lr0_5 C_h), ?_⟩
                    refine ⟨(ls52 C_h), _, (lr52_1 C_h), ?_⟩
                    refine ⟨(ls64 C_h), _, (lr64_3 C_h), ?_⟩
                    refine ⟨(ls64 C_h), ?_⟩
                    refine Ex.mono w (Nat.le_refl _) ?_
                    rintro v38 h39 ⟨r40, gr40, rfl, s41, w⟩
                    refine ⟨_, rfl, ?_⟩
                    have C_h39 := Lay_SH s41 C_h
                    have K_h39_0 := PlanAt_SH s41 K_h_0
                    have P_h39 := (congrFun (congrFun s41.2 52) 0).trans P_h
                    try simp only [aI_wAL, fI_wAL, aL_wA, aL_wF, aI_wA_ne, aI_wF_ne, fI_wA_ne, fI_wF_ne, fI_wF_nk, aL_wAL_ne, J_sameA, J_sameF, aL_same, Nat.add_left_cancel_iff, Nat.add_eq_left, Nat.left_eq_add, not_false_eq_true, Nat.reduceEqDiff, Nat.reduceAdd, J_add, J_sub, J_mul, J_neg, J_and, J_or, J_xor, J_shl, J_shr, J_div, J_i2b, J_i2l, J_l2i, J_lcm, J_max, J_min, J_nab, J_nao, rdA, rdF, rdL, wA_fold, wF_fold, wL_fold, wC_fold]
                    exact w
                  · replace w := w.2 (fun e => c42 ((Jeq k1 (by decide)).mpr e))
                    refine ⟨fun c44 => ?_, fun c44 => ?_⟩
                    · replace w := w.1 ((Jeq k1 (by decide)).mp c44)
                      refine ⟨(ls0 C_h), _, (lr0_5 C_h), ?_⟩
                      refine ⟨(ls52 C_h), ?_⟩
                      exact w
                    · replace w := w.2 (fun e => c44 ((Jeq k1 (by decide)).mpr e))
                      refine ⟨fun c45 => ?_, fun c45 => ?_⟩
                      · replace w := w.1 ((Jeq k1 (by decide)).mp c45)
                        refine ⟨(ls0 C_h), ?_⟩
                        exact w
                      · replace w := w.2 (fun e => c45 ((Jeq k1 (by decide)).mpr e))
                        refine ⟨fun c47 => ?_, fun c47 => ?_⟩
                        · replace w := w.1 ((Jeq k1 (by decide)).mp c47)
                          refine ⟨(ls0 C_h), _, (lr0_5 C_h), ?_⟩
                          refine ⟨(ls52 C_h), ?_⟩
                          exact w
                        · replace w := w.2 (fun e => c47 ((Jeq k1 (by decide)).mpr e))
                          refine ⟨fun c49 => ?_, fun c49 => ?_⟩
                          · replace w := w.1 ((Jeq k1 (by decide)).mp c49)
                            refine ⟨(ls0 C_h), _, (lr0_0 C_h), ?_⟩
                            refine ⟨(ls1 C_h), ?_⟩
                            exact w
                          · replace w := w.2 (fun e => c49 ((Jeq k1 (by decide)).mpr e))
                            exact w
theorem wrSum {h : AH} {a i : Nat} {w : Int} {S : Int → Int} (R : WorldRep h a S) (h2 : 0 ≤ S 2 ∧ S 2 ≤ 4) (hi : (i = 3 ∧ w = 3) ∨ (i = 4 ∧ w = 4)) : sumN 4 (aI h (a + i)) = sumN (S 2).toNat (fun p => pS S p w) := by
  have key : ∀ n : Nat, n ≤ 4 → sumN n (aI h (a + i)) = sumN (min n (S 2).toNat) (fun p => pS S p w) := by
    intro n
    induction n with
    | zero => intro _; rw [Nat.zero_min]; rfl
    | succ n ih =>
      intro hn
      show sumN n (aI h (a + i)) + aI h (a + i) n = _
      rw [ih (by omega)]
      by_cases c : n < (S 2).toNat
      · rw [Nat.min_eq_left (by omega), Nat.min_eq_left (by omega)]
        have z := R.1 n (by omega) (by omega)
        show _ = sumN n (fun p => pS S p w) + pS S n w
        rcases hi with ⟨rfl, rfl⟩ | ⟨rfl, rfl⟩
        · rw [z.2.2.1]
        · rw [z.2.2.2.1]
      · rw [Nat.min_eq_right (by omega), Nat.min_eq_right (by omega)]
        have z := R.2.1 n (by omega) (by omega)
        rcases hi with ⟨rfl, rfl⟩ | ⟨rfl, rfl⟩
        · rw [z.1]; omega
        · rw [z.2]; omega
  have := key 4 (by omega)
  rw [Nat.min_eq_right (by omega)] at this
  exact this
theorem sumC_rg {N : Int} {S : Int → Int} (W : WF N S) (hN : N ≤ 999) {w : Int} (hw : w = 3 ∨ w = 4) : -2147483648 ≤ sumN (S 2).toNat (fun p => pS S p w) ∧ sumN (S 2).toNat (fun p => pS S p w) < 2147483648 := by
  have b := W.1
  unfold WFb at b
  have key : ∀ n : Nat, n ≤ (S 2).toNat → 0 ≤ sumN n (fun p => pS S p w) ∧ sumN n (fun p => pS S p w) ≤ 1000 * n := by
    intro n
    induction n with
    | zero => intro _; exact ⟨Int.le_refl 0, Int.le_refl 0⟩
    | succ n ih =>
      intro hn
      have i := ih (by omega)
      have z := W.2.1 n (by omega) (by omega)
      show 0 ≤ sumN n (fun p => pS S p w) + pS S n w ∧ sumN n (fun p => pS S p w) + pS S n w ≤ _
      rcases hw with rfl | rfl <;> omega
  have := key (S 2).toNat (Nat.le_refl _)
  omega
theorem m163 {X : Cst} {d : Nat} {pl : Nat} {w : Int} {S : Int → Int} {h : AH} {Q : Post} (C : Lay h) (P : hR h 52 0 = some pl) (K : PlanAt h pl) (hd : 5 ≤ d) (R : CS h pl S) (W : WF 999 S) (g1 : -2147483648 ≤ w ∧ w < 2147483648)
    (k : Q (some (.int (J (anCount S (fI h 0 13) (fI h 52 2) (fI h 0 14) (fI h 52 3) (fI h 1 1) w)))) h) : Ex X PG d 163 0 [some (.ref 0), some (.int (J w))] [] h Q := by
  obtain ⟨d, rfl⟩ : ∃ e, d = e + 1 := ⟨d - 1, by omega⟩
  have b := W.1
  unfold WFb at b
  unfold anCount at k
  refine r163_0 (S := S) C K P (by omega) ?_
  rw [R.2.1.1.1, R.2.1.1.2.1, R.2.1.1.2.2.1, show fI h 64 5 = S 3 from R.2.2.1.2.2, R.2.2.2.1]
  refine ⟨g1, fun c => ?_, fun c0 => ⟨fun c => ?_, fun c1 => ⟨fun c => ?_, fun c2 => ⟨fun c => ?_, fun c3 => ⟨fun c => ?_, fun c4 => ⟨fun c => ?_, fun c5 => ⟨fun c => ⟨R, W, ?_⟩, fun c6 => ⟨fun c => ?_, fun c7 => ⟨fun c => ?_, fun c8 => ⟨fun c => ?_, fun c9 => ⟨fun c => ?_, fun c10 => ⟨fun c => ?_, fun c11 => ⟨fun c => ?_, fun c12 => ?_⟩⟩⟩⟩⟩⟩⟩⟩⟩⟩⟩⟩⟩
  · rw [if_pos c] at k; exact k
  · rw [if_neg c0, if_pos c] at k; exact k
  · rw [if_neg c0, if_neg c1, if_pos c] at k; exact k
  · rw [if_neg c0, if_neg c1, if_neg c2, if_pos c] at k; exact k
  · rw [if_neg c0, if_neg c1, if_neg c2, if_neg c3, if_pos c] at k; exact k
  · rw [if_neg c0, if_neg c1, if_neg c2, if_neg c3, if_neg c4, if_pos c] at k; exact k
  · rw [if_neg c0, if_neg c1, if_neg c2, if_neg c3, if_neg c4, if_neg c5, if_pos c] at k; exact k
  · rw [if_neg c0, if_neg c1, if_neg c2, if_neg c3, if_neg c4, if_neg c5, if_neg c6, if_pos c] at k
    have e : sumN 4 (aI h 67) = _ := wrSum (i := 3) (w := 3) R.2.2.1 (by omega) (by omega)
    refine m164 C (WorldAt_64 C) (ls67 C) (by omega) ?_
    rw [e]
    exact ⟨_, sumC_rg W (by omega) (Or.inl rfl), rfl, SH.rf, k⟩
  · rw [if_neg c0, if_neg c1, if_neg c2, if_neg c3, if_neg c4, if_neg c5, if_neg c6, if_neg c7, if_pos c] at k
    have e : sumN 4 (aI h 68) = _ := wrSum (i := 4) (w := 4) R.2.2.1 (by omega) (by omega)
    refine m164 C (WorldAt_64 C) (ls68 C) (by omega) ?_
    rw [e]
    exact ⟨_, sumC_rg W (by omega) (Or.inr rfl), rfl, SH.rf, k⟩
  · rw [if_neg c0, if_neg c1, if_neg c2, if_neg c3, if_neg c4, if_neg c5, if_neg c6, if_neg c7, if_neg c8, if_pos c] at k; exact k
  · rw [if_neg c0, if_neg c1, if_neg c2, if_neg c3, if_neg c4, if_neg c5, if_neg c6, if_neg c7, if_neg c8, if_neg c9, if_pos c] at k; exact k
  · rw [if_neg c0, if_neg c1, if_neg c2, if_neg c3, if_neg c4, if_neg c5, if_neg c6, if_neg c7, if_neg c8, if_neg c9, if_neg c10, if_pos c] at k; exact k
  · rw [if_neg c0, if_neg c1, if_neg c2, if_neg c3, if_neg c4, if_neg c5, if_neg c6, if_neg c7, if_neg c8, if_neg c9, if_neg c10, if_neg c11, if_pos c] at k; exact k
  · rw [if_neg c0, if_neg c1, if_neg c2, if_neg c3, if_neg c4, if_neg c5, if_neg c6, if_neg c7, if_neg c8, if_neg c9, if_neg c10, if_neg c11, if_neg c12] at k; exact k
theorem WorldRep.eqv {h : AH} {a : Nat} {S R : Int → Int} (x : WorldRep h a S) (h2 : S 2 ≤ 4) (e : ∀ k, 0 ≤ k → k < 34 → R k = S k) : WorldRep h a R := by
  obtain ⟨x, y, z⟩ := x
  have e2 := e 2 (by omega) (by omega)
  refine ⟨fun p p0 p1 => ?_, fun p p0 p1 => ?_, ?_⟩
  · rw [e2] at p1
    have q : ∀ w, 0 ≤ w → w < 6 → pS R p w = pS S p w := fun w w0 w1 => e _ (by omega) (by omega)
    rw [q 0 (by omega) (by omega), q 1 (by omega) (by omega), q 3 (by omega) (by omega), q 4 (by omega) (by omega), q 5 (by omega) (by omega)]
    exact x p p0 p1
  · rw [e2] at p0; exact y p p0 p1
  · rw [e 3 (by omega) (by omega)]; exact z
theorem not_k {S : Int → Int} {n p r : Int} (h : 0 ≤ S 114 ∧ S 114 < 10) {k : Int} (hk : 0 ≤ k ∧ k < 2147483648) (c : k < 84 ∨ 115 ≤ k) : notS S n p r k = S k := by
  unfold notS
  rw [uu_ne (by omega) (by omega) (by omega), uu_ne (by omega) (by omega) (by omega), uu_ne (by omega) (by omega) (by omega), uu_ne (by omega) (by omega) (by omega)]
theorem not_Stat {S : Int → Int} {n p r : Int} (h : 0 ≤ S 114 ∧ S 114 < 10) (h2 : S 2 ≤ 4) : Stat S (notS S n p r) :=
  ⟨fun j _ _ => not_k h (by omega) (by omega), not_k h (by omega) (by omega), not_k h (by omega) (by omega), fun j _ _ => not_k h (by omega) (by omega), fun j _ _ => not_k h (by omega) (by omega), fun j _ _ => not_k h (by omega) (by omega)⟩
theorem not_114 {S : Int → Int} {n p r : Int} : notS S n p r 114 = S 114 + 1 := uu_eq _ _ _
theorem not_n {S : Int → Int} {n p r : Int} (h : 0 ≤ S 114 ∧ S 114 < 10) {j i : Int} (hj : 0 ≤ j ∧ j ≤ S 114) (hi : 0 ≤ i ∧ i < 3) : notS S n p r (84 + 3 * j + i) = if j = S 114 then (if i = 0 then n else if i = 1 then p else r) else S (84 + 3 * j + i) := by
  unfold notS
  rw [uu_ne (by omega) (by omega) (by omega)]
  by_cases c : j = S 114
  · subst c
    rw [if_pos rfl]
    have : i = 0 ∨ i = 1 ∨ i = 2 := by omega
    rcases this with rfl | rfl | rfl
    · rw [if_pos rfl, Int.add_zero, uu_ne (by omega) (by omega) (by omega), uu_ne (by omega) (by omega) (by omega), uu_eq]
    · rw [if_neg (by decide), if_pos rfl, uu_ne (by omega) (by omega) (by omega), uu_eq]
    · rw [if_neg (by decide), if_neg (by decide), uu_eq]
  · rw [if_neg c, uu_ne (by omega) (by omega) (by omega), uu_ne (by omega) (by omega) (by omega), uu_ne (by omega) (by omega) (by omega)]
-- OutwardDoors$Scene.addNote(III)V at 0
set_option maxRecDepth 20000 in
set_option maxHeartbeats 4000000 in
theorem r151_0 {X : Cst} {d : Nat} {x1 : Int} {x2 : Int} {x3 : Int} {pl : Nat} {h : AH} {Q : Post} (C_h : Lay h) (K_h_0 : PlanAt h pl) (P_h : hR h 52 0 = some pl)
  (w : (0 ≤ fI h 52 4 ∧ fI h 52 4 < 10) ∧ Q none (wF (wA (wA (wA h 70 (fI h 52 4) x1) 71 (fI h 52 4) x2) 72 (fI h 52 4) x3) 52 4 ((fI h 52 4) + 1))) :
    Ex X PG (d + 1) 151 0 [some (.ref 52), some (.int (J x1)), some (.int (J x2)), some (.int (J x3))] [] h Q := by
  refine wpx_ok (cut := []) 25 d 151 0 _ _ _ _ ?_
  show hs h 52 = (0, 6) ∧ ∃ q1, hR h 52 6 = some q1 ∧ hs h 52 = (0, 6) ∧ (hs h q1).1 = 1 ∧ ix (hF h 52 4) (hs h q1).2 ∧ hs (wI h q1 (Int32.toNatClampNeg (hF h 52 4)) (J x1)) 52 = (0, 6) ∧ ∃ q3, hR (wI h q1 (Int32.toNatClampNeg (hF h 52 4)) (J x1)) 52 7 = some q3 ∧ hs (wI h q1 (Int32.toNatClampNeg (hF h 52 4)) (J x1)) 52 = (0, 6) ∧ (hs (wI h q1 (Int32.toNatClampNeg (hF h 52 4)) (J x1)) q3).1 = 1 ∧ ix (hF (wI h q1 (Int32.toNatClampNeg (hF h 52 4)) (J x1)) 52 4) (hs (wI h q1 (Int32.toNatClampNeg (hF h 52 4)) (J x1)) q3).2 ∧ hs (wI (wI h q1 (Int32.toNatClampNeg (hF h 52 4)) (J x1)) q3 (Int32.toNatClampNeg (hF (wI h q1 (Int32.toNatClampNeg (hF h 52 4)) (J x1)) 52 4)) (J x2)) 52 = (0, 6) ∧ ∃ q4, hR (wI (wI h q1 (Int32.toNatClampNeg (hF h 52 4)) (J x1)) q3 (Int32.toNatClampNeg (hF (wI h q1 (Int32.toNatClampNeg (hF h 52 4)) (J x1)) 52 4)) (J x2)) 52 8 = some q4 ∧ hs (wI (wI h q1 (Int32.toNatClampNeg (hF h 52 4)) (J x1)) q3 (Int32.toNatClampNeg (hF (wI h q1 (Int32.toNatClampNeg (hF h 52 4)) (J x1)) 52 4)) (J x2)) 52 = (0, 6) ∧ (hs (wI (wI h q1 (Int32.toNatClampNeg (hF h 52 4)) (J x1)) q3 (Int32.toNatClampNeg (hF (wI h q1 (Int32.toNatClampNeg (hF h 52 4)) (J x1)) 52 4)) (J x2)) q4).1 = 1 ∧ ix (hF (wI (wI h q1 (Int32.toNatClampNeg (hF h 52 4)) (J x1)) q3 (Int32.toNatClampNeg (hF (wI h q1 (Int32.toNatClampNeg (hF h 52 4)) (J x1)) 52 4)) (J x2)) 52 4) (hs (wI (wI h q1 (Int32.toNatClampNeg (hF h 52 4)) (J x1)) q3 (Int32.toNatClampNeg (hF (wI h q1 (Int32.toNatClampNeg (hF h 52 4)) (J x1)) 52 4)) (J x2)) q4).2 ∧ hs (wI (wI (wI h q1 (Int32.toNatClampNeg (hF h 52 4)) (J x1)) q3 (Int32.toNatClampNeg (hF (wI h q1 (Int32.toNatClampNeg (hF h 52 4)) (J x1)) 52 4)) (J x2)) q4 (Int32.toNatClampNeg (hF (wI (wI h q1 (Int32.toNatClampNeg (hF h 52 4)) (J x1)) q3 (Int32.toNatClampNeg (hF (wI h q1 (Int32.toNatClampNeg (hF h 52 4)) (J x1)) 52 4)) (J x2)) 52 4)) (J x3)) 52 = (0, 6) ∧ hs (wI (wI (wI h q1 (Int32.toNatClampNeg (hF h 52 4)) (J x1)) q3 (Int32.toNatClampNeg (hF (wI h q1 (Int32.toNatClampNeg (hF h 52 4)) (J x1)) 52 4)) (J x2)) q4 (Int32.toNatClampNeg (hF (wI (wI h q1 (Int32.toNatClampNeg (hF h 52 4)) (J x1)) q3 (Int32.toNatClampNeg (hF (wI h q1 (Int32.toNatClampNeg (hF h 52 4)) (J x1)) 52 4)) (J x2)) 52 4)) (J x3)) 52 = (0, 6) ∧ Q none (wG (wI (wI (wI h q1 (Int32.toNatClampNeg (hF h 52 4)) (J x1)) q3 (Int32.toNatClampNeg (hF (wI h q1 (Int32.toNatClampNeg (hF h 52 4)) (J x1)) 52 4)) (J x2)) q4 (Int32.toNatClampNeg (hF (wI (wI h q1 (Int32.toNatClampNeg (hF h 52 4)) (J x1)) q3 (Int32.toNatClampNeg (hF (wI h q1 (Int32.toNatClampNeg (hF h 52 4)) (J x1)) 52 4)) (J x2)) 52 4)) (J x3)) 52 4 ((hF (wI (wI (wI h q1 (Int32.toNatClampNeg (hF h 52 4)) (J x1)) q3 (Int32.toNatClampNeg (hF (wI h q1 (Int32.toNatClampNeg (hF h 52 4)) (J x1)) 52 4)) (J x2)) q4 (Int32.toNatClampNeg (hF (wI (wI h q1 (Int32.toNatClampNeg (hF h 52 4)) (J x1)) q3 (Int32.toNatClampNeg (hF (wI h q1 (Int32.toNatClampNeg (hF h 52 4)) (J x1)) 52 4)) (J x2)) 52 4)) (J x3)) 52 4) + (J 1)))
  try simp only [aI_wAL, fI_wAL, aL_wA, aL_wF, aI_wA_ne, aI_wF_ne, fI_wA_ne, fI_wF_ne, fI_wF_nk, aL_wAL_ne, J_sameA, J_sameF, aL_same, Nat.add_left_cancel_iff, Nat.add_eq_left, Nat.left_eq_add, not_false_eq_true, Nat.reduceEqDiff, Nat.reduceAdd, J_add, J_sub, J_mul, J_neg, J_and, J_or, J_xor, J_shl, J_shr, J_div, J_i2b, J_i2l, J_l2i, J_lcm, J_max, J_min, J_nab, J_nao, rdA, rdF, rdL, wA_fold, wF_fold, wL_fold, wC_fold]
  refine ⟨(ls52 C_h), _, (lr52_6 C_h), ?_⟩
  refine ⟨(ls52 C_h), ?_⟩
  obtain ⟨k2, w⟩ := w
  refine ⟨congrArg Prod.fst (ls70 C_h), ixs (ls70 C_h) k2 (by decide), ?_⟩
  refine ⟨(ls52 C_h), _, (lr52_7 C_h), ?_⟩
  refine ⟨(ls52 C_h), ?_⟩
  refine ⟨congrArg Prod.fst (ls71 C_h), ixs (ls71 C_h) k2 (by decide), ?_⟩
  refine ⟨(ls52 C_h), _, (lr52_8 C_h), ?_⟩
  refine ⟨(ls52 C_h), ?_⟩
  refine ⟨congrArg Prod.fst (ls72 C_h), ixs (ls72 C_h) k2 (by decide), ?_⟩
  refine ⟨(ls52 C_h), ?_⟩
  refine ⟨(ls52 C_h), ?_⟩
  exact w
-- OutwardDoors.note(III)I at 0
set_option maxRecDepth 20000 in
set_option maxHeartbeats 4000000 in
theorem r150_0 {X : Cst} {d : Nat} {x1 : Int} {x2 : Int} {x3 : Int} {pl : Nat} {S : Int → Int} {h : AH} {Q : Post} (C_h : Lay h) (K_h_0 : PlanAt h pl) (P_h : hR h 52 0 = some pl) (hd : 1 ≤ d)
  (w : (-2147483648 ≤ x1 ∧ x1 < 2147483648) ∧ ((¬ x1 = (-1) → ((x1 < 0 → Q (some (.int (J (-2)))) h) ∧ (¬ x1 < 0 → ((60 < x1 → Q (some (.int (J (-2)))) h) ∧ (¬ 60 < x1 → (CS h pl S) ∧ (-2147483648 ≤ x2 ∧ x2 < 2147483648) ∧ ((¬ (0 ≤ x2 ∧ x2 < S 2) → Q (some (.int (J (-2)))) h) ∧ ((0 ≤ x2 ∧ x2 < S 2) → (-2147483648 ≤ x3 ∧ x3 < 2147483648) ∧ (((0 ≤ x3 ∧ x3 < S 0) → ((fI h 52 4 < 10 → Ex X PG d 151 0 [some (.ref 52), some (.int (J x1)), some (.int (J x2)), some (.int (J x3))] [] h (fun v25 h26 => v25 = none ∧ SH h h26 ∧ Q (some (.int (J (fI h26 52 4)))) h26)) ∧ (¬ fI h 52 4 < 10 → Q (some (.int (J (-2)))) h))) ∧ (¬ (0 ≤ x3 ∧ x3 < S 0) → Q (some (.int (J (-2)))) h))))))))) ∧ (x1 = (-1) → Q (some (.int (J 0))) (wF h 52 4 0)))) :
    Ex X PG (d + 1) 150 0 [some (.ref 0), some (.int (J x1)), some (.int (J x2)), some (.int (J x3))] [] h Q := by
  refine wpx_ok (cut := []) 31 d 150 0 _ _ _ _ ?_
  show ((¬ (J x1) = (J (-1)) → (((J x1) < (J 0) → Q (some (.int (J (-2)))) h) ∧ (¬ ((J x1) < (J 0)) → (((J 60) < (J x1) → Q (some (.int (J (-2)))) h) ∧ (¬ ((J 60) < (J x1)) → hs h 0 = (0, 10) ∧ Ex X PG d 75 0 [some (.ref 0), some (.int (J x2))] [] h (fun v8 h9 => ∃ r10, v8 = some (.int r10) ∧ ((r10 = (J 0) → Q (some (.int (J (-2)))) h9) ∧ (¬ (r10 = (J 0)) → hs h9 0 = (0, 10) ∧ Ex X PG d 80 0 [some (.ref 0), some (.int (J x3))] [] h9 (fun v15 h16 => ∃ r17, v15 = some (.int r17) ∧ ((¬ r17 = (J 0) → hs h16 0 = (0, 10) ∧ ∃ q21, hR h16 0 5 = some q21 ∧ hs h16 q21 = (0, 6) ∧ (((hF h16 q21 4) < (J 10) → hs h16 0 = (0, 10) ∧ ∃ q24, hR h16 0 5 = some q24 ∧ hs h16 q24 = (0, 6) ∧ Ex X PG d 151 0 [some (.ref q24), some (.int (J x1)), some (.int (J x2)), some (.int (J x3))] [] h16 (fun v25 h26 => v25 = none ∧ hs h26 0 = (0, 10) ∧ ∃ q27, hR h26 0 5 = some q27 ∧ hs h26 q27 = (0, 6) ∧ Q (some (.int (hF h26 q27 4))) h26)) ∧ (¬ ((hF h16 q21 4) < (J 10)) → Q (some (.int (J (-2)))) h16))) ∧ (¬ (¬ r17 = (J 0)) → Q (some (.int (J (-2)))) h16))))))))))) ∧ (¬ (¬ (J x1) = (J (-1))) → hs h 0 = (0, 10) ∧ ∃ q29, hR h 0 5 = some q29 ∧ hs h q29 = (0, 6) ∧ Q (some (.int (J 0))) (wG h q29 4 (J 0))))
  try simp only [aI_wAL, fI_wAL, aL_wA, aL_wF, aI_wA_ne, aI_wF_ne, fI_wA_ne, fI_wF_ne, fI_wF_nk, aL_wAL_ne, J_sameA, J_sameF, aL_same, Nat.add_left_cancel_iff, Nat.add_eq_left, Nat.left_eq_add, not_false_eq_true, Nat.reduceEqDiff, Nat.reduceAdd, J_add, J_sub, J_mul, J_neg, J_and, J_or, J_xor, J_shl, J_shr, J_div, J_i2b, J_i2l, J_l2i, J_lcm, J_max, J_min, J_nab, J_nao, rdA, rdF, rdL, wA_fold, wF_fold, wL_fold, wC_fold]
  obtain ⟨k3, w⟩ := w
  refine ⟨fun c1 => ?_, fun c1 => ?_⟩
  · have t2 : ¬ x1 = (-1) := (fun e => c1 ((Jeq k3 (by decide)).mpr e))
    replace w := w.1 t2
    refine ⟨fun c4 => ?_, fun c4 => ?_⟩
    · have t5 : x1 < 0 := ((Jlt k3 (by decide)).mp c4)
      replace w := w.1 t5
      exact w
    · have t5 : ¬ x1 < 0 := (fun e => c4 ((Jlt k3 (by decide)).mpr e))
      replace w := w.2 t5
      refine ⟨fun c6 => ?_, fun c6 => ?_⟩
      · have t7 : 60 < x1 := ((Jlt (by decide) k3).mp c6)
        replace w := w.1 t7
        exact w
      · have t7 : ¬ 60 < x1 := (fun e => c6 ((Jlt (by decide) k3).mpr e))
        replace w := w.2 t7
        refine ⟨(ls0 C_h), ?_⟩
        obtain ⟨k11, w⟩ := w
        obtain ⟨k12, w⟩ := w
        refine m75 (h := h) (x := x2) (S := S) (pl := pl) C_h P_h K_h_0 (by omega) k11 k12 ?_
        refine ⟨_, rfl, ?_⟩
        try simp only [aI_wAL, fI_wAL, aL_wA, aL_wF, aI_wA_ne, aI_wF_ne, fI_wA_ne, fI_wF_ne, fI_wF_nk, aL_wAL_ne, J_sameA, J_sameF, aL_same, Nat.add_left_cancel_iff, Nat.add_eq_left, Nat.left_eq_add, not_false_eq_true, Nat.reduceEqDiff, Nat.reduceAdd, J_add, J_sub, J_mul, J_neg, J_and, J_or, J_xor, J_shl, J_shr, J_div, J_i2b, J_i2l, J_l2i, J_lcm, J_max, J_min, J_nab, J_nao, rdA, rdF, rdL, wA_fold, wF_fold, wL_fold, wC_fold]
        refine ⟨fun c13 => ?_, fun c13 => ?_⟩
        · have t14 : ¬ (0 ≤ x2 ∧ x2 < S 2) := ((bI0 _).mp c13)
          replace w := w.1 t14
          exact w
        · have t14 : (0 ≤ x2 ∧ x2 < S 2) := (Classical.byContradiction fun n => c13 ((bI0 _).mpr n))
          replace w := w.2 t14
          refine ⟨(ls0 C_h), ?_⟩
          obtain ⟨k18, w⟩ := w
          refine m80 (h := h) (x := x3) (S := S) (pl := pl) C_h P_h K_h_0 (by omega) k11 k18 ?_
          refine ⟨_, rfl, ?_⟩
          try simp only [aI_wAL, fI_wAL, aL_wA, aL_wF, aI_wA_ne, aI_wF_ne, fI_wA_ne, fI_wF_ne, fI_wF_nk, aL_wAL_ne, J_sameA, J_sameF, aL_same, Nat.add_left_cancel_iff, Nat.add_eq_left, Nat.left_eq_add, not_false_eq_true, Nat.reduceEqDiff, Nat.reduceAdd, J_add, J_sub, J_mul, J_neg, J_and, J_or, J_xor, J_shl, J_shr, J_div, J_i2b, J_i2l, J_l2i, J_lcm, J_max, J_min, J_nab, J_nao, rdA, rdF, rdL, wA_fold, wF_fold, wL_fold, wC_fold]
          refine ⟨fun c19 => ?_, fun c19 => ?_⟩
          · have t20 : (0 ≤ x3 ∧ x3 < S 0) := (Classical.byContradiction fun n => c19 ((bI0 _).mpr n))
            replace w := w.1 t20
            refine ⟨(ls0 C_h), _, (lr0_5 C_h), ?_⟩
            refine ⟨(ls52 C_h), ?_⟩
            refine ⟨fun c22 => ?_, fun c22 => ?_⟩
            · have t23 : fI h 52 4 < 10 := ((Jlt (rg_toInt _) (by decide)).mp c22)
              replace w := w.1 t23
              refine ⟨(ls0 C_h), _, (lr0_5 C_h), ?_⟩
              refine ⟨(ls52 C_h), ?_⟩
              refine Ex.mono w (Nat.le_refl _) ?_
              rintro v25 h26 ⟨rfl, s28, w⟩
              refine ⟨rfl, ?_⟩
              have C_h26 := Lay_SH s28 C_h
              have K_h26_0 := PlanAt_SH s28 K_h_0
              have P_h26 := (congrFun (congrFun s28.2 52) 0).trans P_h
              try simp only [aI_wAL, fI_wAL, aL_wA, aL_wF, aI_wA_ne, aI_wF_ne, fI_wA_ne, fI_wF_ne, fI_wF_nk, aL_wAL_ne, J_sameA, J_sameF, aL_same, Nat.add_left_cancel_iff, Nat.add_eq_left, Nat.left_eq_add, not_false_eq_true, Nat.reduceEqDiff, Nat.reduceAdd, J_add, J_sub, J_mul, J_neg, J_and, J_or, J_xor, J_shl, J_shr, J_div, J_i2b, J_i2l, J_l2i, J_lcm, J_max, J_min, J_nab, J_nao, rdA, rdF, rdL, wA_fold, wF_fold, wL_fold, wC_fold]
              refine ⟨(ls0 C_h26), _, (lr0_5 C_h26), ?_⟩
              refine ⟨(ls52 C_h26), ?_⟩
              exact w
            · have t23 : ¬ fI h 52 4 < 10 := (fun e => c22 ((Jlt (rg_toInt _) (by decide)).mpr e))
              replace w := w.2 t23
              exact w
          · have t20 : ¬ (0 ≤ x3 ∧ x3 < S 0) := ((bI0 _).mp (Classical.byContradiction fun n => c19 n))
            replace w := w.2 t20
            exact w
  · have t2 : x1 = (-1) := ((Jeq k3 (by decide)).mp (Classical.byContradiction c1))
    replace w := w.2 t2
    refine ⟨(ls0 C_h), _, (lr0_5 C_h), ?_⟩
    refine ⟨(ls52 C_h), ?_⟩
    exact w
def TNo (c k : Nat) : Prop := c = 70 ∨ c = 71 ∨ c = 72 ∨ (c = 52 ∧ k = 4)
theorem m150 {X : Cst} {d : Nat} {pl : Nat} {n p r : Int} {S : Int → Int} {h : AH} {Q : Post} (C : Lay h) (P : hR h 52 0 = some pl) (K : PlanAt h pl) (hd : 2 ≤ d) (R : CS h pl S) (W : WF 999 S) (g1 : -2147483648 ≤ n ∧ n < 2147483648) (g2 : -2147483648 ≤ p ∧ p < 2147483648) (g3 : -2147483648 ≤ r ∧ r < 2147483648)
    (kn : n = -1 → ∀ h', Fr TNo h h' → CS h' pl (uu_ S 114 0) → Q (some (.int (J 0))) h')
    (k0 : ¬ n = -1 → ¬ notP S n p r → Q (some (.int (J (-2)))) h)
    (k : ¬ n = -1 → notP S n p r → ∀ h', Fr TNo h h' → CS h' pl (notS S n p r) → Q (some (.int (J (S 114 + 1)))) h') : Ex X PG d 150 0 [some (.ref 0), some (.int (J n)), some (.int (J p)), some (.int (J r))] [] h Q := by
  obtain ⟨d, rfl⟩ : ∃ e, d = e + 1 := ⟨d - 1, by omega⟩
  have b := W.1
  unfold WFb at b
  have nn := W.2.2.2.2.2.1
  have n0 := nn.1
  have n1 := nn.2.1
  refine r150_0 (S := S) C K P (by omega) ?_
  rw [R.2.2.2.1]
  refine ⟨g1, fun c => ⟨fun c1 => k0 c (fun z => absurd z.1 (by omega)), fun c1 => ⟨fun c2 => k0 c (fun z => absurd z.1 (by omega)), fun c2 => ⟨R, g2, fun c3 => k0 c (fun z => c3 z.2.1), fun c3 => ⟨g3, fun c4 => ⟨fun c5 => ?_, fun c5 => k0 c (fun z => absurd z.2.2.2 (by omega))⟩, fun c4 => k0 c (fun z => c4 z.2.2.1)⟩⟩⟩⟩, fun c => ?_⟩
  · obtain ⟨d, rfl⟩ : ∃ e, d = e + 1 := ⟨d - 1, by omega⟩
    refine r151_0 C K P ?_
    rw [R.2.2.2.1]
    have F : Fr TNo h (wF (wA (wA (wA h 70 (S 114) n) 71 (S 114) p) 72 (S 114) r) 52 4 (S 114 + 1)) := ((((Fr.rf (T := TNo)).wA (by unfold TNo; omega)).wA (by unfold TNo; omega)).wA (by unfold TNo; omega)).wF (by unfold TNo; omega)
    refine ⟨by omega, rfl, F.1, ?_⟩
    rw [fI_wF_eq (by omega)]
    have hn : 0 ≤ S 114 ∧ S 114 < 10 := by omega
    refine k c ⟨by omega, c3, c4, by omega⟩ _ F ⟨R.1, ?_, ?_, ?_, fun j j0 j1 => ?_⟩
    · exact (R.2.1.stat W (not_Stat hn (by omega))).fr F (fun c k z => by have := R.1; unfold TNo at z; omega)
    · exact (R.2.2.1.fr F (fun c k z => by unfold TNo at z; omega)).eqv (by omega) (fun k k0 k1 => not_k hn (by omega) (by omega))
    · rw [fI_wF_eq (by omega), not_114]
    · rw [not_114] at j1
      have q0 := not_n (n := n) (p := p) (r := r) hn (j := j) (i := 0) (by omega) (by omega)
      have q1 := not_n (n := n) (p := p) (r := r) hn (j := j) (i := 1) (by omega) (by omega)
      have q2 := not_n (n := n) (p := p) (r := r) hn (j := j) (i := 2) (by omega) (by omega)
      rw [Int.add_zero] at q0
      rw [q0, q1, q2]
      rw [aI_wF_ne (by decide), aI_wF_ne (by decide), aI_wF_ne (by decide), aI_wA_ne (by decide), aI_wA_ne (by decide), aI_wA g1, aI_wA_ne (by decide), aI_wA g2, aI_wA_ne (by decide), aI_wA g3, aI_wA_ne (by decide), aI_wA_ne (by decide)]
      by_cases cj : j = S 114
      · subst cj
        rw [uu_eq, uu_eq, uu_eq]
        simp
      · rw [if_neg cj, if_neg cj, if_neg cj, uu_ne (by omega) (by omega) cj, uu_ne (by omega) (by omega) cj, uu_ne (by omega) (by omega) cj]
        have := R.2.2.2.2 j j0 (by omega)
        exact this
  · have F : Fr TNo h (wF h 52 4 0) := (Fr.rf (T := TNo)).wF (by unfold TNo; omega)
    have e : ∀ k, 0 ≤ k → k < 2147483648 → ¬ k = 114 → uu_ S 114 0 k = S k := fun k k0 k1 k2 => uu_ne (by omega) (by omega) k2
    have st : Stat S (uu_ S 114 0) := ⟨fun j _ _ => e j (by omega) (by omega) (by omega), e _ (by omega) (by omega) (by omega), e _ (by omega) (by omega) (by omega), fun j _ _ => e j (by omega) (by omega) (by omega), fun j _ _ => e j (by omega) (by omega) (by omega), fun j _ _ => e _ (by omega) (by omega) (by omega)⟩
    refine kn c _ F ⟨R.1, ?_, ?_, ?_, fun j j0 j1 => ?_⟩
    · exact (R.2.1.stat W st).fr F (fun c k z => by have := R.1; unfold TNo at z; omega)
    · exact (R.2.2.1.fr F (fun c k z => by unfold TNo at z; omega)).eqv (by omega) (fun k k0 k1 => e k (by omega) (by omega) (by omega))
    · rw [fI_wF_eq (by omega), uu_eq]
    · rw [uu_eq] at j1; omega
