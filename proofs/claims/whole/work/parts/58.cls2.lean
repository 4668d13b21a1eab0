/-! THE CLASS: person, room, door. -/
-- OutwardDoors.person(II)I at 0
set_option maxRecDepth 20000 in
set_option maxHeartbeats 4000000 in
theorem r74_0 {X : Cst} {d : Nat} {x1 : Int} {x2 : Int} {pl : Nat} {S : Int → Int} {h : AH} {Q : Post} (C_h : Lay h) (K_h_0 : PlanAt h pl) (P_h : hR h 52 0 = some pl) (hd : 3 ≤ d)
  (w : (CS h pl S) ∧ (-2147483648 ≤ x1 ∧ x1 < 2147483648) ∧ (((0 ≤ x1 ∧ x1 < S 2) → (-2147483648 ≤ x2 ∧ x2 < 2147483648) ∧ ((x2 = 0 → (0 ≤ x1 ∧ x1 < 4) ∧ Q (some (.int (J (aI h 65 x1)))) h) ∧ (¬ x2 = 0 → ((x2 = 1 → (0 ≤ x1 ∧ x1 < 4) ∧ Q (some (.int (J (aI h 66 x1)))) h) ∧ (¬ x2 = 1 → ((x2 = 2 → (0 ≤ x1 ∧ x1 < 4) ∧ Q (some (.int (J (aI h (pl + 6) x1)))) h) ∧ (¬ x2 = 2 → ((x2 = 3 → (WF 999 S) ∧ (0 ≤ x1 ∧ x1 < 4) ∧ (0 ≤ ((bI (nightP S)) * 8 + (aI h 65 x1)) * 8 + (aI h 66 x1) ∧ ((bI (nightP S)) * 8 + (aI h 65 x1)) * 8 + (aI h 66 x1) < 128) ∧ Q (some (.int (J (aI h (pl + 10) (((bI (nightP S)) * 8 + (aI h 65 x1)) * 8 + (aI h 66 x1)))))) h) ∧ (¬ x2 = 3 → ((x2 = 4 → (WF 999 S) ∧ (0 ≤ x1 ∧ x1 < 4) ∧ (PlanRep h pl S) ∧ (0 ≤ (bI (nightP S)) ∧ (bI (nightP S)) < 2) ∧ (0 ≤ (aI h 65 x1) ∧ (aI h 65 x1) < S 0) ∧ (0 ≤ (aI h 66 x1) ∧ (aI h 66 x1) < S 0) ∧ Q (some (.int (J (stp S ((bI (nightP S)) = 1) (aI h 65 x1) (aI h 66 x1))))) h) ∧ (¬ x2 = 4 → ((x2 = 5 → (0 ≤ x1 ∧ x1 < 4) ∧ Q (some (.int (J (aI h 67 x1)))) h) ∧ (¬ x2 = 5 → ((x2 = 6 → (0 ≤ x1 ∧ x1 < 4) ∧ Q (some (.int (J (aI h 68 x1)))) h) ∧ (¬ x2 = 6 → ((x2 = 7 → (0 ≤ x1 ∧ x1 < 4) ∧ Q (some (.int (J (aI h 69 x1)))) h) ∧ (¬ x2 = 7 → Q (some (.int (J (-2)))) h))))))))))))))))) ∧ (¬ (0 ≤ x1 ∧ x1 < S 2) → Q (some (.int (J (-2)))) h))) :
    Ex X PG (d + 1) 74 0 [some (.ref 0), some (.int (J x1)), some (.int (J x2)), none, none] [] h Q := by
  refine wpx_ok (cut := []) 27 d 74 0 _ _ _ _ ?_
  show hs h 0 = (0, 10) ∧ Ex X PG d 75 0 [some (.ref 0), some (.int (J x1))] [] h (fun v1 h2 => ∃ r3, v1 = some (.int r3) ∧ ((¬ r3 = (J 0) → hs h2 0 = (0, 10) ∧ ∃ q8, hR h2 0 5 = some q8 ∧ hs h2 q8 = (0, 6) ∧ ∃ q9, hR h2 q8 0 = some q9 ∧ hs h2 0 = (0, 10) ∧ ∃ q10, hR h2 0 5 = some q10 ∧ hs h2 q10 = (0, 6) ∧ ∃ q11, hR h2 q10 1 = some q11 ∧ (((J x2) = J 0 → hs h2 q11 = (0, 9) ∧ ∃ q13, hR h2 q11 0 = some q13 ∧ (hs h2 q13).1 = 1 ∧ ix (J x1) (hs h2 q13).2 ∧ Q (some (.int (hI h2 q13 (Int32.toNatClampNeg (J x1))))) h2) ∧ (¬ (J x2) = J 0 → (((J x2) = J 1 → hs h2 q11 = (0, 9) ∧ ∃ q16, hR h2 q11 1 = some q16 ∧ (hs h2 q16).1 = 1 ∧ ix (J x1) (hs h2 q16).2 ∧ Q (some (.int (hI h2 q16 (Int32.toNatClampNeg (J x1))))) h2) ∧ (¬ (J x2) = J 1 → (((J x2) = J 2 → hs h2 q9 = (0, 2) ∧ ∃ q19, hR h2 q9 11 = some q19 ∧ (hs h2 q19).1 = 1 ∧ ix (J x1) (hs h2 q19).2 ∧ Q (some (.int (hI h2 q19 (Int32.toNatClampNeg (J x1))))) h2) ∧ (¬ (J x2) = J 2 → (((J x2) = J 3 → hs h2 0 = (0, 10) ∧ Ex X PG d 76 0 [some (.ref 0)] [] h2 (fun v22 h23 => ∃ r24, v22 = some (.int r24) ∧ hs h23 q11 = (0, 9) ∧ ∃ q26, hR h23 q11 0 = some q26 ∧ (hs h23 q26).1 = 1 ∧ ix (J x1) (hs h23 q26).2 ∧ hs h23 q11 = (0, 9) ∧ ∃ q28, hR h23 q11 1 = some q28 ∧ (hs h23 q28).1 = 1 ∧ ix (J x1) (hs h23 q28).2 ∧ hs h23 q9 = (0, 2) ∧ Ex X PG d 54 0 [some (.ref q9), some (.int r24), some (.int (hI h23 q26 (Int32.toNatClampNeg (J x1)))), some (.int (hI h23 q28 (Int32.toNatClampNeg (J x1))))] [] h23 (fun v29 h30 => ∃ r31, v29 = some (.int r31) ∧ Q (some (.int r31)) h30))) ∧ (¬ (J x2) = J 3 → (((J x2) = J 4 → hs h2 0 = (0, 10) ∧ Ex X PG d 76 0 [some (.ref 0)] [] h2 (fun v34 h35 => ∃ r36, v34 = some (.int r36) ∧ hs h35 q11 = (0, 9) ∧ ∃ q38, hR h35 q11 0 = some q38 ∧ (hs h35 q38).1 = 1 ∧ ix (J x1) (hs h35 q38).2 ∧ hs h35 q11 = (0, 9) ∧ ∃ q40, hR h35 q11 1 = some q40 ∧ (hs h35 q40).1 = 1 ∧ ix (J x1) (hs h35 q40).2 ∧ hs h35 q9 = (0, 2) ∧ Ex X PG d 78 0 [some (.ref q9), some (.int r36), some (.int (hI h35 q38 (Int32.toNatClampNeg (J x1)))), some (.int (hI h35 q40 (Int32.toNatClampNeg (J x1)))), none, none, none] [] h35 (fun v41 h42 => ∃ r43, v41 = some (.int r43) ∧ Q (some (.int r43)) h42))) ∧ (¬ (J x2) = J 4 → (((J x2) = J 5 → hs h2 q11 = (0, 9) ∧ ∃ q49, hR h2 q11 2 = some q49 ∧ (hs h2 q49).1 = 1 ∧ ix (J x1) (hs h2 q49).2 ∧ Q (some (.int (hI h2 q49 (Int32.toNatClampNeg (J x1))))) h2) ∧ (¬ (J x2) = J 5 → (((J x2) = J 6 → hs h2 q11 = (0, 9) ∧ ∃ q52, hR h2 q11 3 = some q52 ∧ (hs h2 q52).1 = 1 ∧ ix (J x1) (hs h2 q52).2 ∧ Q (some (.int (hI h2 q52 (Int32.toNatClampNeg (J x1))))) h2) ∧ (¬ (J x2) = J 6 → (((J x2) = J 7 → hs h2 q11 = (0, 9) ∧ ∃ q55, hR h2 q11 4 = some q55 ∧ (hs h2 q55).1 = 1 ∧ ix (J x1) (hs h2 q55).2 ∧ Q (some (.int (hI h2 q55 (Int32.toNatClampNeg (J x1))))) h2) ∧ (¬ (J x2) = J 7 → Q (some (.int (J (-2)))) h2))))))))))))))))) ∧ (¬ (¬ r3 = (J 0)) → Q (some (.int (J (-2)))) h2)))
  try simp only [aI_wAL, fI_wAL, aL_wA, aL_wF, aI_wA_ne, aI_wF_ne, fI_wA_ne, fI_wF_ne, fI_wF_nk, aL_wAL_ne, J_sameA, J_sameF, aL_same, Nat.add_left_cancel_iff, Nat.add_eq_left, Nat.left_eq_add, not_false_eq_true, Nat.reduceEqDiff, Nat.reduceAdd, J_add, J_sub, J_mul, J_neg, J_and, J_or, J_xor, J_shl, J_shr, J_div, J_i2b, J_i2l, J_l2i, J_lcm, J_max, J_min, J_nab, J_nao, rdA, rdF, rdL, wA_fold, wF_fold, wL_fold, wC_fold]
  refine ⟨(ls0 C_h), ?_⟩
  obtain ⟨k4, w⟩ := w
  obtain ⟨k5, w⟩ := w
  refine m75 (h := h) (x := x1) (S := S) (pl := pl) C_h P_h K_h_0 (by omega) k4 k5 ?_
  refine ⟨_, rfl, ?_⟩
  try simp only [aI_wAL, fI_wAL, aL_wA, aL_wF, aI_wA_ne, aI_wF_ne, fI_wA_ne, fI_wF_ne, fI_wF_nk, aL_wAL_ne, J_sameA, J_sameF, aL_same, Nat.add_left_cancel_iff, Nat.add_eq_left, Nat.left_eq_add, not_false_eq_true, Nat.reduceEqDiff, Nat.reduceAdd, J_add, J_sub, J_mul, J_neg, J_and, J_or, J_xor, J_shl, J_shr, J_div, J_i2b, J_i2l, J_l2i, J_lcm, J_max, J_min, J_nab, J_nao, rdA, rdF, rdL, wA_fold, wF_fold, wL_fold, wC_fold]
  refine ⟨fun c6 => ?_, fun c6 => ?_⟩
  · have t7 : (0 ≤ x1 ∧ x1 < S 2) := (Classical.byContradiction fun n => c6 ((bI0 _).mpr n))
    replace w := w.1 t7
    refine ⟨(ls0 C_h), _, (lr0_5 C_h), ?_⟩
    refine ⟨(ls52 C_h), _, P_h, ?_⟩
    refine ⟨(ls0 C_h), _, (lr0_5 C_h), ?_⟩
    refine ⟨(ls52 C_h), _, (lr52_1 C_h), ?_⟩
    obtain ⟨k12, w⟩ := w
    refine ⟨fun c15 => ?_, fun c15 => ?_⟩
    · replace w := w.1 ((Jeq k12 (by decide)).mp c15)
      refine ⟨(ls64 C_h), _, (lr64_0 C_h), ?_⟩
      obtain ⟨k14, w⟩ := w
      refine ⟨congrArg Prod.fst (ls65 C_h), ixs (ls65 C_h) k14 (by decide), ?_⟩
      exact w
    · replace w := w.2 (fun e => c15 ((Jeq k12 (by decide)).mpr e))
      refine ⟨fun c18 => ?_, fun c18 => ?_⟩
      · replace w := w.1 ((Jeq k12 (by decide)).mp c18)
        refine ⟨(ls64 C_h), _, (lr64_1 C_h), ?_⟩
        obtain ⟨k17, w⟩ := w
        refine ⟨congrArg Prod.fst (ls66 C_h), ixs (ls66 C_h) k17 (by decide), ?_⟩
        exact w
      · replace w := w.2 (fun e => c18 ((Jeq k12 (by decide)).mpr e))
        refine ⟨fun c21 => ?_, fun c21 => ?_⟩
        · replace w := w.1 ((Jeq k12 (by decide)).mp c21)
          refine ⟨(plan_0 K_h_0), _, (plan_16 K_h_0), ?_⟩
          obtain ⟨k20, w⟩ := w
          refine ⟨congrArg Prod.fst (plan_6 K_h_0), ixs (plan_6 K_h_0) k20 (by decide), ?_⟩
          exact w
        · replace w := w.2 (fun e => c21 ((Jeq k12 (by decide)).mpr e))
          refine ⟨fun c33 => ?_, fun c33 => ?_⟩
          · replace w := w.1 ((Jeq k12 (by decide)).mp c33)
            refine ⟨(ls0 C_h), ?_⟩
            obtain ⟨k25, w⟩ := w
            refine m76 (h := h)  (S := S) (pl := pl) C_h P_h K_h_0 (by omega) k4 k25 ?_
            refine ⟨_, rfl, ?_⟩
            try simp only [aI_wAL, fI_wAL, aL_wA, aL_wF, aI_wA_ne, aI_wF_ne, fI_wA_ne, fI_wF_ne, fI_wF_nk, aL_wAL_ne, J_sameA, J_sameF, aL_same, Nat.add_left_cancel_iff, Nat.add_eq_left, Nat.left_eq_add, not_false_eq_true, Nat.reduceEqDiff, Nat.reduceAdd, J_add, J_sub, J_mul, J_neg, J_and, J_or, J_xor, J_shl, J_shr, J_div, J_i2b, J_i2l, J_l2i, J_lcm, J_max, J_min, J_nab, J_nao, rdA, rdF, rdL, wA_fold, wF_fold, wL_fold, wC_fold]
            refine ⟨(ls64 C_h), _, (lr64_0 C_h), ?_⟩
            obtain ⟨k27, w⟩ := w
            refine ⟨congrArg Prod.fst (ls65 C_h), ixs (ls65 C_h) k27 (by decide), ?_⟩
            refine ⟨(ls64 C_h), _, (lr64_1 C_h), ?_⟩
            refine ⟨congrArg Prod.fst (ls66 C_h), ixs (ls66 C_h) k27 (by decide), ?_⟩
            refine ⟨(plan_0 K_h_0), ?_⟩
            obtain ⟨k32, w⟩ := w
            refine m54 (h := h) (a := pl) (r := (bI (nightP S))) (x := (aI h 65 x1)) (y := (aI h 66 x1)) C_h K_h_0 (by omega) k32 ?_
            refine ⟨_, rfl, ?_⟩
            try simp only [aI_wAL, fI_wAL, aL_wA, aL_wF, aI_wA_ne, aI_wF_ne, fI_wA_ne, fI_wF_ne, fI_wF_nk, aL_wAL_ne, J_sameA, J_sameF, aL_same, Nat.add_left_cancel_iff, Nat.add_eq_left, Nat.left_eq_add, not_false_eq_true, Nat.reduceEqDiff, Nat.reduceAdd, J_add, J_sub, J_mul, J_neg, J_and, J_or, J_xor, J_shl, J_shr, J_div, J_i2b, J_i2l, J_l2i, J_lcm, J_max, J_min, J_nab, J_nao, rdA, rdF, rdL, wA_fold, wF_fold, wL_fold, wC_fold]
            exact w
          · replace w := w.2 (fun e => c33 ((Jeq k12 (by decide)).mpr e))
            refine ⟨fun c48 => ?_, fun c48 => ?_⟩
            · replace w := w.1 ((Jeq k12 (by decide)).mp c48)
              refine ⟨(ls0 C_h), ?_⟩
              obtain ⟨k37, w⟩ := w
              refine m76 (h := h)  (S := S) (pl := pl) C_h P_h K_h_0 (by omega) k4 k37 ?_
              refine ⟨_, rfl, ?_⟩
              try simp only [aI_wAL, fI_wAL, aL_wA, aL_wF, aI_wA_ne, aI_wF_ne, fI_wA_ne, fI_wF_ne, fI_wF_nk, aL_wAL_ne, J_sameA, J_sameF, aL_same, Nat.add_left_cancel_iff, Nat.add_eq_left, Nat.left_eq_add, not_false_eq_true, Nat.reduceEqDiff, Nat.reduceAdd, J_add, J_sub, J_mul, J_neg, J_and, J_or, J_xor, J_shl, J_shr, J_div, J_i2b, J_i2l, J_l2i, J_lcm, J_max, J_min, J_nab, J_nao, rdA, rdF, rdL, wA_fold, wF_fold, wL_fold, wC_fold]
              refine ⟨(ls64 C_h), _, (lr64_0 C_h), ?_⟩
              obtain ⟨k39, w⟩ := w
              refine ⟨congrArg Prod.fst (ls65 C_h), ixs (ls65 C_h) k39 (by decide), ?_⟩
              refine ⟨(ls64 C_h), _, (lr64_1 C_h), ?_⟩
              refine ⟨congrArg Prod.fst (ls66 C_h), ixs (ls66 C_h) k39 (by decide), ?_⟩
              refine ⟨(plan_0 K_h_0), ?_⟩
              obtain ⟨k44, w⟩ := w
              obtain ⟨k45, w⟩ := w
              obtain ⟨k46, w⟩ := w
              obtain ⟨k47, w⟩ := w
              refine m78 (h := h) (a := pl) (r := (bI (nightP S))) (f := (aI h 65 x1)) (g := (aI h 66 x1)) (S := S) C_h K_h_0 (by omega) k44 k37 k45 k46 k47 ?_
              refine ⟨_, rfl, ?_⟩
              try simp only [aI_wAL, fI_wAL, aL_wA, aL_wF, aI_wA_ne, aI_wF_ne, fI_wA_ne, fI_wF_ne, fI_wF_nk, aL_wAL_ne, J_sameA, J_sameF, aL_same, Nat.add_left_cancel_iff, Nat.add_eq_left, Nat.left_eq_add, not_false_eq_true, Nat.reduceEqDiff, Nat.reduceAdd, J_add, J_sub, J_mul, J_neg, J_and, J_or, J_xor, J_shl, J_shr, J_div, J_i2b, J_i2l, J_l2i, J_lcm, J_max, J_min, J_nab, J_nao, rdA, rdF, rdL, wA_fold, wF_fold, wL_fold, wC_fold]
              exact w
            · replace w := w.2 (fun e => c48 ((Jeq k12 (by decide)).mpr e))
              refine ⟨fun c51 => ?_, fun c51 => ?_⟩
              · replace w := w.1 ((Jeq k12 (by decide)).mp c51)
                refine ⟨(ls64 C_h), _, (lr64_2 C_h), ?_⟩
                obtain ⟨k50, w⟩ := w
                refine ⟨congrArg Prod.fst (ls67 C_h), ixs (ls67 C_h) k50 (by decide), ?_⟩
                exact w
              · replace w := w.2 (fun e => c51 ((Jeq k12 (by decide)).mpr e))
                refine ⟨fun c54 => ?_, fun c54 => ?_⟩
                · replace w := w.1 ((Jeq k12 (by decide)).mp c54)
                  refine ⟨(ls64 C_h), _, (lr64_3 C_h), ?_⟩
                  obtain ⟨k53, w⟩ := w
                  refine ⟨congrArg Prod.fst (ls68 C_h), ixs (ls68 C_h) k53 (by decide), ?_⟩
                  exact w
                · replace w := w.2 (fun e => c54 ((Jeq k12 (by decide)).mpr e))
                  refine ⟨fun c57 => ?_, fun c57 => ?_⟩
                  · replace w := w.1 ((Jeq k12 (by decide)).mp c57)
                    refine ⟨(ls64 C_h), _, (lr64_4 C_h), ?_⟩
                    obtain ⟨k56, w⟩ := w
                    refine ⟨congrArg Prod.fst (ls69 C_h), ixs (ls69 C_h) k56 (by decide), ?_⟩
                    exact w
                  · replace w := w.2 (fun e => c57 ((Jeq k12 (by decide)).mpr e))
                    exact w
  · have t7 : ¬ (0 ≤ x1 ∧ x1 < S 2) := ((bI0 _).mp (Classical.byContradiction fun n => c6 n))
    replace w := w.2 t7
    exact w
theorem m74 {X : Cst} {d : Nat} {pl : Nat} {p w : Int} {S : Int → Int} {h : AH} {Q : Post} (C : Lay h) (P : hR h 52 0 = some pl) (K : PlanAt h pl) (hd : 4 ≤ d) (R : CS h pl S) (W : WF 999 S) (g1 : -2147483648 ≤ p ∧ p < 2147483648) (g2 : -2147483648 ≤ w ∧ w < 2147483648) (k : Q (some (.int (J (anPerson S p w)))) h) : Ex X PG d 74 0 [some (.ref 0), some (.int (J p)), some (.int (J w)), none, none] [] h Q := by
  obtain ⟨d, rfl⟩ : ∃ e, d = e + 1 := ⟨d - 1, by omega⟩
  have b := W.1
  unfold WFb at b
  have hr := bI_or (nightP S)
  unfold anPerson at k
  refine r74_0 C K P (S := S) (by omega) ⟨R, g1, fun c => ?_, fun c => ?_⟩
  · rw [if_pos c] at k
    have v : aI h 65 p = pS S p 0 ∧ aI h 66 p = pS S p 1 ∧ aI h 67 p = pS S p 3 ∧ aI h 68 p = pS S p 4 ∧ aI h 69 p = pS S p 5 := R.2.2.1.1 p c.1 c.2
    have pp := W.2.1 p c.1 c.2
    have l := R.2.1.2.2.2.2.2.2.2.2 (bI (nightP S)) (pS S p 0) (pS S p 1) (by omega) (by omega) (by omega) (by omega) (by omega) (by omega)
    rw [v.1, v.2.1, v.2.2.1, v.2.2.2.1, v.2.2.2.2, (R.2.1.2.2.2.2.1 p c.1 c.2).2.2, l, bI_1]
    refine ⟨g2, fun c0 => ⟨by omega, ?_⟩, fun c0 => ⟨fun c1 => ⟨by omega, ?_⟩, fun c1 => ⟨fun c2 => ⟨by omega, ?_⟩, fun c2 => ⟨fun c3 => ⟨W, by omega, by omega, ?_⟩, fun c3 => ⟨fun c4 => ⟨W, by omega, R.2.1, by omega, by omega, by omega, ?_⟩, fun c4 => ⟨fun c5 => ⟨by omega, ?_⟩, fun c5 => ⟨fun c6 => ⟨by omega, ?_⟩, fun c6 => ⟨fun c7 => ⟨by omega, ?_⟩, fun c7 => ?_⟩⟩⟩⟩⟩⟩⟩⟩
    · rw [if_pos c0] at k; exact k
    · rw [if_neg c0, if_pos c1] at k; exact k
    · rw [if_neg c0, if_neg c1, if_pos c2] at k; exact k
    · rw [if_neg c0, if_neg c1, if_neg c2, if_pos c3] at k; exact k
    · rw [if_neg c0, if_neg c1, if_neg c2, if_neg c3, if_pos c4] at k; exact k
    · rw [if_neg c0, if_neg c1, if_neg c2, if_neg c3, if_neg c4, if_pos c5] at k; exact k
    · rw [if_neg c0, if_neg c1, if_neg c2, if_neg c3, if_neg c4, if_neg c5, if_pos c6] at k; exact k
    · rw [if_neg c0, if_neg c1, if_neg c2, if_neg c3, if_neg c4, if_neg c5, if_neg c6, if_pos c7] at k; exact k
    · rw [if_neg c0, if_neg c1, if_neg c2, if_neg c3, if_neg c4, if_neg c5, if_neg c6, if_neg c7] at k; exact k
  · rw [if_neg c] at k; exact k
-- OutwardDoors.room(II)I at 0
set_option maxRecDepth 20000 in
set_option maxHeartbeats 4000000 in
theorem r79_0 {X : Cst} {d : Nat} {x1 : Int} {x2 : Int} {pl : Nat} {S : Int → Int} {h : AH} {Q : Post} (C_h : Lay h) (K_h_0 : PlanAt h pl) (P_h : hR h 52 0 = some pl) (hd : 3 ≤ d)
  (w : (CS h pl S) ∧ (-2147483648 ≤ x1 ∧ x1 < 2147483648) ∧ (((0 ≤ x1 ∧ x1 < S 0) → (-2147483648 ≤ x2 ∧ x2 < 2147483648) ∧ ((x2 = 0 → (0 ≤ x1 ∧ x1 < 8) ∧ Q (some (.int (J (aI h (pl + 1) x1)))) h) ∧ (¬ x2 = 0 → ((x2 = 1 → Ex X PG d 81 0 [some (.ref 64), some (.int (J x1)), some (.int (J (fI h pl 2))), none, none] [] h (fun v18 h19 => ∃ r20 : Int, (-2147483648 ≤ r20 ∧ r20 < 2147483648) ∧ v18 = some (.int (J r20)) ∧ SH h h19 ∧ Q (some (.int (J r20))) h19)) ∧ (¬ x2 = 1 → ((x2 = 2 → (WF 999 S) ∧ (PlanRep h pl S) ∧ (0 ≤ (bI (nightP S)) ∧ (bI (nightP S)) < 2) ∧ (0 ≤ x1 ∧ x1 < 8) ∧ Q (some (.int (J (outw S ((bI (nightP S)) = 1) x1)))) h) ∧ (¬ x2 = 2 → Q (some (.int (J (-1)))) h))))))) ∧ (¬ (0 ≤ x1 ∧ x1 < S 0) → Q (some (.int (J (-1)))) h))) :
    Ex X PG (d + 1) 79 0 [some (.ref 0), some (.int (J x1)), some (.int (J x2))] [] h Q := by
  refine wpx_ok (cut := []) 16 d 79 0 _ _ _ _ ?_
  show hs h 0 = (0, 10) ∧ Ex X PG d 80 0 [some (.ref 0), some (.int (J x1))] [] h (fun v1 h2 => ∃ r3, v1 = some (.int r3) ∧ ((¬ r3 = (J 0) → (((J x2) = J 0 → hs h2 0 = (0, 10) ∧ ∃ q9, hR h2 0 5 = some q9 ∧ hs h2 q9 = (0, 6) ∧ ∃ q10, hR h2 q9 0 = some q10 ∧ hs h2 q10 = (0, 2) ∧ ∃ q11, hR h2 q10 6 = some q11 ∧ (hs h2 q11).1 = 1 ∧ ix (J x1) (hs h2 q11).2 ∧ Q (some (.int (hI h2 q11 (Int32.toNatClampNeg (J x1))))) h2) ∧ (¬ (J x2) = J 0 → (((J x2) = J 1 → hs h2 0 = (0, 10) ∧ ∃ q14, hR h2 0 5 = some q14 ∧ hs h2 q14 = (0, 6) ∧ ∃ q15, hR h2 q14 1 = some q15 ∧ hs h2 0 = (0, 10) ∧ ∃ q16, hR h2 0 5 = some q16 ∧ hs h2 q16 = (0, 6) ∧ ∃ q17, hR h2 q16 0 = some q17 ∧ hs h2 q17 = (0, 2) ∧ hs h2 q15 = (0, 9) ∧ Ex X PG d 81 0 [some (.ref q15), some (.int (J x1)), some (.int (hF h2 q17 2)), none, none] [] h2 (fun v18 h19 => ∃ r20, v18 = some (.int r20) ∧ Q (some (.int r20)) h19)) ∧ (¬ (J x2) = J 1 → (((J x2) = J 2 → hs h2 0 = (0, 10) ∧ ∃ q23, hR h2 0 5 = some q23 ∧ hs h2 q23 = (0, 6) ∧ ∃ q24, hR h2 q23 0 = some q24 ∧ hs h2 0 = (0, 10) ∧ Ex X PG d 76 0 [some (.ref 0)] [] h2 (fun v25 h26 => ∃ r27, v25 = some (.int r27) ∧ hs h26 q24 = (0, 2) ∧ Ex X PG d 82 0 [some (.ref q24), some (.int r27), some (.int (J x1)), none, none, none] [] h26 (fun v29 h30 => ∃ r31, v29 = some (.int r31) ∧ Q (some (.int r31)) h30))) ∧ (¬ (J x2) = J 2 → Q (some (.int (J (-1)))) h2))))))) ∧ (¬ (¬ r3 = (J 0)) → Q (some (.int (J (-1)))) h2)))
  try simp only [aI_wAL, fI_wAL, aL_wA, aL_wF, aI_wA_ne, aI_wF_ne, fI_wA_ne, fI_wF_ne, fI_wF_nk, aL_wAL_ne, J_sameA, J_sameF, aL_same, Nat.add_left_cancel_iff, Nat.add_eq_left, Nat.left_eq_add, not_false_eq_true, Nat.reduceEqDiff, Nat.reduceAdd, J_add, J_sub, J_mul, J_neg, J_and, J_or, J_xor, J_shl, J_shr, J_div, J_i2b, J_i2l, J_l2i, J_lcm, J_max, J_min, J_nab, J_nao, rdA, rdF, rdL, wA_fold, wF_fold, wL_fold, wC_fold]
  refine ⟨(ls0 C_h), ?_⟩
  obtain ⟨k4, w⟩ := w
  obtain ⟨k5, w⟩ := w
  refine m80 (h := h) (x := x1) (S := S) (pl := pl) C_h P_h K_h_0 (by omega) k4 k5 ?_
  refine ⟨_, rfl, ?_⟩
  try simp only [aI_wAL, fI_wAL, aL_wA, aL_wF, aI_wA_ne, aI_wF_ne, fI_wA_ne, fI_wF_ne, fI_wF_nk, aL_wAL_ne, J_sameA, J_sameF, aL_same, Nat.add_left_cancel_iff, Nat.add_eq_left, Nat.left_eq_add, not_false_eq_true, Nat.reduceEqDiff, Nat.reduceAdd, J_add, J_sub, J_mul, J_neg, J_and, J_or, J_xor, J_shl, J_shr, J_div, J_i2b, J_i2l, J_l2i, J_lcm, J_max, J_min, J_nab, J_nao, rdA, rdF, rdL, wA_fold, wF_fold, wL_fold, wC_fold]
  refine ⟨fun c6 => ?_, fun c6 => ?_⟩
  · have t7 : (0 ≤ x1 ∧ x1 < S 0) := (Classical.byContradiction fun n => c6 ((bI0 _).mpr n))
    replace w := w.1 t7
    obtain ⟨k8, w⟩ := w
    refine ⟨fun c13 => ?_, fun c13 => ?_⟩
    · replace w := w.1 ((Jeq k8 (by decide)).mp c13)
      refine ⟨(ls0 C_h), _, (lr0_5 C_h), ?_⟩
      refine ⟨(ls52 C_h), _, P_h, ?_⟩
      refine ⟨(plan_0 K_h_0), _, (plan_11 K_h_0), ?_⟩
      obtain ⟨k12, w⟩ := w
      refine ⟨congrArg Prod.fst (plan_1 K_h_0), ixs (plan_1 K_h_0) k12 (by decide), ?_⟩
      exact w
    · replace w := w.2 (fun e => c13 ((Jeq k8 (by decide)).mpr e))
      refine ⟨fun c22 => ?_, fun c22 => ?_⟩
      · replace w := w.1 ((Jeq k8 (by decide)).mp c22)
        refine ⟨(ls0 C_h), _, (lr0_5 C_h), ?_⟩
        refine ⟨(ls52 C_h), _, (lr52_1 C_h), ?_⟩
        refine ⟨(ls0 C_h), _, (lr0_5 C_h), ?_⟩
        refine ⟨(ls52 C_h), _, P_h, ?_⟩
        refine ⟨(plan_0 K_h_0), ?_⟩
        refine ⟨(ls64 C_h), ?_⟩
        refine Ex.mono w (Nat.le_refl _) ?_
        rintro v18 h19 ⟨r20, gr20, rfl, s21, w⟩
        refine ⟨_, rfl, ?_⟩
        have C_h19 := Lay_SH s21 C_h
        have K_h19_0 := PlanAt_SH s21 K_h_0
        have P_h19 := (congrFun (congrFun s21.2 52) 0).trans P_h
        try simp only [aI_wAL, fI_wAL, aL_wA, aL_wF, aI_wA_ne, aI_wF_ne, fI_wA_ne, fI_wF_ne, fI_wF_nk, aL_wAL_ne, J_sameA, J_sameF, aL_same, Nat.add_left_cancel_iff, Nat.add_eq_left, Nat.left_eq_add, not_false_eq_true, Nat.reduceEqDiff, Nat.reduceAdd, J_add, J_sub, J_mul, J_neg, J_and, J_or, J_xor, J_shl, J_shr, J_div, J_i2b, J_i2l, J_l2i, J_lcm, J_max, J_min, J_nab, J_nao, rdA, rdF, rdL, wA_fold, wF_fold, wL_fold, wC_fold]
        exact w
      · replace w := w.2 (fun e => c22 ((Jeq k8 (by decide)).mpr e))
        refine ⟨fun c35 => ?_, fun c35 => ?_⟩
        · replace w := w.1 ((Jeq k8 (by decide)).mp c35)
          refine ⟨(ls0 C_h), _, (lr0_5 C_h), ?_⟩
          refine ⟨(ls52 C_h), _, P_h, ?_⟩
          refine ⟨(ls0 C_h), ?_⟩
          obtain ⟨k28, w⟩ := w
          refine m76 (h := h)  (S := S) (pl := pl) C_h P_h K_h_0 (by omega) k4 k28 ?_
          refine ⟨_, rfl, ?_⟩
          try simp only [aI_wAL, fI_wAL, aL_wA, aL_wF, aI_wA_ne, aI_wF_ne, fI_wA_ne, fI_wF_ne, fI_wF_nk, aL_wAL_ne, J_sameA, J_sameF, aL_same, Nat.add_left_cancel_iff, Nat.add_eq_left, Nat.left_eq_add, not_false_eq_true, Nat.reduceEqDiff, Nat.reduceAdd, J_add, J_sub, J_mul, J_neg, J_and, J_or, J_xor, J_shl, J_shr, J_div, J_i2b, J_i2l, J_l2i, J_lcm, J_max, J_min, J_nab, J_nao, rdA, rdF, rdL, wA_fold, wF_fold, wL_fold, wC_fold]
          refine ⟨(plan_0 K_h_0), ?_⟩
          obtain ⟨k32, w⟩ := w
          obtain ⟨k33, w⟩ := w
          obtain ⟨k34, w⟩ := w
          refine m82 (h := h) (a := pl) (r := (bI (nightP S))) (x := x1) (S := S) C_h K_h_0 (by omega) k32 k28 k33 k34 ?_
          refine ⟨_, rfl, ?_⟩
          try simp only [aI_wAL, fI_wAL, aL_wA, aL_wF, aI_wA_ne, aI_wF_ne, fI_wA_ne, fI_wF_ne, fI_wF_nk, aL_wAL_ne, J_sameA, J_sameF, aL_same, Nat.add_left_cancel_iff, Nat.add_eq_left, Nat.left_eq_add, not_false_eq_true, Nat.reduceEqDiff, Nat.reduceAdd, J_add, J_sub, J_mul, J_neg, J_and, J_or, J_xor, J_shl, J_shr, J_div, J_i2b, J_i2l, J_l2i, J_lcm, J_max, J_min, J_nab, J_nao, rdA, rdF, rdL, wA_fold, wF_fold, wL_fold, wC_fold]
          exact w
        · replace w := w.2 (fun e => c35 ((Jeq k8 (by decide)).mpr e))
          exact w
  · have t7 : ¬ (0 ≤ x1 ∧ x1 < S 0) := ((bI0 _).mp (Classical.byContradiction fun n => c6 n))
    replace w := w.2 t7
    exact w
theorem m79 {X : Cst} {d : Nat} {pl : Nat} {p w : Int} {S : Int → Int} {h : AH} {Q : Post} (C : Lay h) (P : hR h 52 0 = some pl) (K : PlanAt h pl) (hd : 4 ≤ d) (R : CS h pl S) (W : WF 999 S) (g1 : -2147483648 ≤ p ∧ p < 2147483648) (g2 : -2147483648 ≤ w ∧ w < 2147483648) (k : Q (some (.int (J (anRoom S p w)))) h) : Ex X PG d 79 0 [some (.ref 0), some (.int (J p)), some (.int (J w))] [] h Q := by
  obtain ⟨d, rfl⟩ : ∃ e, d = e + 1 := ⟨d - 1, by omega⟩
  have b := W.1
  unfold WFb at b
  have hr := bI_or (nightP S)
  unfold anRoom at k
  refine r79_0 C K P (S := S) (by omega) ⟨R, g1, fun c => ?_, fun c => ?_⟩
  · rw [if_pos c] at k
    rw [bI_1]
    refine ⟨g2, fun c0 => ⟨by omega, ?_⟩, fun c0 => ⟨fun c1 => ?_, fun c1 => ⟨fun c2 => ⟨W, R.2.1, by omega, by omega, ?_⟩, fun c2 => ?_⟩⟩⟩
    · rw [if_pos c0] at k; rw [R.2.1.2.2.1 p c.1 (by omega)]; exact k
    · rw [if_neg c0, if_pos c1] at k
      rw [R.2.1.1.2.2.1]
      exact m81 (S := S) C (WorldAt_64 C) (by omega) R.2.2.1 W g1 ⟨_, pIn_rg _ _, rfl, SH.rf, k⟩
    · rw [if_neg c0, if_neg c1, if_pos c2] at k; exact k
    · rw [if_neg c0, if_neg c1, if_neg c2] at k; exact k
  · rw [if_neg c] at k; exact k
theorem iand_1b {x : Int} (h : 0 ≤ x ∧ x < 2147483648) : iand x 1 = 0 ∨ iand x 1 = 1 := by
  obtain ⟨n, rfl⟩ := Int.eq_ofNat_of_zero_le h.1
  rw [show (1 : Int) = ((1 : Nat) : Int) from rfl, iand_nat (by omega)]
  have : n &&& 1 ≤ 1 := Nat.and_le_right
  omega
-- OutwardDoors.door(II)I at 0
set_option maxRecDepth 20000 in
set_option maxHeartbeats 4000000 in
theorem r83_0 {X : Cst} {d : Nat} {x1 : Int} {x2 : Int} {pl : Nat} {S : Int → Int} {h : AH} {Q : Post} (C_h : Lay h) (K_h_0 : PlanAt h pl) (P_h : hR h 52 0 = some pl) (hd : 3 ≤ d)
  (w : (CS h pl S) ∧ (-2147483648 ≤ x1 ∧ x1 < 2147483648) ∧ (((0 ≤ x1 ∧ x1 < S 1) → (-2147483648 ≤ x2 ∧ x2 < 2147483648) ∧ ((x2 = 0 → (0 ≤ x1 ∧ x1 < 14) ∧ Q (some (.int (J (aI h (pl + 2) x1)))) h) ∧ (¬ x2 = 0 → ((x2 = 1 → (0 ≤ x1 ∧ x1 < 14) ∧ Q (some (.int (J (aI h (pl + 3) x1)))) h) ∧ (¬ x2 = 1 → ((x2 = 2 → Q (some (.int (J (iand (shr (fI h pl 3) (iand x1 31)) 1)))) h) ∧ (¬ x2 = 2 → ((x2 = 3 → (WF 999 S) ∧ (PlanRep h pl S) ∧ (0 ≤ (bI (nightP S)) ∧ (bI (nightP S)) < 2) ∧ (0 ≤ x1 ∧ x1 < 14) ∧ ((¬ (x1 < S 1 ∧ opn S ((bI (nightP S)) = 1) x1) → Q (some (.int (J 0))) h) ∧ ((x1 < S 1 ∧ opn S ((bI (nightP S)) = 1) x1) → Q (some (.int (J 1))) h))) ∧ (¬ x2 = 3 → Q (some (.int (J (-1)))) h))))))))) ∧ (¬ (0 ≤ x1 ∧ x1 < S 1) → Q (some (.int (J (-1)))) h))) :
    Ex X PG (d + 1) 83 0 [some (.ref 0), some (.int (J x1)), some (.int (J x2)), none] [] h Q := by
  refine wpx_ok (cut := []) 19 d 83 0 _ _ _ _ ?_
  show hs h 0 = (0, 10) ∧ Ex X PG d 84 0 [some (.ref 0), some (.int (J x1))] [] h (fun v1 h2 => ∃ r3, v1 = some (.int r3) ∧ ((¬ r3 = (J 0) → hs h2 0 = (0, 10) ∧ ∃ q8, hR h2 0 5 = some q8 ∧ hs h2 q8 = (0, 6) ∧ ∃ q9, hR h2 q8 0 = some q9 ∧ (((J x2) = J 0 → hs h2 q9 = (0, 2) ∧ ∃ q11, hR h2 q9 7 = some q11 ∧ (hs h2 q11).1 = 1 ∧ ix (J x1) (hs h2 q11).2 ∧ Q (some (.int (hI h2 q11 (Int32.toNatClampNeg (J x1))))) h2) ∧ (¬ (J x2) = J 0 → (((J x2) = J 1 → hs h2 q9 = (0, 2) ∧ ∃ q14, hR h2 q9 8 = some q14 ∧ (hs h2 q14).1 = 1 ∧ ix (J x1) (hs h2 q14).2 ∧ Q (some (.int (hI h2 q14 (Int32.toNatClampNeg (J x1))))) h2) ∧ (¬ (J x2) = J 1 → (((J x2) = J 2 → hs h2 q9 = (0, 2) ∧ Q (some (.int (((hF h2 q9 3) >>> ((J x1) &&& J 31)) &&& (J 1)))) h2) ∧ (¬ (J x2) = J 2 → (((J x2) = J 3 → hs h2 0 = (0, 10) ∧ Ex X PG d 76 0 [some (.ref 0)] [] h2 (fun v18 h19 => ∃ r20, v18 = some (.int r20) ∧ hs h19 q9 = (0, 2) ∧ Ex X PG d 52 0 [some (.ref q9), some (.int r20), some (.int (J x1))] [] h19 (fun v22 h23 => ∃ r24, v22 = some (.int r24) ∧ ((r24 = (J 0) → Q (some (.int (J 0))) h23) ∧ (¬ (r24 = (J 0)) → Q (some (.int (J 1))) h23))))) ∧ (¬ (J x2) = J 3 → Q (some (.int (J (-1)))) h2))))))))) ∧ (¬ (¬ r3 = (J 0)) → Q (some (.int (J (-1)))) h2)))
  try simp only [aI_wAL, fI_wAL, aL_wA, aL_wF, aI_wA_ne, aI_wF_ne, fI_wA_ne, fI_wF_ne, fI_wF_nk, aL_wAL_ne, J_sameA, J_sameF, aL_same, Nat.add_left_cancel_iff, Nat.add_eq_left, Nat.left_eq_add, not_false_eq_true, Nat.reduceEqDiff, Nat.reduceAdd, J_add, J_sub, J_mul, J_neg, J_and, J_or, J_xor, J_shl, J_shr, J_div, J_i2b, J_i2l, J_l2i, J_lcm, J_max, J_min, J_nab, J_nao, rdA, rdF, rdL, wA_fold, wF_fold, wL_fold, wC_fold]
  refine ⟨(ls0 C_h), ?_⟩
  obtain ⟨k4, w⟩ := w
  obtain ⟨k5, w⟩ := w
  refine m84 (h := h) (x := x1) (S := S) (pl := pl) C_h P_h K_h_0 (by omega) k4 k5 ?_
  refine ⟨_, rfl, ?_⟩
  try simp only [aI_wAL, fI_wAL, aL_wA, aL_wF, aI_wA_ne, aI_wF_ne, fI_wA_ne, fI_wF_ne, fI_wF_nk, aL_wAL_ne, J_sameA, J_sameF, aL_same, Nat.add_left_cancel_iff, Nat.add_eq_left, Nat.left_eq_add, not_false_eq_true, Nat.reduceEqDiff, Nat.reduceAdd, J_add, J_sub, J_mul, J_neg, J_and, J_or, J_xor, J_shl, J_shr, J_div, J_i2b, J_i2l, J_l2i, J_lcm, J_max, J_min, J_nab, J_nao, rdA, rdF, rdL, wA_fold, wF_fold, wL_fold, wC_fold]
  refine ⟨fun c6 => ?_, fun c6 => ?_⟩
  · have t7 : (0 ≤ x1 ∧ x1 < S 1) := (Classical.byContradiction fun n => c6 ((bI0 _).mpr n))
    replace w := w.1 t7
    refine ⟨(ls0 C_h), _, (lr0_5 C_h), ?_⟩
    refine ⟨(ls52 C_h), _, P_h, ?_⟩
    obtain ⟨k10, w⟩ := w
    refine ⟨fun c13 => ?_, fun c13 => ?_⟩
    · replace w := w.1 ((Jeq k10 (by decide)).mp c13)
      refine ⟨(plan_0 K_h_0), _, (plan_12 K_h_0), ?_⟩
      obtain ⟨k12, w⟩ := w
      refine ⟨congrArg Prod.fst (plan_2 K_h_0), ixs (plan_2 K_h_0) k12 (by decide), ?_⟩
      exact w
    · replace w := w.2 (fun e => c13 ((Jeq k10 (by decide)).mpr e))
      refine ⟨fun c16 => ?_, fun c16 => ?_⟩
      · replace w := w.1 ((Jeq k10 (by decide)).mp c16)
        refine ⟨(plan_0 K_h_0), _, (plan_13 K_h_0), ?_⟩
        obtain ⟨k15, w⟩ := w
        refine ⟨congrArg Prod.fst (plan_3 K_h_0), ixs (plan_3 K_h_0) k15 (by decide), ?_⟩
        exact w
      · replace w := w.2 (fun e => c16 ((Jeq k10 (by decide)).mpr e))
        refine ⟨fun c17 => ?_, fun c17 => ?_⟩
        · replace w := w.1 ((Jeq k10 (by decide)).mp c17)
          refine ⟨(plan_0 K_h_0), ?_⟩
          exact w
        · replace w := w.2 (fun e => c17 ((Jeq k10 (by decide)).mpr e))
          refine ⟨fun c30 => ?_, fun c30 => ?_⟩
          · replace w := w.1 ((Jeq k10 (by decide)).mp c30)
            refine ⟨(ls0 C_h), ?_⟩
            obtain ⟨k21, w⟩ := w
            refine m76 (h := h)  (S := S) (pl := pl) C_h P_h K_h_0 (by omega) k4 k21 ?_
            refine ⟨_, rfl, ?_⟩
            try simp only [aI_wAL, fI_wAL, aL_wA, aL_wF, aI_wA_ne, aI_wF_ne, fI_wA_ne, fI_wF_ne, fI_wF_nk, aL_wAL_ne, J_sameA, J_sameF, aL_same, Nat.add_left_cancel_iff, Nat.add_eq_left, Nat.left_eq_add, not_false_eq_true, Nat.reduceEqDiff, Nat.reduceAdd, J_add, J_sub, J_mul, J_neg, J_and, J_or, J_xor, J_shl, J_shr, J_div, J_i2b, J_i2l, J_l2i, J_lcm, J_max, J_min, J_nab, J_nao, rdA, rdF, rdL, wA_fold, wF_fold, wL_fold, wC_fold]
            refine ⟨(plan_0 K_h_0), ?_⟩
            obtain ⟨k25, w⟩ := w
            obtain ⟨k26, w⟩ := w
            obtain ⟨k27, w⟩ := w
            refine m52 (h := h) (a := pl) (r := (bI (nightP S))) (x := x1) (S := S) C_h K_h_0 (by omega) k25 k26 k27 ?_
            refine ⟨_, rfl, ?_⟩
            try simp only [aI_wAL, fI_wAL, aL_wA, aL_wF, aI_wA_ne, aI_wF_ne, fI_wA_ne, fI_wF_ne, fI_wF_nk, aL_wAL_ne, J_sameA, J_sameF, aL_same, Nat.add_left_cancel_iff, Nat.add_eq_left, Nat.left_eq_add, not_false_eq_true, Nat.reduceEqDiff, Nat.reduceAdd, J_add, J_sub, J_mul, J_neg, J_and, J_or, J_xor, J_shl, J_shr, J_div, J_i2b, J_i2l, J_l2i, J_lcm, J_max, J_min, J_nab, J_nao, rdA, rdF, rdL, wA_fold, wF_fold, wL_fold, wC_fold]
            refine ⟨fun c28 => ?_, fun c28 => ?_⟩
            · have t29 : ¬ (x1 < S 1 ∧ opn S ((bI (nightP S)) = 1) x1) := ((bI0 _).mp c28)
              replace w := w.1 t29
              exact w
            · have t29 : (x1 < S 1 ∧ opn S ((bI (nightP S)) = 1) x1) := (Classical.byContradiction fun n => c28 ((bI0 _).mpr n))
              replace w := w.2 t29
              exact w
          · replace w := w.2 (fun e => c30 ((Jeq k10 (by decide)).mpr e))
            exact w
  · have t7 : ¬ (0 ≤ x1 ∧ x1 < S 1) := ((bI0 _).mp (Classical.byContradiction fun n => c6 n))
    replace w := w.2 t7
    exact w
theorem m83 {X : Cst} {d : Nat} {pl : Nat} {p w : Int} {S : Int → Int} {h : AH} {Q : Post} (C : Lay h) (P : hR h 52 0 = some pl) (K : PlanAt h pl) (hd : 4 ≤ d) (R : CS h pl S) (W : WF 999 S) (g1 : -2147483648 ≤ p ∧ p < 2147483648) (g2 : -2147483648 ≤ w ∧ w < 2147483648) (k : Q (some (.int (J (anDoor S p w)))) h) : Ex X PG d 83 0 [some (.ref 0), some (.int (J p)), some (.int (J w)), none] [] h Q := by
  obtain ⟨d, rfl⟩ : ∃ e, d = e + 1 := ⟨d - 1, by omega⟩
  have b := W.1
  unfold WFb at b
  have hr := bI_or (nightP S)
  unfold anDoor at k
  refine r83_0 C K P (S := S) (by omega) ⟨R, g1, fun c => ?_, fun c => ?_⟩
  · rw [if_pos c] at k
    have pd := R.2.1.2.2.2.1 p c.1 c.2
    have wd := W.2.2.2.1 p c.1 c.2
    have wi := R.2.1.2.1
    have ww := wi.2.2 p c.1 c.2
    have sh := shr_e (s := fI h pl 3) (k := p) (by omega) (by omega)
    have sb : 0 ≤ shr (fI h pl 3) (iand p 31) ∧ shr (fI h pl 3) (iand p 31) < 2147483648 := by
      have := rg_toInt (J (fI h pl 3) >>> J (iand p 31))
      refine ⟨?_, this.2⟩
      rw [sh]
      exact Int.ediv_nonneg wi.1 (Int.le_of_lt (Int.pow_pos (by decide)))
    have i1 := iand_1b sb
    have io := isof_iff (s := fI h pl 3) (k := p) (by omega) (by omega)
    have e2 : iand (shr (fI h pl 3) (iand p 31)) 1 = wn S p := by
      by_cases z : wn S p = 1
      · rw [z]; exact io.mpr (ww.mpr z)
      · have : ¬ iand (shr (fI h pl 3) (iand p 31)) 1 = 1 := fun y => z (ww.mp (io.mp y))
        omega
    rw [pd.1, pd.2, e2, bI_1]
    refine ⟨g2, fun c0 => ⟨by omega, ?_⟩, fun c0 => ⟨fun c1 => ⟨by omega, ?_⟩, fun c1 => ⟨fun c2 => ?_, fun c2 => ⟨fun c3 => ⟨W, R.2.1, by omega, by omega, fun c4 => ?_, fun c4 => ?_⟩, fun c3 => ?_⟩⟩⟩⟩
    · rw [if_pos c0] at k; exact k
    · rw [if_neg c0, if_pos c1] at k; exact k
    · rw [if_neg c0, if_neg c1, if_pos c2] at k; exact k
    · rw [if_neg c0, if_neg c1, if_neg c2, if_pos c3, bI_neg (fun z => c4 ⟨c.2, z⟩)] at k; exact k
    · rw [if_neg c0, if_neg c1, if_neg c2, if_pos c3, bI_pos c4.2] at k; exact k
    · rw [if_neg c0, if_neg c1, if_neg c2, if_neg c3] at k; exact k
  · rw [if_neg c] at k; exact k
