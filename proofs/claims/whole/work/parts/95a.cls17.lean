/-! THE CLASS: price. -/
/-- a pricer at rest -/
def PriR (h : AH) (pl0 co ne be ln : Nat) : Prop := PriAt h pl0 co ne be ln ∧ ((co = 251 ∨ 281 ≤ co) ∧ (ne = 252 ∨ 281 ≤ ne) ∧ (be = 253 ∨ 281 ≤ be) ∧ (¬ co = ne ∧ ¬ co = be ∧ ¬ ne = be) ∧ (co < hn h ∧ ne < hn h ∧ be < hn h)) ∧ (∃ j : Nat, j ≤ 5 ∧ ln = 8 ^ j)
def TPg (c k : Nat) : Prop := c = 250 ∧ (k = 1 ∨ k = 2 ∨ k = 3)
def UPg (c k : Nat) : Prop := c = 250 ∧ (k = 0 ∨ k = 4 ∨ k = 5 ∨ k = 6)
set_option maxRecDepth 20000 in
theorem UPg_n (c k : Nat) (u : UPg c k) : LRt.lookup (c * 64 + k) = none := by
  obtain ⟨rfl, rfl | rfl | rfl | rfl⟩ := u <;> rfl
theorem v144_0 {X : Cst} {d : Nat} {a : Nat} {a1 : Nat} {x2 : Int32} {h : AH} {Q : Post}
  (w : hs h a1 = (0, 2) ∧ hs h a = (0, 3) ∧ Ex X PG d 115 0 [some (.ref a), some (.ref a1), some (.int x2), some (.int (hI h a1 2)), some (.int (-1))] [] h (fun v1 h2 => v1 = none ∧
      hs h2 a = (0, 3) ∧ ∃ q3, hR h2 a 4 = some q3 ∧ 1 ≤ (hs h2 q3).1 ∧ hs h2 a = (0, 3) ∧ Ex X PG d 116 0 [some (.ref a)] [] h2 (fun v4 h5 => ∃ r6, v4 = some (.int r6) ∧
        ((r6 ≤ nI (hs h2 q3).2 →
          Q none h5) ∧
        (¬ (r6 ≤ nI (hs h2 q3).2) →
          hs h5 a = (0, 3) ∧ Ex X PG d 116 0 [some (.ref a)] [] h5 (fun v7 h8 => ∃ r9, v7 = some (.int r9) ∧
            ¬ r9 < 0 ∧ Int32.toNatClampNeg r9 ≤ 1000000 ∧ hs (aN h8 (1, Int32.toNatClampNeg r9) (Int32.toNatClampNeg r9)) a = (0, 3) ∧ hs (wR (aN h8 (1, Int32.toNatClampNeg r9) (Int32.toNatClampNeg r9)) a 4 (some (hn h8))) a = (0, 3) ∧ Ex X PG d 116 0 [some (.ref a)] [] (wR (aN h8 (1, Int32.toNatClampNeg r9) (Int32.toNatClampNeg r9)) a 4 (some (hn h8))) (fun v10 h11 => ∃ r12, v10 = some (.int r12) ∧
              ¬ r12 < 0 ∧ Int32.toNatClampNeg r12 ≤ 1000000 ∧ hs (aN h11 (1, Int32.toNatClampNeg r12) (Int32.toNatClampNeg r12)) a = (0, 3) ∧ hs (wR (aN h11 (1, Int32.toNatClampNeg r12) (Int32.toNatClampNeg r12)) a 5 (some (hn h11))) a = (0, 3) ∧ Ex X PG d 116 0 [some (.ref a)] [] (wR (aN h11 (1, Int32.toNatClampNeg r12) (Int32.toNatClampNeg r12)) a 5 (some (hn h11))) (fun v13 h14 => ∃ r15, v13 = some (.int r15) ∧
                ¬ r15 < 0 ∧ Int32.toNatClampNeg r15 ≤ 1000000 ∧ hs (aN h14 (1, Int32.toNatClampNeg r15) (Int32.toNatClampNeg r15)) a = (0, 3) ∧ Q none (wR (aN h14 (1, Int32.toNatClampNeg r15) (Int32.toNatClampNeg r15)) a 6 (some (hn h14))))))))))) :
    Ex X PG (d + 1) 144 0 [some (.ref a), some (.ref a1), some (.int x2)] [] h Q := wpx_ok (cut := []) 29 d 144 0 _ _ _ _ w
theorem m144 {X : Cst} {d pl0 pl co ne be ln m : Nat} {S : Int → Int} {t : Prop} {h : AH} {Q : Post} (C : Lay h) (h281 : 281 ≤ hn h) (K : PlanAt h pl) (SR : PriR h pl0 co ne be ln) (ap : apP pl co ne be) (hpl : pl + 10 < hn h) (apl : pl = 4 ∨ pl = 53 ∨ 281 ≤ pl) (hd : 3 ≤ d) (hm : m ≤ 5) (em : fI h pl 2 = m)
    (k : ∀ h' co' ne' be' ln', Gx TPg UPg h h' → PriAt h' pl co' ne' be' ln' → apP pl co' ne' be' → (co' < hn h' ∧ ne' < hn h' ∧ be' < hn h') → (∃ j : Nat, j ≤ 5 ∧ ln' = 8 ^ j) → (8 : Int) ^ m ≤ ln' → (fI h' 250 1 = bI t ∧ fI h' 250 2 = m ∧ fI h' 250 3 = -1) → ((co' = co ∧ ne' = ne ∧ be' = be) ∨ (hn h ≤ co' ∧ hn h ≤ ne' ∧ hn h ≤ be')) → (hn h' ≤ hn h + 3 ∧ hz h' + 6 * ln ≤ hz h + 6 * ln') → Q none h') : Ex X PG d 144 0 [some (.ref 250), some (.ref pl), some (.int (J (bI t)))] [] h Q := by
  obtain ⟨d, rfl⟩ : ∃ e, d = e + 1 := ⟨d - 1, by omega⟩
  obtain ⟨B, ⟨b1, b2, b3, b4, b5⟩, ⟨jj, hjj, ej⟩⟩ := SR
  have ln8 := B.2.2.2.2.2.2.2
  have s250 := ls250 C
  refine v144_0 ⟨plan_0 K, s250, ?_⟩
  obtain ⟨d, rfl⟩ : ∃ e, d = e + 1 := ⟨d - 1, by omega⟩
  refine v115_0 ⟨Or.inl s250, Or.inl s250, Or.inl s250, Or.inl s250, ?_⟩
  rw [hI_f, em, wI_wF, wI_wF, wI_wF, toInt_J (bI_rg _), toInt_J (by omega)]
  generalize eh1 : wF (wF (wF (wR h 250 0 (some pl)) 250 1 (bI t)) 250 2 (m : Int)) 250 3 (Int32.toInt (-1)) = h1
  have eh1' : wF (wF (wF (wR h 250 0 (some pl)) 250 1 (bI t)) 250 2 (m : Int)) 250 3 (-1) = h1 := eh1
  clear eh1
  have X1 : Gx TPg UPg h h1 := by
    rw [← eh1']
    refine (Gx.wR (T := TPg) (U := UPg) (h := h) (x := some pl) (show UPg 250 0 by unfold UPg; omega)).tr (Gx.of ?_)
    exact (((Fr.rf (T := TPg)).wF (by unfold TPg; omega)).wF (by unfold TPg; omega)).wF (by unfold TPg; omega)
  have n1 : hn h1 = hn h := by rw [← eh1']; rfl
  have z1 : hz h1 = hz h := by rw [← eh1']; rfl
  have B1 : PriAt h1 pl co ne be ln := by
    rw [← eh1']
    refine ⟨show hR (wR h 250 0 (some pl)) 250 0 = some pl from hR_wR_eq, ?_, ?_, ?_, B.2.2.2.2⟩
    · show hR (wR h 250 0 (some pl)) 250 4 = some co
      rw [hR_wR_ne (by decide)]; exact B.2.1
    · show hR (wR h 250 0 (some pl)) 250 5 = some ne
      rw [hR_wR_ne (by decide)]; exact B.2.2.1
    · show hR (wR h 250 0 (some pl)) 250 6 = some be
      rw [hR_wR_ne (by decide)]; exact B.2.2.2.1
  have C1 : Lay h1 := X1.C C h281 UPg_n
  have g1 : fI h1 250 1 = bI t := by rw [← eh1', fI_wF_nk (by decide), fI_wF_nk (by decide), fI_wF_eq (bI_rg _)]
  have g2 : fI h1 250 2 = m := by rw [← eh1', fI_wF_nk (by decide), fI_wF_eq (by omega)]
  have g3 : fI h1 250 3 = -1 := by rw [← eh1', fI_wF_eq (by decide)]
  clear eh1'
  have pw := pw_32k (b := 8) (by decide) (by decide) hm
  have s1 := ls250 C1
  refine ⟨rfl, s1, co, B1.2.1, congrArg Prod.fst B1.2.2.2.2.1 ▸ Nat.le_refl 1, s1, ?_⟩
  have lq : nI (hs h1 co).2 = J (ln : Int) := by rw [B1.2.2.2.2.1]; exact J_nI _
  refine m116p C1 (by omega) hm g2 ⟨_, rfl, fun c => ?_, fun c => ?_⟩
  · rw [lq, Jle (by omega) (by omega)] at c
    exact k h1 co ne be ln X1 B1 ap (by omega) ⟨jj, hjj, ej⟩ c ⟨g1, g2, g3⟩ (Or.inl ⟨rfl, rfl, rfl⟩) (by omega)
  · rw [lq, Jle (by omega) (by omega)] at c
    have e8 : Int32.toNatClampNeg (J ((8 : Int) ^ m)) = 8 ^ m := by
      rw [show Int32.toNatClampNeg (J ((8 : Int) ^ m)) = tn ((8 : Int) ^ m) from rfl, tn_eq (by omega)]
      exact Int.toNat_pow_of_nonneg (by decide) m
    have i8 : (((8 : Nat) ^ m : Nat) : Int) = (8 : Int) ^ m := by simp
    have n0 : ¬ J ((8 : Int) ^ m) < 0 := fun z => by rw [show (0 : Int32) = J 0 from rfl, Jlt (by omega) (by decide)] at z; omega
    -- one more row
    have grow : ∀ (h3 : AH) (j : Nat), 281 ≤ hn h3 → Lay h3 → (j = 4 ∨ j = 5 ∨ j = 6) → ∀ h4, wR (aN h3 (1, 8 ^ m) (8 ^ m)) 250 j (some (hn h3)) = h4 → Gx TPg UPg h3 h4 ∧ Lay h4 ∧ hn h4 = hn h3 + 1 ∧ hz h4 = hz h3 + 8 ^ m ∧ (∀ i, fI h4 250 i = fI h3 250 i) ∧ hR h4 250 j = some (hn h3) ∧ (∀ i, ¬ i = j → hR h4 250 i = hR h3 250 i) ∧ hs h4 (hn h3) = (1, 8 ^ m) ∧ (∀ c, c < hn h3 → hs h4 c = hs h3 c) ∧ hs (aN h3 (1, 8 ^ m) (8 ^ m)) 250 = (0, 3) := by
      intro h3 j n3 C3 hj h4 eh4
      have X34 : Gx TPg UPg h3 h4 := by rw [← eh4]; exact Gx.aN.tr (Gx.wR (by unfold UPg; omega))
      refine ⟨X34, X34.C C3 n3 UPg_n, by rw [← eh4]; rfl, by rw [← eh4]; rfl, fun i => by rw [← eh4, fI_wR, fI_aN_ne (by omega)], by rw [← eh4]; exact hR_wR_eq, fun i hi => by rw [← eh4, hR_wR_ne (fun z => hi z.2), hR_aN_ne (by omega)], by rw [← eh4, hs_wR]; exact hs_aN_eq, fun c hc => by rw [← eh4, hs_wR, hs_aN_ne (by omega)], by rw [hs_aN_ne (by omega)]; exact ls250 C3⟩
    refine ⟨s1, m116p C1 (by omega) hm g2 ⟨_, rfl, n0, by rw [e8]; omega, ?_⟩⟩
    rw [e8]
    generalize eh4 : wR (aN h1 (1, 8 ^ m) (8 ^ m)) 250 4 (some (hn h1)) = h4
    obtain ⟨X4, C4, n4, z4, f4, r4, o4, s4, t4, q4⟩ := grow h1 4 (by omega) C1 (by omega) h4 eh4
    refine ⟨q4, ls250 C4, m116p C4 (by omega) hm (by rw [f4]; exact g2) ⟨_, rfl, n0, by rw [e8]; omega, ?_⟩⟩
    rw [e8]
    generalize eh5 : wR (aN h4 (1, 8 ^ m) (8 ^ m)) 250 5 (some (hn h4)) = h5
    obtain ⟨X5, C5, n5, z5, f5, r5, o5, s5, t5, q5⟩ := grow h4 5 (by omega) C4 (by omega) h5 eh5
    refine ⟨q5, ls250 C5, m116p C5 (by omega) hm (by rw [f5, f4]; exact g2) ⟨_, rfl, n0, by rw [e8]; omega, ?_⟩⟩
    rw [e8]
    generalize eh6 : wR (aN h5 (1, 8 ^ m) (8 ^ m)) 250 6 (some (hn h5)) = h6
    obtain ⟨X6, C6, n6, z6, f6, r6, o6, s6, t6, q6⟩ := grow h5 6 (by omega) C5 (by omega) h6 eh6
    have pj := p8_i (j := jj) (m := m) hjj hm (by have : ((8 ^ jj : Nat) : Int) = (8 : Int) ^ jj := by simp
                                                  omega)
    refine ⟨q6, k h6 (hn h1) (hn h4) (hn h5) (8 ^ m) (X1.tr (X4.tr (X5.tr X6))) ⟨?_, ?_, ?_, ?_, ?_, ?_, ?_, by omega⟩ ?_ (by omega) ⟨m, hm, rfl⟩ (by omega) ⟨by rw [f6, f5, f4]; exact g1, by rw [f6, f5, f4]; exact g2, by rw [f6, f5, f4]; exact g3⟩ (Or.inr ⟨by omega, by omega, by omega⟩) ⟨by omega, ?_⟩⟩
    · rw [o6 0 (by decide), o5 0 (by decide), o4 0 (by decide)]; exact B1.1
    · rw [o6 4 (by decide), o5 4 (by decide)]; exact r4
    · rw [o6 5 (by decide)]; exact r5
    · exact r6
    · rw [t6 _ (by omega), t5 _ (by omega)]; exact s4
    · rw [t6 _ (by omega)]; exact s5
    · exact s6
    · unfold apP; omega
    · have : ((8 ^ jj : Nat) : Int) = (8 : Int) ^ jj := by simp
      omega
-- OutwardDoors.price(I)I at 0
set_option maxRecDepth 20000 in
set_option maxHeartbeats 4000000 in
theorem r143_0 {X : Cst} {d : Nat} {x1 : Int} {pl : Nat} {S : Int → Int} {h : AH} {Q : Post} (C_h : Lay h) (K_h_0 : PlanAt h pl) (P_h : hR h 52 0 = some pl) (hd : 3 ≤ d)
  (w : (CS h pl S) ∧ (-2147483648 ≤ x1 ∧ x1 < 2147483648) ∧ (((0 ≤ x1 ∧ x1 < S 2) → (WF 999 S) ∧ Ex X PG d 144 0 [some (.ref 250), some (.ref pl), some (.int (J (bI (nightP S))))] [] h (fun v15 h16 => v15 = none ∧ GRo h16 pl ∧ Ex X PG d 145 0 [some (.ref 250), some (.ref 64), some (.int (J x1)), none] [] h16 (fun v20 h21 => ∃ r22 : Int, (-2147483648 ≤ r22 ∧ r22 < 2147483648) ∧ v20 = some (.int (J r22)) ∧ SH h16 h21 ∧ Q (some (.int (J r22))) h21))) ∧ (¬ (0 ≤ x1 ∧ x1 < S 2) → Q (some (.int (J (-1)))) h))) :
    Ex X PG (d + 1) 143 0 [some (.ref 0), some (.int (J x1))] [] h Q := by
  refine wpx_ok (cut := []) 20 d 143 0 _ _ _ _ ?_
  show hs h 0 = (0, 10) ∧ Ex X PG d 75 0 [some (.ref 0), some (.int (J x1))] [] h (fun v1 h2 => ∃ r3, v1 = some (.int r3) ∧ ((¬ r3 = (J 0) → hs h2 0 = (0, 10) ∧ ∃ q8, hR h2 0 11 = some q8 ∧ hs h2 0 = (0, 10) ∧ ∃ q9, hR h2 0 5 = some q9 ∧ hs h2 q9 = (0, 6) ∧ ∃ q10, hR h2 q9 0 = some q10 ∧ hs h2 0 = (0, 10) ∧ Ex X PG d 76 0 [some (.ref 0)] [] h2 (fun v11 h12 => ∃ r13, v11 = some (.int r13) ∧ hs h12 q8 = (0, 3) ∧ Ex X PG d 144 0 [some (.ref q8), some (.ref q10), some (.int r13)] [] h12 (fun v15 h16 => v15 = none ∧ hs h16 0 = (0, 10) ∧ ∃ q17, hR h16 0 11 = some q17 ∧ hs h16 0 = (0, 10) ∧ ∃ q18, hR h16 0 5 = some q18 ∧ hs h16 q18 = (0, 6) ∧ ∃ q19, hR h16 q18 1 = some q19 ∧ hs h16 q17 = (0, 3) ∧ Ex X PG d 145 0 [some (.ref q17), some (.ref q19), some (.int (J x1)), none] [] h16 (fun v20 h21 => ∃ r22, v20 = some (.int r22) ∧ Q (some (.int r22)) h21)))) ∧ (¬ (¬ r3 = (J 0)) → Q (some (.int (J (-1)))) h2)))
  try simp only [aI_wAL, fI_wAL, aL_wA, aL_wF, aI_wA_ne, aI_wF_ne, fI_wA_ne, fI_wF_ne, fI_wF_nk, aL_wAL_ne, J_sameA, J_sameF, aL_same, Nat.add_left_cancel_iff, Nat.add_eq_left, Nat.left_eq_add, not_false_eq_true, Nat.reduceEqDiff, Nat.reduceAdd, J_add, J_sub, J_mul, J_neg, J_and, J_or, J_xor, J_shl, J_shr, J_div, J_i2b, J_i2l, J_l2i, J_lcm, J_max, J_min, J_nab, J_nao, rdA, rdF, rdL, wA_fold, wF_fold, wL_fold, wC_fold]
  refine ⟨(ls0 C_h), ?_⟩
  obtain ⟨k4, w⟩ := w
  obtain ⟨k5, w⟩ := w
  refine m75 (h := h) (x := x1) (S := S) (pl := pl) C_h P_h K_h_0 (by omega) k4 k5 ?_
  refine ⟨_, rfl, ?_⟩
  try simp only [aI_wAL, fI_wAL, aL_wA, aL_wF, aI_wA_ne, aI_wF_ne, fI_wA_ne, fI_wF_ne, fI_wF_nk, aL_wAL_ne, J_sameA, J_sameF, aL_same, Nat.add_left_cancel_iff, Nat.add_eq_left, Nat.left_eq_add, not_false_eq_true, Nat.reduceEqDiff, Nat.reduceAdd, J_add, J_sub, J_mul, J_neg, J_and, J_or, J_xor, J_shl, J_shr, J_div, J_i2b, J_i2l, J_l2i, J_lcm, J_max, J_min, J_nab, J_nao, rdA, rdF, rdL, wA_fold, wF_fold, wL_fold, wC_fold]
  refine ⟨fun c6 => ?_, fun c6 => ?_⟩
  · have t7 : (0 ≤ x1 ∧ x1 < S 2) := (Classical.byContradiction fun n => c6 ((bI0 _).mpr n))
    replace w := w.1 t7
    refine ⟨(ls0 C_h), _, (lr0_11 C_h), ?_⟩
    refine ⟨(ls0 C_h), _, (lr0_5 C_h), ?_⟩
    refine ⟨(ls52 C_h), _, P_h, ?_⟩
    refine ⟨(ls0 C_h), ?_⟩
    obtain ⟨k14, w⟩ := w
    refine m76 (h := h)  (S := S) (pl := pl) C_h P_h K_h_0 (by omega) k4 k14 ?_
    refine ⟨_, rfl, ?_⟩
    try simp only [aI_wAL, fI_wAL, aL_wA, aL_wF, aI_wA_ne, aI_wF_ne, fI_wA_ne, fI_wF_ne, fI_wF_nk, aL_wAL_ne, J_sameA, J_sameF, aL_same, Nat.add_left_cancel_iff, Nat.add_eq_left, Nat.left_eq_add, not_false_eq_true, Nat.reduceEqDiff, Nat.reduceAdd, J_add, J_sub, J_mul, J_neg, J_and, J_or, J_xor, J_shl, J_shr, J_div, J_i2b, J_i2l, J_l2i, J_lcm, J_max, J_min, J_nab, J_nao, rdA, rdF, rdL, wA_fold, wF_fold, wL_fold, wC_fold]
    refine ⟨(ls250 C_h), ?_⟩
    refine Ex.mono w (Nat.le_refl _) ?_
    rintro v15 h16 ⟨rfl, ⟨C_h16, K_h16_0, P_h16⟩, w⟩
    refine ⟨rfl, ?_⟩
    try simp only [aI_wAL, fI_wAL, aL_wA, aL_wF, aI_wA_ne, aI_wF_ne, fI_wA_ne, fI_wF_ne, fI_wF_nk, aL_wAL_ne, J_sameA, J_sameF, aL_same, Nat.add_left_cancel_iff, Nat.add_eq_left, Nat.left_eq_add, not_false_eq_true, Nat.reduceEqDiff, Nat.reduceAdd, J_add, J_sub, J_mul, J_neg, J_and, J_or, J_xor, J_shl, J_shr, J_div, J_i2b, J_i2l, J_l2i, J_lcm, J_max, J_min, J_nab, J_nao, rdA, rdF, rdL, wA_fold, wF_fold, wL_fold, wC_fold]
    refine ⟨(ls0 C_h16), _, (lr0_11 C_h16), ?_⟩
    refine ⟨(ls0 C_h16), _, (lr0_5 C_h16), ?_⟩
    refine ⟨(ls52 C_h16), _, (lr52_1 C_h16), ?_⟩
    refine ⟨(ls250 C_h16), ?_⟩
    refine Ex.mono w (Nat.le_refl _) ?_
    rintro v20 h21 ⟨r22, gr22, rfl, s23, w⟩
    refine ⟨_, rfl, ?_⟩
    have C_h21 := Lay_SH s23 C_h16
    have K_h21_0 := PlanAt_SH s23 K_h16_0
    have P_h21 := (congrFun (congrFun s23.2 52) 0).trans P_h16
    try simp only [aI_wAL, fI_wAL, aL_wA, aL_wF, aI_wA_ne, aI_wF_ne, fI_wA_ne, fI_wF_ne, fI_wF_nk, aL_wAL_ne, J_sameA, J_sameF, aL_same, Nat.add_left_cancel_iff, Nat.add_eq_left, Nat.left_eq_add, not_false_eq_true, Nat.reduceEqDiff, Nat.reduceAdd, J_add, J_sub, J_mul, J_neg, J_and, J_or, J_xor, J_shl, J_shr, J_div, J_i2b, J_i2l, J_l2i, J_lcm, J_max, J_min, J_nab, J_nao, rdA, rdF, rdL, wA_fold, wF_fold, wL_fold, wC_fold]
    exact w
  · have t7 : ¬ (0 ≤ x1 ∧ x1 < S 2) := ((bI0 _).mp (Classical.byContradiction fun n => c6 n))
    replace w := w.2 t7
    exact w
def TPx (co ne be c k : Nat) : Prop := c = co ∨ c = ne ∨ c = be ∨ c = 254 ∨ (c = 250 ∧ (k = 1 ∨ k = 2 ∨ k = 3 ∨ k = 8 ∨ k = 9))
/-- the class and its pricer behind a price -/
def PoP (h h' : AH) (pl co ne be ln : Nat) (S : Int → Int) (co' ne' be' ln' : Nat) : Prop :=
  Gx (TPx co ne be) UPg h h' ∧ GRo h' pl ∧ CS h' pl S ∧ PriR h' pl co' ne' be' ln' ∧ apP pl co' ne' be' ∧ ((co' = co ∧ ne' = ne ∧ be' = be) ∨ (hn h ≤ co' ∧ hn h ≤ ne' ∧ hn h ≤ be')) ∧ (hn h' ≤ hn h + 3 ∧ hz h' + 6 * ln ≤ hz h + 6 * ln')
theorem m143 {X : Cst} {d pl pl0 co ne be ln : Nat} {N p : Int} {S : Int → Int} {h : AH} {Q : Post} (C : Lay h) (P : hR h 52 0 = some pl) (K : PlanAt h pl) (h281 : 281 ≤ hn h) (hpl : pl + 10 < hn h) (hd : 9 ≤ d) (R : CS h pl S) (W : WF N S) (hN : N ≤ 999) (SR : PriR h pl0 co ne be ln) (ap : apP pl co ne be) (g1 : -2147483648 ≤ p ∧ p < 2147483648)
    (k0 : ¬ (0 ≤ p ∧ p < S 2) → Q (some (.int (J (-1)))) h)
    (k : (0 ≤ p ∧ p < S 2) → ∀ h' co' ne' be' ln' v, PoP h h' pl co ne be ln S co' ne' be' ln' → IsP S (nightP S) (S 2).toNat p (fun f => f p = pS S p 1) (nowF S) v → Q (some (.int (J (if v < 0 then -2 else v)))) h') : Ex X PG d 143 0 [some (.ref 0), some (.int (J p))] [] h Q := by
  obtain ⟨d, rfl⟩ : ∃ e, d = e + 1 := ⟨d - 1, by omega⟩
  have b := W.1
  unfold WFb at b
  have pw := pw_4k (b := 8) (by decide) (by decide) (m := (S 2).toNat) (by omega)
  refine r143_0 (S := S) C K P (by omega) ⟨R, g1, fun c => ⟨W.up hN, ?_⟩, fun c => k0 c⟩
  refine m144 (t := nightP S) (m := (S 2).toNat) (S := S) C h281 K SR ap hpl R.1 (by omega) (by omega) (by rw [R.2.1.1.2.2.1]; omega) (fun h1 co' ne' be' ln' X1 B1 ap' lt' ee hl ff fr room => ?_)
  have hR1 : hR h1 52 0 = some pl := by rw [X1.2.2.1 52 0 (by omega) (fun z => by unfold UPg at z; omega)]; exact P
  have C1 : Lay h1 := X1.C C h281 UPg_n
  have K1 : PlanAt h1 pl := K.gx X1 hpl (fun k z => by unfold UPg at z; have := R.1; omega)
  have R1 : CS h1 pl S := R.gx X1 hpl h281 (fun c k z => by unfold TPg at z; have := R.1; omega)
  have app := ap'
  obtain ⟨p1, p2, p3, ⟨p4, p5, p6⟩, p7, p8, p9⟩ := app
  refine ⟨rfl, ⟨C1, K1, hR1⟩, ?_⟩
  refine m145 (m := (S 2).toNat) C1 K1 B1 ap' (by omega) (by omega) (by omega) W hl ⟨R1.2.1, ff.1, ff.2.1, ff.2.2⟩ R1 c (fun h2 v F2 D vb => ?_)
  have nh : hn h2 = hn h1 := F2.1.hn
  have zh : hz h2 = hz h1 := F2.1.hz
  have po : PoP h h2 pl co ne be ln S co' ne' be' ln' := by
    refine ⟨?_, ⟨F2.C C1, PlanAt_SH F2.1 K1, hR_fr F2 hR1⟩, R1.fr2 F2 (fun c k z => by unfold TLe TAw TLv at z; have := R.1; omega), ⟨PriAt_SH F2.1 B1, ⟨p1, p2, p3, ⟨p4, p5, p6⟩, by omega⟩, ee⟩, ap', fr, by omega⟩
    rcases fr with ⟨rfl, rfl, rfl⟩ | ⟨q1, q2, q3⟩
    · exact (X1.mo (fun c k z => by unfold TPg at z; unfold TPx; omega) (fun c k z => z)).tr (Gx.of (F2.mo fun c k z => by unfold TLe TAw TLv at z; unfold TPx; omega))
    · refine ⟨by have := X1.1; omega, fun c hc => by rw [F2.1.hs]; exact X1.2.1 c hc, fun c k hc u => by rw [F2.1.2]; exact X1.2.2.1 c k hc u, fun c k hc z => ?_⟩
      have x1 := F2.2 c k (fun y => z (by unfold TLe TAw TLv at y; unfold TPx; omega))
      have x2 := X1.2.2.2 c k hc (fun y => z (by unfold TPg at y; unfold TPx; omega))
      exact ⟨by rw [x1.1, x2.1], by rw [x1.2, x2.2]⟩
  have vr : -2147483648 ≤ (if v < 0 then -2 else v) ∧ (if v < 0 then -2 else v) < 2147483648 := by
    split <;> omega
  exact ⟨_, vr, rfl, F2.1, k c h2 co' ne' be' ln' v po D⟩
