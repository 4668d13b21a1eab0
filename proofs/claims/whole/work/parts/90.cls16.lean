/-! THE CLASS: page. -/
-- OutwardDoors$Search.origin()I at 0
set_option maxRecDepth 20000 in
set_option maxHeartbeats 4000000 in
theorem r142_0 {X : Cst} {d : Nat} {pl : Nat} {h : AH} {Q : Post} (C_h : Lay h) (K_h_0 : PlanAt h pl) {mk qu ln : Nat} (B_h : SeaAt h pl mk qu ln) (ap : (mk = 248 ∨ 281 ≤ mk) ∧ (qu = 249 ∨ 281 ≤ qu) ∧ ¬ mk = qu ∧ (mk < pl ∨ pl + 10 < mk) ∧ (qu < pl ∨ pl + 10 < qu))
  (w : Ex X PG d 132 0 [some (.ref 247), none, none, none] [] h (fun v1 h2 => ∃ r3 : Int, (-2147483648 ≤ r3 ∧ r3 < 2147483648) ∧ v1 = some (.int (J r3)) ∧ SH h h2 ∧ Ex X PG d 135 0 [some (.ref 247), some (.int (J r3)), none, none] [] h2 (fun v4 h5 => ∃ r6 : Int, (-2147483648 ≤ r6 ∧ r6 < 2147483648) ∧ v4 = some (.int (J r6)) ∧ SH h2 h5 ∧ Q (some (.int (J r6))) h5))) :
    Ex X PG (d + 1) 142 0 [some (.ref 247)] [] h Q := by
  refine wpx_ok (cut := []) 5 d 142 0 _ _ _ _ ?_
  show hs h 247 = (0, 7) ∧ Ex X PG d 132 0 [some (.ref 247), none, none, none] [] h (fun v1 h2 => ∃ r3, v1 = some (.int r3) ∧ hs h2 247 = (0, 7) ∧ Ex X PG d 135 0 [some (.ref 247), some (.int r3), none, none] [] h2 (fun v4 h5 => ∃ r6, v4 = some (.int r6) ∧ Q (some (.int r6)) h5))
  try simp only [aI_wAL, fI_wAL, aL_wA, aL_wF, aI_wA_ne, aI_wF_ne, fI_wA_ne, fI_wF_ne, fI_wF_nk, aL_wAL_ne, J_sameA, J_sameF, aL_same, Nat.add_left_cancel_iff, Nat.add_eq_left, Nat.left_eq_add, not_false_eq_true, Nat.reduceEqDiff, Nat.reduceAdd, J_add, J_sub, J_mul, J_neg, J_and, J_or, J_xor, J_shl, J_shr, J_div, J_i2b, J_i2l, J_l2i, J_lcm, J_max, J_min, J_nab, J_nao, rdA, rdF, rdL, wA_fold, wF_fold, wL_fold, wC_fold]
  refine ⟨(ls247 C_h), ?_⟩
  refine Ex.mono w (Nat.le_refl _) ?_
  rintro v1 h2 ⟨r3, gr3, rfl, s8, w⟩
  refine ⟨_, rfl, ?_⟩
  have C_h2 := Lay_SH s8 C_h
  have K_h2_0 := PlanAt_SH s8 K_h_0
  have B_h2 := SeaAt_SH s8 B_h
  try simp only [aI_wAL, fI_wAL, aL_wA, aL_wF, aI_wA_ne, aI_wF_ne, fI_wA_ne, fI_wF_ne, fI_wF_nk, aL_wAL_ne, J_sameA, J_sameF, aL_same, Nat.add_left_cancel_iff, Nat.add_eq_left, Nat.left_eq_add, not_false_eq_true, Nat.reduceEqDiff, Nat.reduceAdd, J_add, J_sub, J_mul, J_neg, J_and, J_or, J_xor, J_shl, J_shr, J_div, J_i2b, J_i2l, J_l2i, J_lcm, J_max, J_min, J_nab, J_nao, rdA, rdF, rdL, wA_fold, wF_fold, wL_fold, wC_fold]
  refine ⟨(ls247 C_h2), ?_⟩
  refine Ex.mono w (Nat.le_refl _) ?_
  rintro v4 h5 ⟨r6, gr6, rfl, s7, w⟩
  refine ⟨_, rfl, ?_⟩
  have C_h5 := Lay_SH s7 C_h2
  have K_h5_0 := PlanAt_SH s7 K_h2_0
  have B_h5 := SeaAt_SH s7 B_h2
  try simp only [aI_wAL, fI_wAL, aL_wA, aL_wF, aI_wA_ne, aI_wF_ne, fI_wA_ne, fI_wF_ne, fI_wF_nk, aL_wAL_ne, J_sameA, J_sameF, aL_same, Nat.add_left_cancel_iff, Nat.add_eq_left, Nat.left_eq_add, not_false_eq_true, Nat.reduceEqDiff, Nat.reduceAdd, J_add, J_sub, J_mul, J_neg, J_and, J_or, J_xor, J_shl, J_shr, J_div, J_i2b, J_i2l, J_l2i, J_lcm, J_max, J_min, J_nab, J_nao, rdA, rdF, rdL, wA_fold, wF_fold, wL_fold, wC_fold]
  exact w
theorem m142 {X : Cst} {d pl mk qu ln m : Nat} {S : Int → Int} {t : Prop} {w R T i N F : Int} {ks : List Int} {st : Int → Int → Int} {pa : Int → Int} {la : Int → Int × Int × Int} {h : AH} {Q : Post}
    (C : Lay h) (K : PlanAt h pl) (B : SeaAt h pl mk qu ln) (ap : apS pl mk qu) (hd : 2 ≤ d) (hm : m ≤ 5) (W : WF N S) (hl : (8 : Int) ^ m ≤ ln) (I : SeaI h pl mk qu ln m S t w st pa la R T i) (hF : 0 ≤ F ∧ F < T) (ky : KY pa la R ks F) (f7 : fI h 247 7 = enc 8 m (st F))
    (k : Q (some (.int (J (enc 8 m (st (upk pa (ks.length - 1) F)))))) h) : Ex X PG d 142 0 [some (.ref 247)] [] h Q := by
  obtain ⟨d, rfl⟩ : ∃ e, d = e + 1 := ⟨d - 1, by omega⟩
  have b := W.1
  unfold WFb at b
  have kl := KY_len ky
  have kt := KY_lt_T I.2.2.1 ks F hF.1 hF.2 ky
  have tl := I.T_le
  have l8 := B.2.2.2.2.2
  refine r142_0 C K B ap ?_
  refine m132 C K B ap (by omega) hm W hl I hF ky f7 ⟨_, by omega, rfl, SH.rf, ?_⟩
  rw [show (ks.length : Int) - 1 = ((ks.length - 1 : Nat) : Int) by omega]
  refine m135 C K B ap (by omega) hm W hl I hF ky f7 (by omega) (by omega) (fun hu kk => ?_)
  rw [show (((ks.length - 1 : Nat) : Int)).toNat = ks.length - 1 by omega] at hu kk ⊢
  have kf := (I.2.1.2.1 _ hu.1 hu.2).1.up b.2.1
  have ef := enc_b (b := 8) (by decide) m _ kf.1
  exact ⟨_, by omega, rfl, SH.rf, k⟩
theorem enc_zero (b : Int) : ∀ m : Nat, enc b m (fun _ => 0) = 0 := by
  intro m
  induction m with
  | zero => rfl
  | succ m ih => show 0 + b * enc b m (fun _ => 0) = 0; rw [ih, Int.mul_zero]; rfl
theorem enc_one {b r p : Int} {m : Nat} (hp : 0 ≤ p ∧ p < m) : enc b m (fun q => pI (q = p) r 0) = r * b ^ p.toNat := by
  have e := enc_fu (b := b) m (fun _ => 0) p.toNat r (by omega)
  rw [enc_zero, show ((p.toNat : Nat) : Int) = p by omega, Int.zero_add, Int.sub_zero] at e
  rw [← e]
  refine enc_cong m _ _ (fun q q0 q1 => ?_)
  by_cases c : q = p
  · rw [pI_pos c, c, fu_eq]
  · rw [pI_neg c, fu_ne c]
-- OutwardDoors.page(II)I at 0
set_option maxRecDepth 20000 in
set_option maxHeartbeats 4000000 in
theorem r141_0 {X : Cst} {d : Nat} {x1 : Int} {x2 : Int} {pl : Nat} {S : Int → Int} {h : AH} {Q : Post} (C_h : Lay h) (K_h_0 : PlanAt h pl) (P_h : hR h 52 0 = some pl) (hd : 3 ≤ d)
  (w : (CS h pl S) ∧ (-2147483648 ≤ x1 ∧ x1 < 2147483648) ∧ ((¬ (0 ≤ x1 ∧ x1 < S 2) → Q (some (.int (J (-1)))) h) ∧ ((0 ≤ x1 ∧ x1 < S 2) → (-2147483648 ≤ x2 ∧ x2 < 2147483648) ∧ ((x2 < 0 → Q (some (.int (J (-1)))) h) ∧ (¬ x2 < 0 → ((x2 ≤ 1 → Ex X PG d 117 0 [some (.ref 64), some (.int (J (fI h pl 2))), none, none] [] h (fun v17 h18 => ∃ r19 : Int, (-2147483648 ≤ r19 ∧ r19 < 2147483648) ∧ v17 = some (.int (J r19)) ∧ SH h h18 ∧ (CS h18 pl S) ∧ (WF 999 S) ∧ Ex X PG d 114 0 [some (.ref 247), some (.ref pl), some (.int (J (bI (nightP S)))), some (.int (J ((fI h pl 2) + 1))), some (.int (J (-1))), none] [] h18 (fun v28 h29 => v28 = none ∧ GRo h29 pl ∧ Ex X PG (d + 1) 141 68 [some (.ref 0), some (.int (J x1)), some (.int (J x2)), some (.int (J (fI h pl 2))), some (.int (J r19)), some (.int (J 0))] [] h29 Q))) ∧ (¬ x2 ≤ 1 → Q (some (.int (J (-1)))) h))))))) :
    Ex X PG (d + 1) 141 0 [some (.ref 0), some (.int (J x1)), some (.int (J x2)), none, none, none] [] h Q := by
  refine wpx_ok (cut := [68]) 34 d 141 0 _ _ _ _ ?_
  show hs h 0 = (0, 10) ∧ Ex X PG d 75 0 [some (.ref 0), some (.int (J x1))] [] h (fun v1 h2 => ∃ r3, v1 = some (.int r3) ∧ ((r3 = (J 0) → Q (some (.int (J (-1)))) h2) ∧ (¬ (r3 = (J 0)) → (((J x2) < (J 0) → Q (some (.int (J (-1)))) h2) ∧ (¬ ((J x2) < (J 0)) → (((J x2) ≤ (J 1) → hs h2 0 = (0, 10) ∧ ∃ q13, hR h2 0 5 = some q13 ∧ hs h2 q13 = (0, 6) ∧ ∃ q14, hR h2 q13 0 = some q14 ∧ hs h2 q14 = (0, 2) ∧ hs h2 0 = (0, 10) ∧ ∃ q15, hR h2 0 5 = some q15 ∧ hs h2 q15 = (0, 6) ∧ ∃ q16, hR h2 q15 1 = some q16 ∧ hs h2 q16 = (0, 9) ∧ Ex X PG d 117 0 [some (.ref q16), some (.int (hF h2 q14 2)), none, none] [] h2 (fun v17 h18 => ∃ r19, v17 = some (.int r19) ∧ hs h18 0 = (0, 10) ∧ ∃ q20, hR h18 0 10 = some q20 ∧ hs h18 0 = (0, 10) ∧ ∃ q21, hR h18 0 5 = some q21 ∧ hs h18 q21 = (0, 6) ∧ ∃ q22, hR h18 q21 0 = some q22 ∧ hs h18 0 = (0, 10) ∧ Ex X PG d 76 0 [some (.ref 0)] [] h18 (fun v23 h24 => ∃ r25, v23 = some (.int r25) ∧ hs h24 q20 = (0, 7) ∧ Ex X PG d 114 0 [some (.ref q20), some (.ref q22), some (.int r25), some (.int ((hF h2 q14 2) + (J 1))), some (.int (J (-1))), none] [] h24 (fun v28 h29 => v28 = none ∧ Ex X PG (d + 1) 141 68 [some (.ref 0), some (.int (J x1)), some (.int (J x2)), some (.int (hF h2 q14 2)), some (.int r19), some (.int (J 0))] [] h29 Q)))) ∧ (¬ ((J x2) ≤ (J 1)) → Q (some (.int (J (-1)))) h2)))))))
  try simp only [aI_wAL, fI_wAL, aL_wA, aL_wF, aI_wA_ne, aI_wF_ne, fI_wA_ne, fI_wF_ne, fI_wF_nk, aL_wAL_ne, J_sameA, J_sameF, aL_same, Nat.add_left_cancel_iff, Nat.add_eq_left, Nat.left_eq_add, not_false_eq_true, Nat.reduceEqDiff, Nat.reduceAdd, J_add, J_sub, J_mul, J_neg, J_and, J_or, J_xor, J_shl, J_shr, J_div, J_i2b, J_i2l, J_l2i, J_lcm, J_max, J_min, J_nab, J_nao, rdA, rdF, rdL, wA_fold, wF_fold, wL_fold, wC_fold]
  refine ⟨(ls0 C_h), ?_⟩
  obtain ⟨k4, w⟩ := w
  obtain ⟨k5, w⟩ := w
  refine m75 (h := h) (x := x1) (S := S) (pl := pl) C_h P_h K_h_0 (by omega) k4 k5 ?_
  refine ⟨_, rfl, ?_⟩
  try simp only [aI_wAL, fI_wAL, aL_wA, aL_wF, aI_wA_ne, aI_wF_ne, fI_wA_ne, fI_wF_ne, fI_wF_nk, aL_wAL_ne, J_sameA, J_sameF, aL_same, Nat.add_left_cancel_iff, Nat.add_eq_left, Nat.left_eq_add, not_false_eq_true, Nat.reduceEqDiff, Nat.reduceAdd, J_add, J_sub, J_mul, J_neg, J_and, J_or, J_xor, J_shl, J_shr, J_div, J_i2b, J_i2l, J_l2i, J_lcm, J_max, J_min, J_nab, J_nao, rdA, rdF, rdL, wA_fold, wF_fold, wL_fold, wC_fold]
  refine ⟨fun c6 => ?_, fun c6 => ?_⟩
  · have t7 : ¬ (0 ≤ x1 ∧ x1 < S 2) := ((bI0 _).mp c6)
    replace w := w.1 t7
    exact w
  · have t7 : (0 ≤ x1 ∧ x1 < S 2) := (Classical.byContradiction fun n => c6 ((bI0 _).mpr n))
    replace w := w.2 t7
    obtain ⟨k10, w⟩ := w
    refine ⟨fun c8 => ?_, fun c8 => ?_⟩
    · have t9 : x2 < 0 := ((Jlt k10 (by decide)).mp c8)
      replace w := w.1 t9
      exact w
    · have t9 : ¬ x2 < 0 := (fun e => c8 ((Jlt k10 (by decide)).mpr e))
      replace w := w.2 t9
      refine ⟨fun c11 => ?_, fun c11 => ?_⟩
      · have t12 : x2 ≤ 1 := ((Jle k10 (by decide)).mp c11)
        replace w := w.1 t12
        refine ⟨(ls0 C_h), _, (lr0_5 C_h), ?_⟩
        refine ⟨(ls52 C_h), _, P_h, ?_⟩
        refine ⟨(plan_0 K_h_0), ?_⟩
        refine ⟨(ls0 C_h), _, (lr0_5 C_h), ?_⟩
        refine ⟨(ls52 C_h), _, (lr52_1 C_h), ?_⟩
        refine ⟨(ls64 C_h), ?_⟩
        refine Ex.mono w (Nat.le_refl _) ?_
        rintro v17 h18 ⟨r19, gr19, rfl, s31, w⟩
        refine ⟨_, rfl, ?_⟩
        have C_h18 := Lay_SH s31 C_h
        have K_h18_0 := PlanAt_SH s31 K_h_0
        have P_h18 := (congrFun (congrFun s31.2 52) 0).trans P_h
        try simp only [aI_wAL, fI_wAL, aL_wA, aL_wF, aI_wA_ne, aI_wF_ne, fI_wA_ne, fI_wF_ne, fI_wF_nk, aL_wAL_ne, J_sameA, J_sameF, aL_same, Nat.add_left_cancel_iff, Nat.add_eq_left, Nat.left_eq_add, not_false_eq_true, Nat.reduceEqDiff, Nat.reduceAdd, J_add, J_sub, J_mul, J_neg, J_and, J_or, J_xor, J_shl, J_shr, J_div, J_i2b, J_i2l, J_l2i, J_lcm, J_max, J_min, J_nab, J_nao, rdA, rdF, rdL, wA_fold, wF_fold, wL_fold, wC_fold]
        refine ⟨(ls0 C_h18), _, (lr0_10 C_h18), ?_⟩
        refine ⟨(ls0 C_h18), _, (lr0_5 C_h18), ?_⟩
        refine ⟨(ls52 C_h18), _, P_h18, ?_⟩
        refine ⟨(ls0 C_h18), ?_⟩
        obtain ⟨k26, w⟩ := w
        obtain ⟨k27, w⟩ := w
        refine m76 (h := h18)  (S := S) (pl := pl) C_h18 P_h18 K_h18_0 (by omega) k26 k27 ?_
        refine ⟨_, rfl, ?_⟩
        try simp only [aI_wAL, fI_wAL, aL_wA, aL_wF, aI_wA_ne, aI_wF_ne, fI_wA_ne, fI_wF_ne, fI_wF_nk, aL_wAL_ne, J_sameA, J_sameF, aL_same, Nat.add_left_cancel_iff, Nat.add_eq_left, Nat.left_eq_add, not_false_eq_true, Nat.reduceEqDiff, Nat.reduceAdd, J_add, J_sub, J_mul, J_neg, J_and, J_or, J_xor, J_shl, J_shr, J_div, J_i2b, J_i2l, J_l2i, J_lcm, J_max, J_min, J_nab, J_nao, rdA, rdF, rdL, wA_fold, wF_fold, wL_fold, wC_fold]
        refine ⟨(ls247 C_h18), ?_⟩
        refine Ex.mono w (Nat.le_refl _) ?_
        rintro v28 h29 ⟨rfl, ⟨C_h29, K_h29_0, P_h29⟩, w⟩
        refine ⟨rfl, ?_⟩
        try simp only [aI_wAL, fI_wAL, aL_wA, aL_wF, aI_wA_ne, aI_wF_ne, fI_wA_ne, fI_wF_ne, fI_wF_nk, aL_wAL_ne, J_sameA, J_sameF, aL_same, Nat.add_left_cancel_iff, Nat.add_eq_left, Nat.left_eq_add, not_false_eq_true, Nat.reduceEqDiff, Nat.reduceAdd, J_add, J_sub, J_mul, J_neg, J_and, J_or, J_xor, J_shl, J_shr, J_div, J_i2b, J_i2l, J_l2i, J_lcm, J_max, J_min, J_nab, J_nao, rdA, rdF, rdL, wA_fold, wF_fold, wL_fold, wC_fold]
        exact w
      · have t12 : ¬ x2 ≤ 1 := (fun e => c11 ((Jle k10 (by decide)).mpr e))
        replace w := w.2 t12
        exact w
-- OutwardDoors.page(II)I at 68
set_option maxRecDepth 20000 in
set_option maxHeartbeats 4000000 in
theorem r141_68 {X : Cst} {d : Nat} {x1 : Int} {x2 : Int} {x3 : Int} {x4 : Int} {x5 : Int} {pl : Nat} {h : AH} {Q : Post} (C_h : Lay h) (K_h_0 : PlanAt h pl) (P_h : hR h 52 0 = some pl) (hd : 1 ≤ d)
  (w : (-2147483648 ≤ x5 ∧ x5 < 2147483648) ∧ ((fI h pl 0 ≤ x5 → (0 ≤ x1 ∧ x1 < 4) ∧ Ex X PG d 120 0 [some (.ref 247), some (.int (J (shl 7 (iand (3 * x1) 31)))), some (.int (J (shl (aI h 66 x1) (iand (3 * x1) 31)))), none] [] h (fun v11 h12 => v11 = none ∧ SH h h12 ∧ Ex X PG d 132 0 [some (.ref 247), none, none, none] [] h12 (fun v14 h15 => ∃ r16 : Int, (-2147483648 ≤ r16 ∧ r16 < 2147483648) ∧ v14 = some (.int (J r16)) ∧ SH h12 h15 ∧ ((r16 < 0 → Q (some (.int (J r16))) h15) ∧ (¬ r16 < 0 → (-2147483648 ≤ x2 ∧ x2 < 2147483648) ∧ ((¬ x2 = 1 → Ex X PG d 142 0 [some (.ref 247)] [] h15 (fun v23 h24 => ∃ r25 : Int, (-2147483648 ≤ r25 ∧ r25 < 2147483648) ∧ v23 = some (.int (J r25)) ∧ SH h15 h24 ∧ (0 ≤ r25 ∧ r25 < 2147483648) ∧ (0 ≤ x3 ∧ x3 < 5) ∧ Q (some (.int (J (dgt 8 r25 x3)))) h24)) ∧ (x2 = 1 → Q (some (.int (J r16))) h15))))))) ∧ (¬ fI h pl 0 ≤ x5 → (0 ≤ x4 ∧ x4 < 32768) ∧ (0 ≤ x3 ∧ x3 < 5) ∧ (0 ≤ x5 ∧ x5 < 8) ∧ Ex X PG d 118 0 [some (.ref 247), some (.int (J (mvd 8 x4 x3 x5)))] [] h (fun v41 h42 => v41 = none ∧ SH h h42 ∧ Ex X PG (d + 1) 141 68 [some (.ref 0), some (.int (J x1)), some (.int (J x2)), some (.int (J x3)), some (.int (J x4)), some (.int (J (x5 + 1)))] [] h42 Q)))) :
    Ex X PG (d + 1) 141 68 [some (.ref 0), some (.int (J x1)), some (.int (J x2)), some (.int (J x3)), some (.int (J x4)), some (.int (J x5))] [] h Q := by
  refine wpx_ok (cut := [68]) 39 d 141 68 _ _ _ _ ?_
  show hs h 0 = (0, 10) ∧ ∃ q1, hR h 0 5 = some q1 ∧ hs h q1 = (0, 6) ∧ ∃ q2, hR h q1 0 = some q2 ∧ hs h q2 = (0, 2) ∧ (((hF h q2 0) ≤ (J x5) → hs h 0 = (0, 10) ∧ ∃ q6, hR h 0 10 = some q6 ∧ hs h 0 = (0, 10) ∧ ∃ q7, hR h 0 5 = some q7 ∧ hs h q7 = (0, 6) ∧ ∃ q8, hR h q7 1 = some q8 ∧ hs h q8 = (0, 9) ∧ ∃ q9, hR h q8 1 = some q9 ∧ (hs h q9).1 = 1 ∧ ix (J x1) (hs h q9).2 ∧ hs h q6 = (0, 7) ∧ Ex X PG d 120 0 [some (.ref q6), some (.int ((J 7) <<< (((J 3) * (J x1)) &&& J 31))), some (.int ((hI h q9 (Int32.toNatClampNeg (J x1))) <<< (((J 3) * (J x1)) &&& J 31))), none] [] h (fun v11 h12 => v11 = none ∧ hs h12 0 = (0, 10) ∧ ∃ q13, hR h12 0 10 = some q13 ∧ hs h12 q13 = (0, 7) ∧ Ex X PG d 132 0 [some (.ref q13), none, none, none] [] h12 (fun v14 h15 => ∃ r16, v14 = some (.int r16) ∧ ((r16 < (J 0) → Q (some (.int r16)) h15) ∧ (¬ (r16 < (J 0)) → ((¬ (J x2) = (J 1) → hs h15 0 = (0, 10) ∧ ∃ q22, hR h15 0 10 = some q22 ∧ hs h15 q22 = (0, 7) ∧ Ex X PG d 142 0 [some (.ref q22)] [] h15 (fun v23 h24 => ∃ r25, v23 = some (.int r25) ∧ Ex X PG d 122 0 [some (.int r25), some (.int (J x3))] [] h24 (fun v26 h27 => ∃ r28, v26 = some (.int r28) ∧ Q (some (.int r28)) h27))) ∧ (¬ (¬ (J x2) = (J 1)) → Q (some (.int r16)) h15))))))) ∧ (¬ ((hF h q2 0) ≤ (J x5)) → hs h 0 = (0, 10) ∧ ∃ q34, hR h 0 10 = some q34 ∧ Ex X PG d 124 0 [some (.int (J x4)), some (.int (J x3)), some (.int (J x5))] [] h (fun v35 h36 => ∃ r37, v35 = some (.int r37) ∧ hs h36 q34 = (0, 7) ∧ Ex X PG d 118 0 [some (.ref q34), some (.int r37)] [] h36 (fun v41 h42 => v41 = none ∧ Ex X PG (d + 1) 141 68 [some (.ref 0), some (.int (J x1)), some (.int (J x2)), some (.int (J x3)), some (.int (J x4)), some (.int ((J x5) + (J 1)))] [] h42 Q))))
  try simp only [aI_wAL, fI_wAL, aL_wA, aL_wF, aI_wA_ne, aI_wF_ne, fI_wA_ne, fI_wF_ne, fI_wF_nk, aL_wAL_ne, J_sameA, J_sameF, aL_same, Nat.add_left_cancel_iff, Nat.add_eq_left, Nat.left_eq_add, not_false_eq_true, Nat.reduceEqDiff, Nat.reduceAdd, J_add, J_sub, J_mul, J_neg, J_and, J_or, J_xor, J_shl, J_shr, J_div, J_i2b, J_i2l, J_l2i, J_lcm, J_max, J_min, J_nab, J_nao, rdA, rdF, rdL, wA_fold, wF_fold, wL_fold, wC_fold]
  refine ⟨(ls0 C_h), _, (lr0_5 C_h), ?_⟩
  refine ⟨(ls52 C_h), _, P_h, ?_⟩
  refine ⟨(plan_0 K_h_0), ?_⟩
  obtain ⟨k5, w⟩ := w
  refine ⟨fun c3 => ?_, fun c3 => ?_⟩
  · have t4 : fI h pl 0 ≤ x5 := ((Jle (rg_toInt _) k5).mp c3)
    replace w := w.1 t4
    refine ⟨(ls0 C_h), _, (lr0_10 C_h), ?_⟩
    refine ⟨(ls0 C_h), _, (lr0_5 C_h), ?_⟩
    refine ⟨(ls52 C_h), _, (lr52_1 C_h), ?_⟩
    refine ⟨(ls64 C_h), _, (lr64_1 C_h), ?_⟩
    obtain ⟨k10, w⟩ := w
    refine ⟨congrArg Prod.fst (ls66 C_h), ixs (ls66 C_h) k10 (by decide), ?_⟩
    refine ⟨(ls247 C_h), ?_⟩
    refine Ex.mono w (Nat.le_refl _) ?_
    rintro v11 h12 ⟨rfl, s33, w⟩
    refine ⟨rfl, ?_⟩
    have C_h12 := Lay_SH s33 C_h
    have K_h12_0 := PlanAt_SH s33 K_h_0
    have P_h12 := (congrFun (congrFun s33.2 52) 0).trans P_h
    try simp only [aI_wAL, fI_wAL, aL_wA, aL_wF, aI_wA_ne, aI_wF_ne, fI_wA_ne, fI_wF_ne, fI_wF_nk, aL_wAL_ne, J_sameA, J_sameF, aL_same, Nat.add_left_cancel_iff, Nat.add_eq_left, Nat.left_eq_add, not_false_eq_true, Nat.reduceEqDiff, Nat.reduceAdd, J_add, J_sub, J_mul, J_neg, J_and, J_or, J_xor, J_shl, J_shr, J_div, J_i2b, J_i2l, J_l2i, J_lcm, J_max, J_min, J_nab, J_nao, rdA, rdF, rdL, wA_fold, wF_fold, wL_fold, wC_fold]
    refine ⟨(ls0 C_h12), _, (lr0_10 C_h12), ?_⟩
    refine ⟨(ls247 C_h12), ?_⟩
    refine Ex.mono w (Nat.le_refl _) ?_
    rintro v14 h15 ⟨r16, gr16, rfl, s32, w⟩
    refine ⟨_, rfl, ?_⟩
    have C_h15 := Lay_SH s32 C_h12
    have K_h15_0 := PlanAt_SH s32 K_h12_0
    have P_h15 := (congrFun (congrFun s32.2 52) 0).trans P_h12
    try simp only [aI_wAL, fI_wAL, aL_wA, aL_wF, aI_wA_ne, aI_wF_ne, fI_wA_ne, fI_wF_ne, fI_wF_nk, aL_wAL_ne, J_sameA, J_sameF, aL_same, Nat.add_left_cancel_iff, Nat.add_eq_left, Nat.left_eq_add, not_false_eq_true, Nat.reduceEqDiff, Nat.reduceAdd, J_add, J_sub, J_mul, J_neg, J_and, J_or, J_xor, J_shl, J_shr, J_div, J_i2b, J_i2l, J_l2i, J_lcm, J_max, J_min, J_nab, J_nao, rdA, rdF, rdL, wA_fold, wF_fold, wL_fold, wC_fold]
    refine ⟨fun c17 => ?_, fun c17 => ?_⟩
    · have t18 : r16 < 0 := ((Jlt gr16 (by decide)).mp c17)
      replace w := w.1 t18
      exact w
    · have t18 : ¬ r16 < 0 := (fun e => c17 ((Jlt gr16 (by decide)).mpr e))
      replace w := w.2 t18
      obtain ⟨k21, w⟩ := w
      refine ⟨fun c19 => ?_, fun c19 => ?_⟩
      · have t20 : ¬ x2 = 1 := (fun e => c19 ((Jeq k21 (by decide)).mpr e))
        replace w := w.1 t20
        refine ⟨(ls0 C_h15), _, (lr0_10 C_h15), ?_⟩
        refine ⟨(ls247 C_h15), ?_⟩
        refine Ex.mono w (Nat.le_refl _) ?_
        rintro v23 h24 ⟨r25, gr25, rfl, s31, w⟩
        refine ⟨_, rfl, ?_⟩
        have C_h24 := Lay_SH s31 C_h15
        have K_h24_0 := PlanAt_SH s31 K_h15_0
        have P_h24 := (congrFun (congrFun s31.2 52) 0).trans P_h15
        try simp only [aI_wAL, fI_wAL, aL_wA, aL_wF, aI_wA_ne, aI_wF_ne, fI_wA_ne, fI_wF_ne, fI_wF_nk, aL_wAL_ne, J_sameA, J_sameF, aL_same, Nat.add_left_cancel_iff, Nat.add_eq_left, Nat.left_eq_add, not_false_eq_true, Nat.reduceEqDiff, Nat.reduceAdd, J_add, J_sub, J_mul, J_neg, J_and, J_or, J_xor, J_shl, J_shr, J_div, J_i2b, J_i2l, J_l2i, J_lcm, J_max, J_min, J_nab, J_nao, rdA, rdF, rdL, wA_fold, wF_fold, wL_fold, wC_fold]
        obtain ⟨k29, w⟩ := w
        obtain ⟨k30, w⟩ := w
        refine m122 (h := h24) (s := r25) (p := x3) C_h24 (by omega) k29 k30 ?_
        refine ⟨_, rfl, ?_⟩
        try simp only [aI_wAL, fI_wAL, aL_wA, aL_wF, aI_wA_ne, aI_wF_ne, fI_wA_ne, fI_wF_ne, fI_wF_nk, aL_wAL_ne, J_sameA, J_sameF, aL_same, Nat.add_left_cancel_iff, Nat.add_eq_left, Nat.left_eq_add, not_false_eq_true, Nat.reduceEqDiff, Nat.reduceAdd, J_add, J_sub, J_mul, J_neg, J_and, J_or, J_xor, J_shl, J_shr, J_div, J_i2b, J_i2l, J_l2i, J_lcm, J_max, J_min, J_nab, J_nao, rdA, rdF, rdL, wA_fold, wF_fold, wL_fold, wC_fold]
        exact w
      · have t20 : x2 = 1 := ((Jeq k21 (by decide)).mp (Classical.byContradiction c19))
        replace w := w.2 t20
        exact w
  · have t4 : ¬ fI h pl 0 ≤ x5 := (fun e => c3 ((Jle (rg_toInt _) k5).mpr e))
    replace w := w.2 t4
    refine ⟨(ls0 C_h), _, (lr0_10 C_h), ?_⟩
    obtain ⟨k38, w⟩ := w
    obtain ⟨k39, w⟩ := w
    obtain ⟨k40, w⟩ := w
    refine m124 (h := h) (s := x4) (p := x3) (r := x5) C_h (by omega) k38 k39 k40 ?_
    refine ⟨_, rfl, ?_⟩
    try simp only [aI_wAL, fI_wAL, aL_wA, aL_wF, aI_wA_ne, aI_wF_ne, fI_wA_ne, fI_wF_ne, fI_wF_nk, aL_wAL_ne, J_sameA, J_sameF, aL_same, Nat.add_left_cancel_iff, Nat.add_eq_left, Nat.left_eq_add, not_false_eq_true, Nat.reduceEqDiff, Nat.reduceAdd, J_add, J_sub, J_mul, J_neg, J_and, J_or, J_xor, J_shl, J_shr, J_div, J_i2b, J_i2l, J_l2i, J_lcm, J_max, J_min, J_nab, J_nao, rdA, rdF, rdL, wA_fold, wF_fold, wL_fold, wC_fold]
    refine ⟨(ls247 C_h), ?_⟩
    refine Ex.mono w (Nat.le_refl _) ?_
    rintro v41 h42 ⟨rfl, s43, w⟩
    refine ⟨rfl, ?_⟩
    have C_h42 := Lay_SH s43 C_h
    have K_h42_0 := PlanAt_SH s43 K_h_0
    have P_h42 := (congrFun (congrFun s43.2 52) 0).trans P_h
    try simp only [aI_wAL, fI_wAL, aL_wA, aL_wF, aI_wA_ne, aI_wF_ne, fI_wA_ne, fI_wF_ne, fI_wF_nk, aL_wAL_ne, J_sameA, J_sameF, aL_same, Nat.add_left_cancel_iff, Nat.add_eq_left, Nat.left_eq_add, not_false_eq_true, Nat.reduceEqDiff, Nat.reduceAdd, J_add, J_sub, J_mul, J_neg, J_and, J_or, J_xor, J_shl, J_shr, J_div, J_i2b, J_i2l, J_l2i, J_lcm, J_max, J_min, J_nab, J_nao, rdA, rdF, rdL, wA_fold, wF_fold, wL_fold, wC_fold]
    exact w
theorem m141 {X : Cst} {d pl pl0 mk qu ln : Nat} {N p w : Int} {S : Int → Int} {h : AH} {Q : Post} (C : Lay h) (P : hR h 52 0 = some pl) (K : PlanAt h pl) (h281 : 281 ≤ hn h) (hpl : pl + 10 < hn h) (hd : 8 ≤ d) (R : CS h pl S) (W : WF N S) (hN : N ≤ 999) (SR : SeaR h pl0 mk qu ln) (ap : apS pl mk qu) (g1 : -2147483648 ≤ p ∧ p < 2147483648) (g2 : -2147483648 ≤ w ∧ w < 2147483648)
    (k0 : ¬ ((0 ≤ p ∧ p < S 2) ∧ (0 ≤ w ∧ w ≤ 1)) → Q (some (.int (J (-1)))) h)
    (k : ((0 ≤ p ∧ p < S 2) ∧ (0 ≤ w ∧ w ≤ 1)) → ∀ V, (∀ r, 0 ≤ r → r < S 0 → IsD (Edg S (nightP S) ((S 2).toNat + 1) (-1)) (fun f => f p = pS S p 1) (fu (nowF S) (S 2) r) (V r)) → ∀ h' mk' qu' ln', PoR h h' pl mk qu ln S mk' qu' ln' → Q (some (.int (J (if w = 0 then (pgF V (S 0).toNat).1 else (pgF V (S 0).toNat).2)))) h')
    (hV : ((0 ≤ p ∧ p < S 2) ∧ (0 ≤ w ∧ w ≤ 1)) → ∃ V : Int → Int, ∀ r, 0 ≤ r → r < S 0 → IsD (Edg S (nightP S) ((S 2).toNat + 1) (-1)) (fun f => f p = pS S p 1) (fu (nowF S) (S 2) r) (V r)) : Ex X PG d 141 0 [some (.ref 0), some (.int (J p)), some (.int (J w)), none, none, none] [] h Q := by
  obtain ⟨d, rfl⟩ : ∃ e, d = e + 1 := ⟨d - 1, by omega⟩
  have b := W.1
  unfold WFb at b
  have W9 : WF 999 S := W.up hN
  have hm5 : (S 2).toNat + 1 ≤ 5 := by omega
  have kn := nowF_K W
  have k8 := kn.up b.2.1
  have e8 := enc_b (b := 8) (by decide) _ _ k8.1
  have pw := pw_32k (b := 8) (by decide) (by decide) (m := (S 2).toNat) (by omega)
  have pw1 := pw_32k (b := 8) (by decide) (by decide) hm5
  refine r141_0 (S := S) C K P (by omega) ?_
  rw [R.2.1.1.2.2.1]
  refine ⟨R, g1, fun c => k0 (fun z => c z.1), fun c => ⟨g2, fun c2 => k0 (fun z => absurd z.2.1 (by omega)), fun c2 => ⟨fun c3 => ?_, fun c3 => k0 (fun z => c3 z.2.2)⟩⟩⟩
  have hc : (0 ≤ p ∧ p < S 2) ∧ (0 ≤ w ∧ w ≤ 1) := ⟨c, by omega, c3⟩
  obtain ⟨V, DV⟩ := hV hc
  refine m117 (S := S) C (WorldAt_64 C) (by omega) R.2.2.1 W rfl ⟨_, by omega, rfl, SH.rf, R, W9, ?_⟩
  have bg := fun (Q' : Post) kk => m114 (X := X) (d := d) (pl := pl) (m := (S 2).toNat + 1) (w := -1) (t := nightP S) (h := h) (Q := Q') C h281 SR ap hpl (by omega) hm5 (by decide) kk
  rw [show (((S 2).toNat + 1 : Nat) : Int) = S 2 + 1 by omega] at bg
  refine bg _ (fun h17 mk' qu' ln' X17 B17 fr17 room17 => ?_)
  obtain ⟨B, ap', mq, ee, hl, ⟨f1, f2, f3, f6, f7⟩, mz⟩ := B17
  have hR17 : hR h17 52 0 = some pl := by rw [X17.2.2.1 52 0 (by omega) (fun z => by unfold UBg at z; omega)]; exact P
  have C17 : Lay h17 := X17.C C h281 UBg_n
  have K17 : PlanAt h17 pl := K.gx X17 hpl (fun k z => by unfold UBg at z; have := R.1; omega)
  have apb := ap
  obtain ⟨a1, a2, a3, a4, a5⟩ := apb
  have R17 : CS h17 pl S := R.gx X17 hpl h281 (fun c k z => by unfold TBg at z; have := R.1; omega)
  refine ⟨rfl, ⟨C17, K17, hR17⟩, ?_⟩
  have ap2 := ap'
  obtain ⟨c1', c2', c3', c4', c5'⟩ := ap2
  have en1 : enc 8 (S 2).toNat (nowF S) = enc 8 ((S 2).toNat + 1) (nowF S) := by
    rw [enc_top, show (((S 2).toNat : Nat) : Int) = S 2 by omega, show nowF S (S 2) = 0 by unfold nowF; rw [if_neg (by omega)], Int.zero_mul, Int.add_zero]
  have kn1 : Kf ((S 2).toNat + 1) (S 0) (nowF S) := by
    refine ⟨fun q q0 q1 => ?_, fun q hq => kn.2 q (by omega)⟩
    by_cases z : q = S 2
    · rw [z, show nowF S (S 2) = 0 by unfold nowF; rw [if_neg (by omega)]]
      have := W.2.1 p c.1 c.2
      omega
    · exact kn.1 q q0 (by omega)
  have rt : ∀ r, mvd 8 (enc 8 (S 2).toNat (nowF S)) (S 2) r = enc 8 ((S 2).toNat + 1) (fu (nowF S) (S 2) r) := fun r => by
    rw [en1]; exact mvd_enc (by decide) hm5 (kn1.up b.2.1) (by omega) r
  have lp : ∀ (z : Nat) (r : Int) (st : Int → Int → Int) (h' : AH), S 0 - r = z → 0 ≤ r → Fr (TSe mk' qu') h17 h' → LG h' mk' qu' ln' ((S 2).toNat + 1) (S 0) st (fun _ => 0) (fun _ => (0, 0, 0)) r r → (∀ x, 0 ≤ x → x < r → st x = fu (nowF S) (S 2) x) → Ex X PG (d + 1) 141 68 [some (.ref 0), some (.int (J p)), some (.int (J w)), some (.int (J (S 2))), some (.int (J (enc 8 (S 2).toNat (nowF S)))), some (.int (J r))] [] h' Q := by
    intro z
    induction z with
    | zero =>
      intro r st h' e r0 F L sr
      have er : r = S 0 := by omega
      subst er
      have C' := F.C C17
      have K' := PlanAt_SH F.1 K17
      have P' := hR_fr F hR17
      have R' : CS h' pl S := R17.fr2 F (fun c k z => by unfold TSe at z; have := R.1; omega)
      have B' := SeaAt_SH F.1 B
      have pg := W.2.1 p c.1 c.2
      refine r141_68 C' K' P' (by omega) ?_
      rw [R'.2.1.1.1, show aI h' 66 p = pS S p 1 from (R'.2.2.1.1 p c.1 c.2).2.1]
      refine ⟨by omega, fun _ => ⟨by omega, ?_⟩, fun y => absurd (by omega) y⟩
      have Bs : Bass h' pl S (nightP S) ((S 2).toNat + 1) (-1) := by
        refine ⟨R'.2.1, ?_, ?_, ?_⟩
        · rw [F.f 247 1 (fun z => by unfold TSe at z; omega)]; exact f1
        · rw [F.f 247 2 (fun z => by unfold TSe at z; omega)]; exact f2
        · rw [F.f 247 3 (fun z => by unfold TSe at z; omega)]; exact f3
      have inj : ∀ i j, 0 ≤ i → i < S 0 → 0 ≤ j → j < S 0 → st i = st j → i = j := by
        intro i j i0 i1 j0 j1 e
        rw [sr i i0 i1, sr j j0 j1] at e
        have := congrFun e (S 2)
        rw [fu_eq, fu_eq] at this
        exact this
      have I' : SeaI h' pl mk' qu' ln' ((S 2).toNat + 1) S (nightP S) (-1) st (fun _ => 0) (fun _ => (0, 0, 0)) (S 0) (S 0) 0 := ⟨Bs, L, ⟨⟨by omega, Int.le_refl _⟩, inj, fun i i0 i1 => by omega, fun i j i0 ij j1 => by omega⟩, fun i i0 i1 => by omega, fun j j0 j1 => by omega⟩
      have wi : ∀ f, Kf ((S 2).toNat + 1) (S 0) f → (iand (enc 8 ((S 2).toNat + 1) f) (shl 7 (iand (3 * p) 31)) = shl (pS S p 1) (iand (3 * p) 31) ↔ f p = pS S p 1) := by
        intro f kf
        have := want_iff hm5 (f := f) (v := fun _ => pS S p 1) (P := fun q => q = p) (kf.up b.2.1) (fun _ _ _ => by omega) (fun q z => by omega)
        rw [enc_one (by omega), enc_one (by omega)] at this
        rw [shl_p (a := 7) (by decide) (by omega), shl_p (a := pS S p 1) (by omega) (by omega), this]
        exact ⟨fun z => z p rfl, fun z q hq => by rw [hq]; exact z⟩
      have wb : -2147483648 ≤ shl (pS S p 1) (iand (3 * p) 31) ∧ shl (pS S p 1) (iand (3 * p) 31) < 2147483648 := rg_toInt _
      have pos : ∀ h28, Fr (TSr mk' qu') h' h28 → PoS h h28 pl mk qu ln S mk' qu' ln' ((S 2).toNat + 1) := by
        intro h28 F28
        have F17 : Fr (fun c k => c = mk' ∨ c = qu' ∨ (c = 247 ∧ (k = 6 ∨ k = 7))) h17 h28 := (F.mo fun c k z => by unfold TSe at z; omega).tr (F28.mo fun c k z => by unfold TSr TSe at z; omega)
        have nh : hn h28 = hn h17 := F17.1.hn
        have zh : hz h28 = hz h17 := F17.1.hz
        refine ⟨?_, ⟨F17.C C17, PlanAt_SH F17.1 K17, hR_fr F17 hR17⟩, R17.fr2 F17 (fun c k z => by have := R.1; omega), SeaAt_SH F17.1 B, ap', by omega, ee, hl, fr17, by omega⟩
        rcases fr17 with ⟨rfl, rfl⟩ | ⟨g1, g2⟩
        · exact (X17.mo (fun c k z => by unfold TBg at z; unfold TBx; omega) (fun c k z => z)).tr (Gx.of (F17.mo fun c k z => by unfold TBx; omega))
        · refine ⟨by have := X17.1; omega, fun c hc => by rw [F17.1.hs]; exact X17.2.1 c hc, fun c k hc u => by rw [F17.1.2]; exact X17.2.2.1 c k hc u, fun c k hc z => ?_⟩
          have x1 := F17.2 c k (fun y => z (by unfold TBx; omega))
          have x2 := X17.2.2.2 c k hc (fun y => z (by unfold TBg at y; unfold TBx; omega))
          exact ⟨by rw [x1.1, x2.1], by rw [x1.2, x2.2]⟩
      have f7' : fI h' 247 7 = -1 := by rw [F.f 247 7 (fun z => by unfold TSe at z; omega)]; exact f7
      refine m120 (G := fun f => f p = pS S p 1) C' K' B' ap' R.1 (by omega) hm5 W hl (fun z => absurd rfl z) I' f7' wb wi (fun h28 st' pa' la' T' F' F28 I28 ag hF gF nG e7 => ⟨rfl, F28.1, ?_⟩) (fun h28 st' pa' la' T' F28 I28 ag nG e7 => ⟨rfl, F28.1, ?_⟩)
      · have po := pos h28 F28
        obtain ⟨p1, p2, p3, p4, p5, p6, p7, p8, p9⟩ := id po
        obtain ⟨ks, ky⟩ := KY_ex I28.2.2.1 (F' + 1).toNat F' hF.1 hF.2 (by omega)
        obtain ⟨r0, hr0, ur, pg⟩ := page_log (V := V) I28.2.2.1 hF I28.2.2.2.1 gF nG ky (fun r h0 h1 => by rw [ag r h0 h1, sr r h0 h1]; exact DV r h0 h1)
        have q := k hc V DV h28 mk' qu' ln' ⟨⟨_, po⟩, I28.rest W p4 p5 p6 p7 p8⟩
        rw [pg] at q
        have kl := KY_len ky
        have kt := KY_lt_T I28.2.2.1 ks F' hF.1 hF.2 ky
        have tl := I28.T_le
        have l8 := p4.2.2.2.2.2
        refine m132 p2.1 p2.2.1 p4 p5 (by omega) hm5 W p8 I28 hF ky e7 ⟨_, by omega, rfl, SH.rf, fun z => absurd z (by omega), fun _ => ⟨g2, fun c4 => ?_, fun c4 => ?_⟩⟩
        · rw [if_pos (by omega)] at q
          refine m142 p2.1 p2.2.1 p4 p5 (by omega) hm5 W p8 I28 hF ky e7 ?_
          rw [ur, ag r0 hr0.1 hr0.2, sr r0 hr0.1 hr0.2]
          have kr := (nowP_K W hr0).up b.2.1
          have er := enc_b (b := 8) (by decide) _ _ kr.1
          refine ⟨_, by omega, rfl, SH.rf, by omega, by omega, ?_⟩
          rw [dgt_enc (by decide) kr (p := S 2) (by omega), fu_eq]
          exact q
        · rw [if_neg (by omega)] at q
          exact q
      · have po := pos h28 F28
        obtain ⟨p1, p2, p3, p4, p5, p6, p7, p8, p9⟩ := id po
        have pn : pgF V (S 0).toNat = (-2, -2) := by
          refine pgF_no _ (fun r h0 h1 => ?_)
          rcases DV r h0 (by omega) with ⟨z, _⟩ | ⟨_, z, _⟩
          · omega
          · obtain ⟨bs, e, l, ge, bl⟩ := RK_LW (R := S 0) (st := st') _ (st' r) [r] (by rw [ag r h0 (by omega), sr r h0 (by omega)]; exact z) ⟨⟨h0, by omega⟩, rfl⟩
            obtain ⟨i, hi, si⟩ := LW_all I28.2.2.1 I28.2.2.2.1 l
            exact absurd (by rw [si]; exact ge) (nG i hi.1 hi.2)
        have q := k hc V DV h28 mk' qu' ln' ⟨⟨_, po⟩, I28.rest W p4 p5 p6 p7 p8⟩
        rw [pn] at q
        refine m132n p2.1 p2.2.1 p4 p5 (by omega) e7 ⟨_, by decide, rfl, SH.rf, fun _ => ?_, fun z => absurd (by decide) z⟩
        by_cases c4 : w = 0
        · rw [if_pos c4] at q; exact q
        · rw [if_neg c4] at q; exact q
    | succ z ih =>
      intro r st h' e r0 F L sr
      have C' := F.C C17
      have K' := PlanAt_SH F.1 K17
      have P' := hR_fr F hR17
      have R' : CS h' pl S := R17.fr2 F (fun c k z => by unfold TSe at z; have := R.1; omega)
      refine r141_68 C' K' P' (by omega) ?_
      rw [R'.2.1.1.1, rt]
      refine ⟨by omega, fun y => absurd y (by omega), fun _ => ⟨by omega, by omega, by omega, ?_⟩⟩
      refine m118 (S := S) (T := r) C' K' (SeaAt_SH F.1 B) ap' (by omega) hm5 W hl r0 L (nowP_K W (by omega)) (fun i i0 i1 z => ?_) (fun h2 F2 L2 => ⟨rfl, F2.1, ?_⟩)
      · rw [sr i i0 i1] at z
        have := congrFun z (S 2)
        rw [fu_eq, fu_eq] at this
        omega
      · refine ih (r + 1) _ h2 (by omega) (by omega) (F.tr F2) L2 (fun x x0 x1 => ?_)
        by_cases z : x = r
        · rw [if_pos z, z]
        · rw [if_neg z]; exact sr x x0 (by omega)
  exact lp (S 0).toNat 0 (fun _ => nowF S) h17 (by omega) (by omega) Fr.rf (LG_0 f6 mz _ _ _) (fun x x0 x1 => by omega)
