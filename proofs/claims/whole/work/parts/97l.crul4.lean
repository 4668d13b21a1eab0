/-! RULES as the class reads them: facts and tests. -/
theorem m9c {X : Cst} {d ru : Nat} {o x L j p : Int} {tp : Int → Int} {c : Cd} {h : AH} {Q : Post} (C : Lay h) (K : RuleAt h ru) (hr : 16 ≤ ru ∧ ru + 4 < 46) (hd : 1 ≤ d) (R : CC h tp L j p c ru) (hc : c.length < 400) (ho : 0 ≤ o ∧ o < 15) (ex : cm o = x) (k : ∀ h', Fr (TAd ru) h h' → CC h' tp L j p (c ++ [(o, 0)]) ru → Q none h') : Ex X PG d 9 0 [some (.ref ru), some (.int (J x)), some (.int (J 0))] [] h Q := by
  rw [← ex]
  exact m9 C K hd R.2.2 hc ho (by omega) (fun h2 F2 G2 => k h2 F2 (R.ad hr F2 G2))
theorem m9g {X : Cst} {d ru : Nat} {x L f : Int} {tp : Int → Int} {h : AH} {Q : Post} (C : Lay h) (K : RuleAt h ru) (hr : 16 ≤ ru ∧ ru + 4 < 46) (hd : 1 ≤ d) (R : CFm h tp L f ru) (k : ∀ h', Fr (TAd ru) h h' → CFm h' tp L f ru → Q none h') : Ex X PG d 9 0 [some (.ref ru), some (.int (J x)), some (.int (J 0))] [] h Q :=
  m9f C K hd R.2 (fun h2 F2 G2 => k h2 F2 (R.ad hr F2 G2))
-- OutwardDoors$RuleReader.takesWord(Ljava/lang/String;)Z at 0
set_option maxRecDepth 20000 in
set_option maxHeartbeats 4000000 in
theorem r67_0 {X : Cst} {d : Nat} {s1 : Nat} {ru : Nat} {h : AH} {Q : Post} (C_h : Lay h) (K_h_0 : RuleAt h ru) (P_h : hR h 46 1 = some ru)
  (w : ((¬ fI h 1 6 = 0 → Q (some (.int (J 0))) h) ∧ (fI h 1 6 = 0 → Ex X PG d 31 0 [some (.ref 1), some (.retAddr s1), none] [] h (fun v9 h10 => ∃ r11 : Int, (-2147483648 ≤ r11 ∧ r11 < 2147483648) ∧ v9 = some (.int (J r11)) ∧ SH h h10 ∧ ((r11 = 0 → Q (some (.int (J 0))) h10) ∧ (¬ r11 = 0 → Ex X PG d 24 0 [some (.ref 1), none] [] h10 (fun v19 h20 => v19 = none ∧ SH h10 h20 ∧ Q (some (.int (J 1))) h20))))))) :
    Ex X PG (d + 1) 67 0 [some (.ref 46), some (.retAddr s1), none] [] h Q := by
  refine wpx_ok (cut := []) 19 d 67 0 _ _ _ _ ?_
  show hs h 46 = (0, 5) ∧ ∃ q1, hR h 46 0 = some q1 ∧ hs h q1 = (0, 8) ∧ ((¬ (hF h q1 6) = (J 0) → (((J 0) = (J 0) → (J 0 = J 0 ∨ J 0 = J 1) ∧ Q (some (.int (J 0))) h) ∧ (¬ ((J 0) = (J 0)) → hs h 46 = (0, 5) ∧ ∃ q4, hR h 46 0 = some q4 ∧ hs h q4 = (0, 8) ∧ Ex X PG d 24 0 [some (.ref q4), none] [] h (fun v5 h6 => v5 = none ∧ (J 0 = J 0 ∨ J 0 = J 1) ∧ Q (some (.int (J 0))) h6)))) ∧ (¬ (¬ (hF h q1 6) = (J 0)) → hs h 46 = (0, 5) ∧ ∃ q8, hR h 46 0 = some q8 ∧ hs h q8 = (0, 8) ∧ Ex X PG d 31 0 [some (.ref q8), some (.retAddr s1), none] [] h (fun v9 h10 => ∃ r11, v9 = some (.int r11) ∧ ((r11 = (J 0) → (((J 0) = (J 0) → (J 0 = J 0 ∨ J 0 = J 1) ∧ Q (some (.int (J 0))) h10) ∧ (¬ ((J 0) = (J 0)) → hs h10 46 = (0, 5) ∧ ∃ q14, hR h10 46 0 = some q14 ∧ hs h10 q14 = (0, 8) ∧ Ex X PG d 24 0 [some (.ref q14), none] [] h10 (fun v15 h16 => v15 = none ∧ (J 0 = J 0 ∨ J 0 = J 1) ∧ Q (some (.int (J 0))) h16)))) ∧ (¬ (r11 = (J 0)) → (((J 1) = (J 0) → (J 1 = J 0 ∨ J 1 = J 1) ∧ Q (some (.int (J 1))) h10) ∧ (¬ ((J 1) = (J 0)) → hs h10 46 = (0, 5) ∧ ∃ q18, hR h10 46 0 = some q18 ∧ hs h10 q18 = (0, 8) ∧ Ex X PG d 24 0 [some (.ref q18), none] [] h10 (fun v19 h20 => v19 = none ∧ (J 1 = J 0 ∨ J 1 = J 1) ∧ Q (some (.int (J 1))) h20))))))))
  try simp only [aI_wAL, fI_wAL, aL_wA, aL_wF, aI_wA_ne, aI_wF_ne, fI_wA_ne, fI_wF_ne, fI_wF_nk, aL_wAL_ne, J_sameA, J_sameF, aL_same, Nat.add_left_cancel_iff, Nat.add_eq_left, Nat.left_eq_add, not_false_eq_true, Nat.reduceEqDiff, Nat.reduceAdd, J_add, J_sub, J_mul, J_neg, J_and, J_or, J_xor, J_shl, J_shr, J_div, J_i2b, J_i2l, J_l2i, J_lcm, J_max, J_min, J_nab, J_nao, rdA, rdF, rdL, wA_fold, wF_fold, wL_fold, wC_fold]
  refine ⟨(ls46 C_h), _, (lr46_0 C_h), ?_⟩
  refine ⟨(ls1 C_h), ?_⟩
  refine ⟨fun c2 => ?_, fun c2 => ?_⟩
  · have t3 : ¬ fI h 1 6 = 0 := (fun e => c2 ((Jeq (rg_toInt _) (by decide)).mpr e))
    replace w := w.1 t3
    refine ⟨fun _ => ?_, fun c => absurd (by decide) c⟩
    exact ⟨(Or.inl (by trivial)), w⟩
  · have t3 : fI h 1 6 = 0 := ((Jeq (rg_toInt _) (by decide)).mp (Classical.byContradiction c2))
    replace w := w.2 t3
    refine ⟨(ls46 C_h), _, (lr46_0 C_h), ?_⟩
    refine ⟨(ls1 C_h), ?_⟩
    refine Ex.mono w (Nat.le_refl _) ?_
    rintro v9 h10 ⟨r11, gr11, rfl, s22, w⟩
    refine ⟨_, rfl, ?_⟩
    have C_h10 := Lay_SH s22 C_h
    have K_h10_0 := RuleAt_SH s22 K_h_0
    have P_h10 := (congrFun (congrFun s22.2 46) 1).trans P_h
    try simp only [aI_wAL, fI_wAL, aL_wA, aL_wF, aI_wA_ne, aI_wF_ne, fI_wA_ne, fI_wF_ne, fI_wF_nk, aL_wAL_ne, J_sameA, J_sameF, aL_same, Nat.add_left_cancel_iff, Nat.add_eq_left, Nat.left_eq_add, not_false_eq_true, Nat.reduceEqDiff, Nat.reduceAdd, J_add, J_sub, J_mul, J_neg, J_and, J_or, J_xor, J_shl, J_shr, J_div, J_i2b, J_i2l, J_l2i, J_lcm, J_max, J_min, J_nab, J_nao, rdA, rdF, rdL, wA_fold, wF_fold, wL_fold, wC_fold]
    refine ⟨fun c12 => ?_, fun c12 => ?_⟩
    · have t13 : r11 = 0 := ((Jeq gr11 (by decide)).mp c12)
      replace w := w.1 t13
      refine ⟨fun _ => ?_, fun c => absurd (by decide) c⟩
      exact ⟨(Or.inl (by trivial)), w⟩
    · have t13 : ¬ r11 = 0 := (fun e => c12 ((Jeq gr11 (by decide)).mpr e))
      replace w := w.2 t13
      refine ⟨fun c => absurd c (by decide), fun _ => ?_⟩
      refine ⟨(ls46 C_h10), _, (lr46_0 C_h10), ?_⟩
      refine ⟨(ls1 C_h10), ?_⟩
      refine Ex.mono w (Nat.le_refl _) ?_
      rintro v19 h20 ⟨rfl, s21, w⟩
      refine ⟨rfl, ?_⟩
      have C_h20 := Lay_SH s21 C_h10
      have K_h20_0 := RuleAt_SH s21 K_h10_0
      have P_h20 := (congrFun (congrFun s21.2 46) 1).trans P_h10
      try simp only [aI_wAL, fI_wAL, aL_wA, aL_wF, aI_wA_ne, aI_wF_ne, fI_wA_ne, fI_wF_ne, fI_wF_nk, aL_wAL_ne, J_sameA, J_sameF, aL_same, Nat.add_left_cancel_iff, Nat.add_eq_left, Nat.left_eq_add, not_false_eq_true, Nat.reduceEqDiff, Nat.reduceAdd, J_add, J_sub, J_mul, J_neg, J_and, J_or, J_xor, J_shl, J_shr, J_div, J_i2b, J_i2l, J_l2i, J_lcm, J_max, J_min, J_nab, J_nao, rdA, rdF, rdL, wA_fold, wF_fold, wL_fold, wC_fold]
      exact ⟨(Or.inr (by trivial)), w⟩
theorem m67 {X : Cst} {d ru s : Nat} {L j f : Int} {tp : Int → Int} {h : AH} {Q : Post} (C : Lay h) (K : RuleAt h ru) (P : hR h 46 1 = some ru) (hX : X.2 = X2) (hd : 3 ≤ d) (T : TkC h tp L j f) (hs' : s < 20) (k0 : (¬ f = 0 ∨ ¬ wc tp L j = wSc s) → Q (some (.int (J 0))) h) (k1 : f = 0 → wc tp L j = wSc s → ∀ h', Fr TTk h h' → TkC h' tp L (nx tp L j) 0 → Q (some (.int (J 1))) h') : Ex X PG d 67 0 [some (.ref 46), some (.retAddr s), none] [] h Q := by
  obtain ⟨d, rfl⟩ : ∃ e, d = e + 1 := ⟨d - 1, by omega⟩
  refine r67_0 C K P ?_
  rw [T.2.2.2.2.2.2.2]
  refine ⟨fun z => k0 (Or.inl z), fun z => ?_⟩
  subst z
  refine m31s C (by omega) hX T hs' (fun y => ⟨1, by omega, rfl, SH.rf, fun z => absurd z (by decide), fun _ => ?_⟩) (fun y => ⟨0, by omega, rfl, SH.rf, fun _ => k0 (Or.inr y), fun z => absurd rfl z⟩)
  exact m24n C (by omega) T (fun h' F T' => ⟨rfl, F.1, k1 rfl y h' F T'⟩)
-- OutwardDoors$RuleReader.closeBracket()V at 0
set_option maxRecDepth 20000 in
set_option maxHeartbeats 4000000 in
theorem r70_0 {X : Cst} {d : Nat} {ru : Nat} {h : AH} {Q : Post} (C_h : Lay h) (K_h_0 : RuleAt h ru) (P_h : hR h 46 1 = some ru) (hd : 1 ≤ d)
  (w : ((¬ fI h 1 6 = 0 → Ex X PG d 32 0 [some (.ref 1), some (.int (J 0))] [] h (fun v5 h6 => v5 = none ∧ SH h h6 ∧ Q none h6)) ∧ (fI h 1 6 = 0 → ((¬ (fI h 1 2 = 3 ∧ fI h 1 5 = 93) → Ex X PG d 32 0 [some (.ref 1), some (.int (J 0))] [] h (fun v15 h16 => v15 = none ∧ SH h h16 ∧ Q none h16)) ∧ ((fI h 1 2 = 3 ∧ fI h 1 5 = 93) → Ex X PG d 24 0 [some (.ref 1), none] [] h (fun v19 h20 => v19 = none ∧ SH h h20 ∧ Q none h20)))))) :
    Ex X PG (d + 1) 70 0 [some (.ref 46)] [] h Q := by
  refine wpx_ok (cut := []) 14 d 70 0 _ _ _ _ ?_
  show hs h 46 = (0, 5) ∧ ∃ q1, hR h 46 0 = some q1 ∧ hs h q1 = (0, 8) ∧ ((¬ (hF h q1 6) = (J 0) → hs h 46 = (0, 5) ∧ ∃ q4, hR h 46 0 = some q4 ∧ hs h q4 = (0, 8) ∧ Ex X PG d 32 0 [some (.ref q4), some (.int (J 0))] [] h (fun v5 h6 => v5 = none ∧ Q none h6)) ∧ (¬ (¬ (hF h q1 6) = (J 0)) → hs h 46 = (0, 5) ∧ ∃ q8, hR h 46 0 = some q8 ∧ hs h q8 = (0, 8) ∧ Ex X PG d 45 0 [some (.ref q8), some (.int (J 93))] [] h (fun v9 h10 => ∃ r11, v9 = some (.int r11) ∧ ((r11 = (J 0) → hs h10 46 = (0, 5) ∧ ∃ q14, hR h10 46 0 = some q14 ∧ hs h10 q14 = (0, 8) ∧ Ex X PG d 32 0 [some (.ref q14), some (.int (J 0))] [] h10 (fun v15 h16 => v15 = none ∧ Q none h16)) ∧ (¬ (r11 = (J 0)) → hs h10 46 = (0, 5) ∧ ∃ q18, hR h10 46 0 = some q18 ∧ hs h10 q18 = (0, 8) ∧ Ex X PG d 24 0 [some (.ref q18), none] [] h10 (fun v19 h20 => v19 = none ∧ Q none h20))))))
  try simp only [aI_wAL, fI_wAL, aL_wA, aL_wF, aI_wA_ne, aI_wF_ne, fI_wA_ne, fI_wF_ne, fI_wF_nk, aL_wAL_ne, J_sameA, J_sameF, aL_same, Nat.add_left_cancel_iff, Nat.add_eq_left, Nat.left_eq_add, not_false_eq_true, Nat.reduceEqDiff, Nat.reduceAdd, J_add, J_sub, J_mul, J_neg, J_and, J_or, J_xor, J_shl, J_shr, J_div, J_i2b, J_i2l, J_l2i, J_lcm, J_max, J_min, J_nab, J_nao, rdA, rdF, rdL, wA_fold, wF_fold, wL_fold, wC_fold]
  refine ⟨(ls46 C_h), _, (lr46_0 C_h), ?_⟩
  refine ⟨(ls1 C_h), ?_⟩
  refine ⟨fun c2 => ?_, fun c2 => ?_⟩
  · have t3 : ¬ fI h 1 6 = 0 := (fun e => c2 ((Jeq (rg_toInt _) (by decide)).mpr e))
    replace w := w.1 t3
    refine ⟨(ls46 C_h), _, (lr46_0 C_h), ?_⟩
    refine ⟨(ls1 C_h), ?_⟩
    refine Ex.mono w (Nat.le_refl _) ?_
    rintro v5 h6 ⟨rfl, s7, w⟩
    refine ⟨rfl, ?_⟩
    have C_h6 := Lay_SH s7 C_h
    have K_h6_0 := RuleAt_SH s7 K_h_0
    have P_h6 := (congrFun (congrFun s7.2 46) 1).trans P_h
    try simp only [aI_wAL, fI_wAL, aL_wA, aL_wF, aI_wA_ne, aI_wF_ne, fI_wA_ne, fI_wF_ne, fI_wF_nk, aL_wAL_ne, J_sameA, J_sameF, aL_same, Nat.add_left_cancel_iff, Nat.add_eq_left, Nat.left_eq_add, not_false_eq_true, Nat.reduceEqDiff, Nat.reduceAdd, J_add, J_sub, J_mul, J_neg, J_and, J_or, J_xor, J_shl, J_shr, J_div, J_i2b, J_i2l, J_l2i, J_lcm, J_max, J_min, J_nab, J_nao, rdA, rdF, rdL, wA_fold, wF_fold, wL_fold, wC_fold]
    exact w
  · have t3 : fI h 1 6 = 0 := ((Jeq (rg_toInt _) (by decide)).mp (Classical.byContradiction c2))
    replace w := w.2 t3
    refine ⟨(ls46 C_h), _, (lr46_0 C_h), ?_⟩
    refine ⟨(ls1 C_h), ?_⟩
    refine m45 (h := h) (q := 93) C_h (by omega) (by decide) ?_
    refine ⟨_, rfl, ?_⟩
    try simp only [aI_wAL, fI_wAL, aL_wA, aL_wF, aI_wA_ne, aI_wF_ne, fI_wA_ne, fI_wF_ne, fI_wF_nk, aL_wAL_ne, J_sameA, J_sameF, aL_same, Nat.add_left_cancel_iff, Nat.add_eq_left, Nat.left_eq_add, not_false_eq_true, Nat.reduceEqDiff, Nat.reduceAdd, J_add, J_sub, J_mul, J_neg, J_and, J_or, J_xor, J_shl, J_shr, J_div, J_i2b, J_i2l, J_l2i, J_lcm, J_max, J_min, J_nab, J_nao, rdA, rdF, rdL, wA_fold, wF_fold, wL_fold, wC_fold]
    refine ⟨fun c12 => ?_, fun c12 => ?_⟩
    · have t13 : ¬ (fI h 1 2 = 3 ∧ fI h 1 5 = 93) := ((bI0 _).mp c12)
      replace w := w.1 t13
      refine ⟨(ls46 C_h), _, (lr46_0 C_h), ?_⟩
      refine ⟨(ls1 C_h), ?_⟩
      refine Ex.mono w (Nat.le_refl _) ?_
      rintro v15 h16 ⟨rfl, s17, w⟩
      refine ⟨rfl, ?_⟩
      have C_h16 := Lay_SH s17 C_h
      have K_h16_0 := RuleAt_SH s17 K_h_0
      have P_h16 := (congrFun (congrFun s17.2 46) 1).trans P_h
      try simp only [aI_wAL, fI_wAL, aL_wA, aL_wF, aI_wA_ne, aI_wF_ne, fI_wA_ne, fI_wF_ne, fI_wF_nk, aL_wAL_ne, J_sameA, J_sameF, aL_same, Nat.add_left_cancel_iff, Nat.add_eq_left, Nat.left_eq_add, not_false_eq_true, Nat.reduceEqDiff, Nat.reduceAdd, J_add, J_sub, J_mul, J_neg, J_and, J_or, J_xor, J_shl, J_shr, J_div, J_i2b, J_i2l, J_l2i, J_lcm, J_max, J_min, J_nab, J_nao, rdA, rdF, rdL, wA_fold, wF_fold, wL_fold, wC_fold]
      exact w
    · have t13 : (fI h 1 2 = 3 ∧ fI h 1 5 = 93) := (Classical.byContradiction fun n => c12 ((bI0 _).mpr n))
      replace w := w.2 t13
      refine ⟨(ls46 C_h), _, (lr46_0 C_h), ?_⟩
      refine ⟨(ls1 C_h), ?_⟩
      refine Ex.mono w (Nat.le_refl _) ?_
      rintro v19 h20 ⟨rfl, s21, w⟩
      refine ⟨rfl, ?_⟩
      have C_h20 := Lay_SH s21 C_h
      have K_h20_0 := RuleAt_SH s21 K_h_0
      have P_h20 := (congrFun (congrFun s21.2 46) 1).trans P_h
      try simp only [aI_wAL, fI_wAL, aL_wA, aL_wF, aI_wA_ne, aI_wF_ne, fI_wA_ne, fI_wF_ne, fI_wF_nk, aL_wAL_ne, J_sameA, J_sameF, aL_same, Nat.add_left_cancel_iff, Nat.add_eq_left, Nat.left_eq_add, not_false_eq_true, Nat.reduceEqDiff, Nat.reduceAdd, J_add, J_sub, J_mul, J_neg, J_and, J_or, J_xor, J_shl, J_shr, J_div, J_i2b, J_i2l, J_l2i, J_lcm, J_max, J_min, J_nab, J_nao, rdA, rdF, rdL, wA_fold, wF_fold, wL_fold, wC_fold]
      exact w
-- OutwardDoors$RuleReader.maySign(I)Z at 0
set_option maxRecDepth 20000 in
set_option maxHeartbeats 4000000 in
theorem r72_0 {X : Cst} {d : Nat} {x1 : Int} {ru : Nat} {h : AH} {Q : Post} (C_h : Lay h) (K_h_0 : RuleAt h ru) (P_h : hR h 46 1 = some ru)
  (w : (-2147483648 ≤ x1 ∧ x1 < 2147483648) ∧ ((¬ x1 = 0 → ((fI h 46 2 < 60 → ((¬ fI h 1 6 = 0 → Q (some (.int (J 0))) h) ∧ (fI h 1 6 = 0 → Q (some (.int (J 1))) h))) ∧ (¬ fI h 46 2 < 60 → Ex X PG d 32 0 [some (.ref 1), some (.int (J 3))] [] h (fun v10 h11 => v10 = none ∧ SH h h11 ∧ ((¬ fI h11 1 6 = 0 → Q (some (.int (J 0))) h11) ∧ (fI h11 1 6 = 0 → Q (some (.int (J 1))) h11)))))) ∧ (x1 = 0 → Ex X PG d 32 0 [some (.ref 1), some (.int (J 0))] [] h (fun v17 h18 => v17 = none ∧ SH h h18 ∧ ((¬ fI h18 1 6 = 0 → Q (some (.int (J 0))) h18) ∧ (fI h18 1 6 = 0 → Q (some (.int (J 1))) h18)))))) :
    Ex X PG (d + 1) 72 0 [some (.ref 46), some (.int (J x1))] [] h Q := by
  refine wpx_ok (cut := []) 17 d 72 0 _ _ _ _ ?_
  show ((¬ (J x1) = (J 0) → hs h 46 = (0, 5) ∧ (((hF h 46 2) < (J 60) → hs h 46 = (0, 5) ∧ ∃ q6, hR h 46 0 = some q6 ∧ hs h q6 = (0, 8) ∧ ((¬ (hF h q6 6) = (J 0) → (J 0 = J 0 ∨ J 0 = J 1) ∧ Q (some (.int (J 0))) h) ∧ (¬ (¬ (hF h q6 6) = (J 0)) → (J 1 = J 0 ∨ J 1 = J 1) ∧ Q (some (.int (J 1))) h))) ∧ (¬ ((hF h 46 2) < (J 60)) → hs h 46 = (0, 5) ∧ ∃ q9, hR h 46 0 = some q9 ∧ hs h q9 = (0, 8) ∧ Ex X PG d 32 0 [some (.ref q9), some (.int (J 3))] [] h (fun v10 h11 => v10 = none ∧ hs h11 46 = (0, 5) ∧ ∃ q12, hR h11 46 0 = some q12 ∧ hs h11 q12 = (0, 8) ∧ ((¬ (hF h11 q12 6) = (J 0) → (J 0 = J 0 ∨ J 0 = J 1) ∧ Q (some (.int (J 0))) h11) ∧ (¬ (¬ (hF h11 q12 6) = (J 0)) → (J 1 = J 0 ∨ J 1 = J 1) ∧ Q (some (.int (J 1))) h11)))))) ∧ (¬ (¬ (J x1) = (J 0)) → hs h 46 = (0, 5) ∧ ∃ q16, hR h 46 0 = some q16 ∧ hs h q16 = (0, 8) ∧ Ex X PG d 32 0 [some (.ref q16), some (.int (J 0))] [] h (fun v17 h18 => v17 = none ∧ hs h18 46 = (0, 5) ∧ ∃ q19, hR h18 46 0 = some q19 ∧ hs h18 q19 = (0, 8) ∧ ((¬ (hF h18 q19 6) = (J 0) → (J 0 = J 0 ∨ J 0 = J 1) ∧ Q (some (.int (J 0))) h18) ∧ (¬ (¬ (hF h18 q19 6) = (J 0)) → (J 1 = J 0 ∨ J 1 = J 1) ∧ Q (some (.int (J 1))) h18)))))
  try simp only [aI_wAL, fI_wAL, aL_wA, aL_wF, aI_wA_ne, aI_wF_ne, fI_wA_ne, fI_wF_ne, fI_wF_nk, aL_wAL_ne, J_sameA, J_sameF, aL_same, Nat.add_left_cancel_iff, Nat.add_eq_left, Nat.left_eq_add, not_false_eq_true, Nat.reduceEqDiff, Nat.reduceAdd, J_add, J_sub, J_mul, J_neg, J_and, J_or, J_xor, J_shl, J_shr, J_div, J_i2b, J_i2l, J_l2i, J_lcm, J_max, J_min, J_nab, J_nao, rdA, rdF, rdL, wA_fold, wF_fold, wL_fold, wC_fold]
  obtain ⟨k3, w⟩ := w
  refine ⟨fun c1 => ?_, fun c1 => ?_⟩
  · have t2 : ¬ x1 = 0 := (fun e => c1 ((Jeq k3 (by decide)).mpr e))
    replace w := w.1 t2
    refine ⟨(ls46 C_h), ?_⟩
    refine ⟨fun c4 => ?_, fun c4 => ?_⟩
    · have t5 : fI h 46 2 < 60 := ((Jlt (rg_toInt _) (by decide)).mp c4)
      replace w := w.1 t5
      refine ⟨(ls46 C_h), _, (lr46_0 C_h), ?_⟩
      refine ⟨(ls1 C_h), ?_⟩
      refine ⟨fun c7 => ?_, fun c7 => ?_⟩
      · have t8 : ¬ fI h 1 6 = 0 := (fun e => c7 ((Jeq (rg_toInt _) (by decide)).mpr e))
        replace w := w.1 t8
        exact ⟨(Or.inl (by trivial)), w⟩
      · have t8 : fI h 1 6 = 0 := ((Jeq (rg_toInt _) (by decide)).mp (Classical.byContradiction c7))
        replace w := w.2 t8
        exact ⟨(Or.inr (by trivial)), w⟩
    · have t5 : ¬ fI h 46 2 < 60 := (fun e => c4 ((Jlt (rg_toInt _) (by decide)).mpr e))
      replace w := w.2 t5
      refine ⟨(ls46 C_h), _, (lr46_0 C_h), ?_⟩
      refine ⟨(ls1 C_h), ?_⟩
      refine Ex.mono w (Nat.le_refl _) ?_
      rintro v10 h11 ⟨rfl, s15, w⟩
      refine ⟨rfl, ?_⟩
      have C_h11 := Lay_SH s15 C_h
      have K_h11_0 := RuleAt_SH s15 K_h_0
      have P_h11 := (congrFun (congrFun s15.2 46) 1).trans P_h
      try simp only [aI_wAL, fI_wAL, aL_wA, aL_wF, aI_wA_ne, aI_wF_ne, fI_wA_ne, fI_wF_ne, fI_wF_nk, aL_wAL_ne, J_sameA, J_sameF, aL_same, Nat.add_left_cancel_iff, Nat.add_eq_left, Nat.left_eq_add, not_false_eq_true, Nat.reduceEqDiff, Nat.reduceAdd, J_add, J_sub, J_mul, J_neg, J_and, J_or, J_xor, J_shl, J_shr, J_div, J_i2b, J_i2l, J_l2i, J_lcm, J_max, J_min, J_nab, J_nao, rdA, rdF, rdL, wA_fold, wF_fold, wL_fold, wC_fold]
      refine ⟨(ls46 C_h11), _, (lr46_0 C_h11), ?_⟩
      refine ⟨(ls1 C_h11), ?_⟩
      refine ⟨fun c13 => ?_, fun c13 => ?_⟩
      · have t14 : ¬ fI h11 1 6 = 0 := (fun e => c13 ((Jeq (rg_toInt _) (by decide)).mpr e))
        replace w := w.1 t14
        exact ⟨(Or.inl (by trivial)), w⟩
      · have t14 : fI h11 1 6 = 0 := ((Jeq (rg_toInt _) (by decide)).mp (Classical.byContradiction c13))
        replace w := w.2 t14
        exact ⟨(Or.inr (by trivial)), w⟩
  · have t2 : x1 = 0 := ((Jeq k3 (by decide)).mp (Classical.byContradiction c1))
    replace w := w.2 t2
    refine ⟨(ls46 C_h), _, (lr46_0 C_h), ?_⟩
    refine ⟨(ls1 C_h), ?_⟩
    refine Ex.mono w (Nat.le_refl _) ?_
    rintro v17 h18 ⟨rfl, s22, w⟩
    refine ⟨rfl, ?_⟩
    have C_h18 := Lay_SH s22 C_h
    have K_h18_0 := RuleAt_SH s22 K_h_0
    have P_h18 := (congrFun (congrFun s22.2 46) 1).trans P_h
    try simp only [aI_wAL, fI_wAL, aL_wA, aL_wF, aI_wA_ne, aI_wF_ne, fI_wA_ne, fI_wF_ne, fI_wF_nk, aL_wAL_ne, J_sameA, J_sameF, aL_same, Nat.add_left_cancel_iff, Nat.add_eq_left, Nat.left_eq_add, not_false_eq_true, Nat.reduceEqDiff, Nat.reduceAdd, J_add, J_sub, J_mul, J_neg, J_and, J_or, J_xor, J_shl, J_shr, J_div, J_i2b, J_i2l, J_l2i, J_lcm, J_max, J_min, J_nab, J_nao, rdA, rdF, rdL, wA_fold, wF_fold, wL_fold, wC_fold]
    refine ⟨(ls46 C_h18), _, (lr46_0 C_h18), ?_⟩
    refine ⟨(ls1 C_h18), ?_⟩
    refine ⟨fun c20 => ?_, fun c20 => ?_⟩
    · have t21 : ¬ fI h18 1 6 = 0 := (fun e => c20 ((Jeq (rg_toInt _) (by decide)).mpr e))
      replace w := w.1 t21
      exact ⟨(Or.inl (by trivial)), w⟩
    · have t21 : fI h18 1 6 = 0 := ((Jeq (rg_toInt _) (by decide)).mp (Classical.byContradiction c20))
      replace w := w.2 t21
      exact ⟨(Or.inr (by trivial)), w⟩
theorem m72 {X : Cst} {d ru : Nat} {L j p x : Int} {tp : Int → Int} {c : Cd} {h : AH} {Q : Post} (C : Lay h) (K : RuleAt h ru) (P : hR h 46 1 = some ru) (hd : 2 ≤ d) (R : CC h tp L j p c ru) (hx : -2147483648 ≤ x ∧ x < 2147483648) (hp : p ≤ 60) (k1 : ¬ x = 0 → ¬ p = 60 → Q (some (.int (J 1))) h) (k2 : x = 0 → Q (some (.int (J 0))) (wF h 1 6 (1 + 8 * j + 0))) (k3 : ¬ x = 0 → p = 60 → Q (some (.int (J 0))) (wF h 1 6 (1 + 8 * j + 3))) : Ex X PG d 72 0 [some (.ref 46), some (.int (J x))] [] h Q := by
  obtain ⟨d, rfl⟩ : ∃ e, d = e + 1 := ⟨d - 1, by omega⟩
  have tj := R.1.2.2.1
  have tL := R.1.2.1
  have e3 := R.1.2.2.2.1
  have e6 := R.1.2.2.2.2.2.2.2
  refine r72_0 C K P ?_
  rw [R.2.1]
  refine ⟨hx, fun n => ⟨fun lt => ⟨fun z => absurd e6 z, fun _ => k1 n (by omega)⟩, fun lt => ?_⟩, fun y => ?_⟩
  · refine m32 C (by omega) (fun z => absurd e6 z) (fun _ => ?_)
    rw [e3]
    refine ⟨rfl, SH.rf.wF, ?_⟩
    rw [fI_wF_eq (by omega)]
    exact ⟨fun _ => k3 n (by omega), fun z => by omega⟩
  · refine m32 C (by omega) (fun z => absurd e6 z) (fun _ => ?_)
    rw [e3]
    refine ⟨rfl, SH.rf.wF, ?_⟩
    rw [fI_wF_eq (by omega)]
    exact ⟨fun _ => k2 y, fun z => by omega⟩
theorem m72f {X : Cst} {d ru : Nat} {L f x : Int} {tp : Int → Int} {h : AH} {Q : Post} (C : Lay h) (K : RuleAt h ru) (P : hR h 46 1 = some ru) (hd : 2 ≤ d) (R : CFm h tp L f ru) (nf : ¬ f = 0) (hx : -2147483648 ≤ x ∧ x < 2147483648) (k : Q (some (.int (J 0))) h) : Ex X PG d 72 0 [some (.ref 46), some (.int (J x))] [] h Q := by
  obtain ⟨d, rfl⟩ : ∃ e, d = e + 1 := ⟨d - 1, by omega⟩
  obtain ⟨⟨j, T⟩, -⟩ := R
  have e6 := T.2.2.2.2.2.2.2
  have n6 : ¬ fI h 1 6 = 0 := fun z => nf (e6.symm.trans z)
  refine r72_0 C K P ⟨hx, fun n => ⟨fun lt => ⟨fun _ => k, fun z => absurd z n6⟩, fun lt => ?_⟩, fun y => ?_⟩
  · exact m32 C (by omega) (fun _ => ⟨rfl, SH.rf, fun _ => k, fun z => absurd z n6⟩) (fun z => absurd z n6)
  · exact m32 C (by omega) (fun _ => ⟨rfl, SH.rf, fun _ => k, fun z => absurd z n6⟩) (fun z => absurd z n6)
theorem m70 {X : Cst} {d ru : Nat} {L j p : Int} {tp : Int → Int} {c : Cd} {h : AH} {Q : Post} (C : Lay h) (K : RuleAt h ru) (P : hR h 46 1 = some ru) (hd : 3 ≤ d) (R : CC h tp L j p c ru) (k1 : mrk tp L j 93 → ∀ h', Fr TTk h h' → TkC h' tp L (nx tp L j) 0 → Q none h') (k0 : ¬ mrk tp L j 93 → Q none (wF h 1 6 (1 + 8 * j + 0))) : Ex X PG d 70 0 [some (.ref 46)] [] h Q := by
  obtain ⟨d, rfl⟩ : ∃ e, d = e + 1 := ⟨d - 1, by omega⟩
  have e3 := R.1.2.2.2.1
  have e6 := R.1.2.2.2.2.2.2.2
  have i93 := tk_mk (tp := tp) (L := L) (j := j) (c := 93) (by unfold dgP; omega) (by unfold leP; omega) (by omega) (by omega) (by omega)
  refine r70_0 C K P (by omega) ?_
  rw [R.1.2.2.2.2.1, R.1.2.2.2.2.2.2.1]
  refine ⟨fun z => absurd e6 z, fun _ => ⟨fun n => ?_, fun y => ?_⟩⟩
  · refine m32 C (by omega) (fun z => absurd e6 z) (fun _ => ?_)
    rw [e3]
    exact ⟨rfl, SH.rf.wF, k0 (fun z => n (i93.mpr z))⟩
  · exact m24n C (by omega) R.1 (fun h' F T => ⟨rfl, F.1, k1 (i93.mp y) h' F T⟩)
theorem m70f {X : Cst} {d ru : Nat} {L f : Int} {tp : Int → Int} {h : AH} {Q : Post} (C : Lay h) (K : RuleAt h ru) (P : hR h 46 1 = some ru) (hd : 3 ≤ d) (R : CFm h tp L f ru) (nf : ¬ f = 0) (k : Q none h) : Ex X PG d 70 0 [some (.ref 46)] [] h Q := by
  obtain ⟨d, rfl⟩ : ∃ e, d = e + 1 := ⟨d - 1, by omega⟩
  obtain ⟨⟨j, T⟩, -⟩ := R
  have n6 : ¬ fI h 1 6 = 0 := fun z => nf (T.2.2.2.2.2.2.2.symm.trans z)
  refine r70_0 C K P (by omega) ⟨fun _ => ?_, fun z => absurd z n6⟩
  exact m32 C (by omega) (fun _ => ⟨rfl, SH.rf, k⟩) (fun z => absurd z n6)
-- OutwardDoors$RuleReader.readTest(I)V at 0
set_option maxRecDepth 20000 in
set_option maxHeartbeats 4000000 in
theorem r68_0 {X : Cst} {d : Nat} {x1 : Int} {ru : Nat} {h : AH} {Q : Post} (C_h : Lay h) (K_h_0 : RuleAt h ru) (P_h : hR h 46 1 = some ru)
  (w : Ex X PG (d + 1) 68 4 [some (.ref 46), some (.int (J x1)), some (.int (J 1)), some (.int (J 0)), none, none] [] h Q) :
    Ex X PG (d + 1) 68 0 [some (.ref 46), some (.int (J x1)), none, none, none, none] [] h Q := by
  refine wpx_ok (cut := [4, 20]) 4 d 68 0 _ _ _ _ ?_
  show Ex X PG (d + 1) 68 4 [some (.ref 46), some (.int (J x1)), some (.int (J 1)), some (.int (J 0)), none, none] [] h Q
  try simp only [aI_wAL, fI_wAL, aL_wA, aL_wF, aI_wA_ne, aI_wF_ne, fI_wA_ne, fI_wF_ne, fI_wF_nk, aL_wAL_ne, J_sameA, J_sameF, aL_same, Nat.add_left_cancel_iff, Nat.add_eq_left, Nat.left_eq_add, not_false_eq_true, Nat.reduceEqDiff, Nat.reduceAdd, J_add, J_sub, J_mul, J_neg, J_and, J_or, J_xor, J_shl, J_shr, J_div, J_i2b, J_i2l, J_l2i, J_lcm, J_max, J_min, J_nab, J_nao, rdA, rdF, rdL, wA_fold, wF_fold, wL_fold, wC_fold]
  exact w
-- OutwardDoors$RuleReader.readTest(I)V at 4
set_option maxRecDepth 20000 in
set_option maxHeartbeats 4000000 in
theorem r68_4 {X : Cst} {d : Nat} {x1 : Int} {x2 : Int} {x3 : Int} {l4 : Option Value} {l5 : Option Value} {ru : Nat} {h : AH} {Q : Post} (C_h : Lay h) (K_h_0 : RuleAt h ru) (P_h : hR h 46 1 = some ru)
  (w : (-2147483648 ≤ x3 ∧ x3 < 2147483648) ∧ ((60 < x3 → Q none h) ∧ (¬ 60 < x3 → (-2147483648 ≤ x2 ∧ x2 < 2147483648) ∧ ((x2 = 0 → Q none h) ∧ (¬ x2 = 0 → Ex X PG (d + 1) 68 20 [some (.ref 46), some (.int (J x1)), some (.int (J x2)), some (.int (J x3)), some (.int (J 1)), some (.int (J 0))] [] h Q))))) :
    Ex X PG (d + 1) 68 4 [some (.ref 46), some (.int (J x1)), some (.int (J x2)), some (.int (J x3)), l4, l5] [] h Q := by
  refine wpx_ok (cut := [4, 20]) 9 d 68 4 _ _ _ _ ?_
  show (((J 60) < (J x3) → Q none h) ∧ (¬ ((J 60) < (J x3)) → (((J x2) = (J 0) → Q none h) ∧ (¬ ((J x2) = (J 0)) → Ex X PG (d + 1) 68 20 [some (.ref 46), some (.int (J x1)), some (.int (J x2)), some (.int (J x3)), some (.int (J 1)), some (.int (J 0))] [] h Q))))
  try simp only [aI_wAL, fI_wAL, aL_wA, aL_wF, aI_wA_ne, aI_wF_ne, fI_wA_ne, fI_wF_ne, fI_wF_nk, aL_wAL_ne, J_sameA, J_sameF, aL_same, Nat.add_left_cancel_iff, Nat.add_eq_left, Nat.left_eq_add, not_false_eq_true, Nat.reduceEqDiff, Nat.reduceAdd, J_add, J_sub, J_mul, J_neg, J_and, J_or, J_xor, J_shl, J_shr, J_div, J_i2b, J_i2l, J_l2i, J_lcm, J_max, J_min, J_nab, J_nao, rdA, rdF, rdL, wA_fold, wF_fold, wL_fold, wC_fold]
  obtain ⟨k3, w⟩ := w
  refine ⟨fun c1 => ?_, fun c1 => ?_⟩
  · have t2 : 60 < x3 := ((Jlt (by decide) k3).mp c1)
    replace w := w.1 t2
    exact w
  · have t2 : ¬ 60 < x3 := (fun e => c1 ((Jlt (by decide) k3).mpr e))
    replace w := w.2 t2
    obtain ⟨k6, w⟩ := w
    refine ⟨fun c4 => ?_, fun c4 => ?_⟩
    · have t5 : x2 = 0 := ((Jeq k6 (by decide)).mp c4)
      replace w := w.1 t5
      exact w
    · have t5 : ¬ x2 = 0 := (fun e => c4 ((Jeq k6 (by decide)).mpr e))
      replace w := w.2 t5
      exact w
-- OutwardDoors$RuleReader.readTest(I)V at 20
set_option maxRecDepth 20000 in
set_option maxHeartbeats 4000000 in
theorem r68_20 {X : Cst} {d : Nat} {x1 : Int} {x2 : Int} {x3 : Int} {x4 : Int} {x5 : Int} {ru : Nat} {h : AH} {Q : Post} (C_h : Lay h) (K_h_0 : RuleAt h ru) (P_h : hR h 46 1 = some ru)
  (w : (-2147483648 ≤ x5 ∧ x5 < 2147483648) ∧ ((60 < x5 → (-2147483648 ≤ x3 ∧ x3 < 2147483648) ∧ ((x3 ≤ 0 → Ex X PG d 67 0 [some (.ref 46), some (.retAddr 19), none] [] h (fun v7 h8 => ∃ r9 : Int, (-2147483648 ≤ r9 ∧ r9 < 2147483648) ∧ v7 = some (.int (J r9)) ∧ SH h h8 ∧ Ex X PG (d + 1) 68 4 [some (.ref 46), some (.int (J x1)), some (.int (J r9)), some (.int (J (x3 + 1))), some (.int (J x4)), some (.int (J x5))] [] h8 Q)) ∧ (¬ x3 ≤ 0 → Ex X PG d 9 0 [some (.ref ru), some (.int (J 14)), some (.int (J 0))] [] h (fun v12 h13 => v12 = none ∧ SH h h13 ∧ Ex X PG d 67 0 [some (.ref 46), some (.retAddr 19), none] [] h13 (fun v14 h15 => ∃ r16 : Int, (-2147483648 ≤ r16 ∧ r16 < 2147483648) ∧ v14 = some (.int (J r16)) ∧ SH h13 h15 ∧ Ex X PG (d + 1) 68 4 [some (.ref 46), some (.int (J x1)), some (.int (J r16)), some (.int (J (x3 + 1))), some (.int (J x4)), some (.int (J x5))] [] h15 Q))))) ∧ (¬ 60 < x5 → (-2147483648 ≤ x4 ∧ x4 < 2147483648) ∧ ((x4 = 0 → (-2147483648 ≤ x3 ∧ x3 < 2147483648) ∧ ((x3 ≤ 0 → Ex X PG d 67 0 [some (.ref 46), some (.retAddr 19), none] [] h (fun v25 h26 => ∃ r27 : Int, (-2147483648 ≤ r27 ∧ r27 < 2147483648) ∧ v25 = some (.int (J r27)) ∧ SH h h26 ∧ Ex X PG (d + 1) 68 4 [some (.ref 46), some (.int (J x1)), some (.int (J r27)), some (.int (J (x3 + 1))), some (.int (J x4)), some (.int (J x5))] [] h26 Q)) ∧ (¬ x3 ≤ 0 → Ex X PG d 9 0 [some (.ref ru), some (.int (J 14)), some (.int (J 0))] [] h (fun v30 h31 => v30 = none ∧ SH h h31 ∧ Ex X PG d 67 0 [some (.ref 46), some (.retAddr 19), none] [] h31 (fun v32 h33 => ∃ r34 : Int, (-2147483648 ≤ r34 ∧ r34 < 2147483648) ∧ v32 = some (.int (J r34)) ∧ SH h31 h33 ∧ Ex X PG (d + 1) 68 4 [some (.ref 46), some (.int (J x1)), some (.int (J r34)), some (.int (J (x3 + 1))), some (.int (J x4)), some (.int (J x5))] [] h33 Q))))) ∧ (¬ x4 = 0 → Ex X PG d 69 0 [some (.ref 46), some (.int (J x1)), none, none, none] [] h (fun v37 h38 => v37 = none ∧ SH h h38 ∧ ((x5 ≤ 0 → Ex X PG d 67 0 [some (.ref 46), some (.retAddr 18), none] [] h38 (fun v41 h42 => ∃ r43 : Int, (-2147483648 ≤ r43 ∧ r43 < 2147483648) ∧ v41 = some (.int (J r43)) ∧ SH h38 h42 ∧ Ex X PG (d + 1) 68 20 [some (.ref 46), some (.int (J x1)), some (.int (J x2)), some (.int (J x3)), some (.int (J r43)), some (.int (J (x5 + 1)))] [] h42 Q)) ∧ (¬ x5 ≤ 0 → Ex X PG d 9 0 [some (.ref ru), some (.int (J 13)), some (.int (J 0))] [] h38 (fun v46 h47 => v46 = none ∧ SH h38 h47 ∧ Ex X PG d 67 0 [some (.ref 46), some (.retAddr 18), none] [] h47 (fun v48 h49 => ∃ r50 : Int, (-2147483648 ≤ r50 ∧ r50 < 2147483648) ∧ v48 = some (.int (J r50)) ∧ SH h47 h49 ∧ Ex X PG (d + 1) 68 20 [some (.ref 46), some (.int (J x1)), some (.int (J x2)), some (.int (J x3)), some (.int (J r50)), some (.int (J (x5 + 1)))] [] h49 Q)))))))))) :
    Ex X PG (d + 1) 68 20 [some (.ref 46), some (.int (J x1)), some (.int (J x2)), some (.int (J x3)), some (.int (J x4)), some (.int (J x5))] [] h Q := by
  refine wpx_ok (cut := [4, 20]) 21 d 68 20 _ _ _ _ ?_
  show (((J 60) < (J x5) → (((J x3) ≤ (J 0) → hs h 46 = (0, 5) ∧ Ex X PG d 67 0 [some (.ref 46), some (.retAddr 19), none] [] h (fun v7 h8 => ∃ r9, v7 = some (.int r9) ∧ Ex X PG (d + 1) 68 4 [some (.ref 46), some (.int (J x1)), some (.int r9), some (.int ((J x3) + (J 1))), some (.int (J x4)), some (.int (J x5))] [] h8 Q)) ∧ (¬ ((J x3) ≤ (J 0)) → hs h 46 = (0, 5) ∧ ∃ q11, hR h 46 1 = some q11 ∧ hs h q11 = (0, 4) ∧ Ex X PG d 9 0 [some (.ref q11), some (.int (J 14)), some (.int (J 0))] [] h (fun v12 h13 => v12 = none ∧ hs h13 46 = (0, 5) ∧ Ex X PG d 67 0 [some (.ref 46), some (.retAddr 19), none] [] h13 (fun v14 h15 => ∃ r16, v14 = some (.int r16) ∧ Ex X PG (d + 1) 68 4 [some (.ref 46), some (.int (J x1)), some (.int r16), some (.int ((J x3) + (J 1))), some (.int (J x4)), some (.int (J x5))] [] h15 Q))))) ∧ (¬ ((J 60) < (J x5)) → (((J x4) = (J 0) → (((J x3) ≤ (J 0) → hs h 46 = (0, 5) ∧ Ex X PG d 67 0 [some (.ref 46), some (.retAddr 19), none] [] h (fun v25 h26 => ∃ r27, v25 = some (.int r27) ∧ Ex X PG (d + 1) 68 4 [some (.ref 46), some (.int (J x1)), some (.int r27), some (.int ((J x3) + (J 1))), some (.int (J x4)), some (.int (J x5))] [] h26 Q)) ∧ (¬ ((J x3) ≤ (J 0)) → hs h 46 = (0, 5) ∧ ∃ q29, hR h 46 1 = some q29 ∧ hs h q29 = (0, 4) ∧ Ex X PG d 9 0 [some (.ref q29), some (.int (J 14)), some (.int (J 0))] [] h (fun v30 h31 => v30 = none ∧ hs h31 46 = (0, 5) ∧ Ex X PG d 67 0 [some (.ref 46), some (.retAddr 19), none] [] h31 (fun v32 h33 => ∃ r34, v32 = some (.int r34) ∧ Ex X PG (d + 1) 68 4 [some (.ref 46), some (.int (J x1)), some (.int r34), some (.int ((J x3) + (J 1))), some (.int (J x4)), some (.int (J x5))] [] h33 Q))))) ∧ (¬ ((J x4) = (J 0)) → hs h 46 = (0, 5) ∧ Ex X PG d 69 0 [some (.ref 46), some (.int (J x1)), none, none, none] [] h (fun v37 h38 => v37 = none ∧ (((J x5) ≤ (J 0) → hs h38 46 = (0, 5) ∧ Ex X PG d 67 0 [some (.ref 46), some (.retAddr 18), none] [] h38 (fun v41 h42 => ∃ r43, v41 = some (.int r43) ∧ Ex X PG (d + 1) 68 20 [some (.ref 46), some (.int (J x1)), some (.int (J x2)), some (.int (J x3)), some (.int r43), some (.int ((J x5) + (J 1)))] [] h42 Q)) ∧ (¬ ((J x5) ≤ (J 0)) → hs h38 46 = (0, 5) ∧ ∃ q45, hR h38 46 1 = some q45 ∧ hs h38 q45 = (0, 4) ∧ Ex X PG d 9 0 [some (.ref q45), some (.int (J 13)), some (.int (J 0))] [] h38 (fun v46 h47 => v46 = none ∧ hs h47 46 = (0, 5) ∧ Ex X PG d 67 0 [some (.ref 46), some (.retAddr 18), none] [] h47 (fun v48 h49 => ∃ r50, v48 = some (.int r50) ∧ Ex X PG (d + 1) 68 20 [some (.ref 46), some (.int (J x1)), some (.int (J x2)), some (.int (J x3)), some (.int r50), some (.int ((J x5) + (J 1)))] [] h49 Q)))))))))
  try simp only [aI_wAL, fI_wAL, aL_wA, aL_wF, aI_wA_ne, aI_wF_ne, fI_wA_ne, fI_wF_ne, fI_wF_nk, aL_wAL_ne, J_sameA, J_sameF, aL_same, Nat.add_left_cancel_iff, Nat.add_eq_left, Nat.left_eq_add, not_false_eq_true, Nat.reduceEqDiff, Nat.reduceAdd, J_add, J_sub, J_mul, J_neg, J_and, J_or, J_xor, J_shl, J_shr, J_div, J_i2b, J_i2l, J_l2i, J_lcm, J_max, J_min, J_nab, J_nao, rdA, rdF, rdL, wA_fold, wF_fold, wL_fold, wC_fold]
  obtain ⟨k3, w⟩ := w
  refine ⟨fun c1 => ?_, fun c1 => ?_⟩
  · have t2 : 60 < x5 := ((Jlt (by decide) k3).mp c1)
    replace w := w.1 t2
    obtain ⟨k6, w⟩ := w
    refine ⟨fun c4 => ?_, fun c4 => ?_⟩
    · have t5 : x3 ≤ 0 := ((Jle k6 (by decide)).mp c4)
      replace w := w.1 t5
      refine ⟨(ls46 C_h), ?_⟩
      refine Ex.mono w (Nat.le_refl _) ?_
      rintro v7 h8 ⟨r9, gr9, rfl, s10, w⟩
      refine ⟨_, rfl, ?_⟩
      have C_h8 := Lay_SH s10 C_h
      have K_h8_0 := RuleAt_SH s10 K_h_0
      have P_h8 := (congrFun (congrFun s10.2 46) 1).trans P_h
      try simp only [aI_wAL, fI_wAL, aL_wA, aL_wF, aI_wA_ne, aI_wF_ne, fI_wA_ne, fI_wF_ne, fI_wF_nk, aL_wAL_ne, J_sameA, J_sameF, aL_same, Nat.add_left_cancel_iff, Nat.add_eq_left, Nat.left_eq_add, not_false_eq_true, Nat.reduceEqDiff, Nat.reduceAdd, J_add, J_sub, J_mul, J_neg, J_and, J_or, J_xor, J_shl, J_shr, J_div, J_i2b, J_i2l, J_l2i, J_lcm, J_max, J_min, J_nab, J_nao, rdA, rdF, rdL, wA_fold, wF_fold, wL_fold, wC_fold]
      exact w
    · have t5 : ¬ x3 ≤ 0 := (fun e => c4 ((Jle k6 (by decide)).mpr e))
      replace w := w.2 t5
      refine ⟨(ls46 C_h), _, P_h, ?_⟩
      refine ⟨(rule_0 K_h_0), ?_⟩
      refine Ex.mono w (Nat.le_refl _) ?_
      rintro v12 h13 ⟨rfl, s18, w⟩
      refine ⟨rfl, ?_⟩
      have C_h13 := Lay_SH s18 C_h
      have K_h13_0 := RuleAt_SH s18 K_h_0
      have P_h13 := (congrFun (congrFun s18.2 46) 1).trans P_h
      try simp only [aI_wAL, fI_wAL, aL_wA, aL_wF, aI_wA_ne, aI_wF_ne, fI_wA_ne, fI_wF_ne, fI_wF_nk, aL_wAL_ne, J_sameA, J_sameF, aL_same, Nat.add_left_cancel_iff, Nat.add_eq_left, Nat.left_eq_add, not_false_eq_true, Nat.reduceEqDiff, Nat.reduceAdd, J_add, J_sub, J_mul, J_neg, J_and, J_or, J_xor, J_shl, J_shr, J_div, J_i2b, J_i2l, J_l2i, J_lcm, J_max, J_min, J_nab, J_nao, rdA, rdF, rdL, wA_fold, wF_fold, wL_fold, wC_fold]
      refine ⟨(ls46 C_h13), ?_⟩
      refine Ex.mono w (Nat.le_refl _) ?_
      rintro v14 h15 ⟨r16, gr16, rfl, s17, w⟩
      refine ⟨_, rfl, ?_⟩
      have C_h15 := Lay_SH s17 C_h13
      have K_h15_0 := RuleAt_SH s17 K_h13_0
      have P_h15 := (congrFun (congrFun s17.2 46) 1).trans P_h13
      try simp only [aI_wAL, fI_wAL, aL_wA, aL_wF, aI_wA_ne, aI_wF_ne, fI_wA_ne, fI_wF_ne, fI_wF_nk, aL_wAL_ne, J_sameA, J_sameF, aL_same, Nat.add_left_cancel_iff, Nat.add_eq_left, Nat.left_eq_add, not_false_eq_true, Nat.reduceEqDiff, Nat.reduceAdd, J_add, J_sub, J_mul, J_neg, J_and, J_or, J_xor, J_shl, J_shr, J_div, J_i2b, J_i2l, J_l2i, J_lcm, J_max, J_min, J_nab, J_nao, rdA, rdF, rdL, wA_fold, wF_fold, wL_fold, wC_fold]
      exact w
  · have t2 : ¬ 60 < x5 := (fun e => c1 ((Jlt (by decide) k3).mpr e))
    replace w := w.2 t2
    obtain ⟨k21, w⟩ := w
    refine ⟨fun c19 => ?_, fun c19 => ?_⟩
    · have t20 : x4 = 0 := ((Jeq k21 (by decide)).mp c19)
      replace w := w.1 t20
      obtain ⟨k24, w⟩ := w
      refine ⟨fun c22 => ?_, fun c22 => ?_⟩
      · have t23 : x3 ≤ 0 := ((Jle k24 (by decide)).mp c22)
        replace w := w.1 t23
        refine ⟨(ls46 C_h), ?_⟩
        refine Ex.mono w (Nat.le_refl _) ?_
        rintro v25 h26 ⟨r27, gr27, rfl, s28, w⟩
        refine ⟨_, rfl, ?_⟩
        have C_h26 := Lay_SH s28 C_h
        have K_h26_0 := RuleAt_SH s28 K_h_0
        have P_h26 := (congrFun (congrFun s28.2 46) 1).trans P_h
        try simp only [aI_wAL, fI_wAL, aL_wA, aL_wF, aI_wA_ne, aI_wF_ne, fI_wA_ne, fI_wF_ne, fI_wF_nk, aL_wAL_ne, J_sameA, J_sameF, aL_same, Nat.add_left_cancel_iff, Nat.add_eq_left, Nat.left_eq_add, not_false_eq_true, Nat.reduceEqDiff, Nat.reduceAdd, J_add, J_sub, J_mul, J_neg, J_and, J_or, J_xor, J_shl, J_shr, J_div, J_i2b, J_i2l, J_l2i, J_lcm, J_max, J_min, J_nab, J_nao, rdA, rdF, rdL, wA_fold, wF_fold, wL_fold, wC_fold]
        exact w
      · have t23 : ¬ x3 ≤ 0 := (fun e => c22 ((Jle k24 (by decide)).mpr e))
        replace w := w.2 t23
        refine ⟨(ls46 C_h), _, P_h, ?_⟩
        refine ⟨(rule_0 K_h_0), ?_⟩
        refine Ex.mono w (Nat.le_refl _) ?_
        rintro v30 h31 ⟨rfl, s36, w⟩
        refine ⟨rfl, ?_⟩
        have C_h31 := Lay_SH s36 C_h
        have K_h31_0 := RuleAt_SH s36 K_h_0
        have P_h31 := (congrFun (congrFun s36.2 46) 1).trans P_h
        try simp only [aI_wAL, fI_wAL, aL_wA, aL_wF, aI_wA_ne, aI_wF_ne, fI_wA_ne, fI_wF_ne, fI_wF_nk, aL_wAL_ne, J_sameA, J_sameF, aL_same, Nat.add_left_cancel_iff, Nat.add_eq_left, Nat.left_eq_add, not_false_eq_true, Nat.reduceEqDiff, Nat.reduceAdd, J_add, J_sub, J_mul, J_neg, J_and, J_or, J_xor, J_shl, J_shr, J_div, J_i2b, J_i2l, J_l2i, J_lcm, J_max, J_min, J_nab, J_nao, rdA, rdF, rdL, wA_fold, wF_fold, wL_fold, wC_fold]
        refine ⟨(ls46 C_h31), ?_⟩
        refine Ex.mono w (Nat.le_refl _) ?_
        rintro v32 h33 ⟨r34, gr34, rfl, s35, w⟩
        refine ⟨_, rfl, ?_⟩
        have C_h33 := Lay_SH s35 C_h31
        have K_h33_0 := RuleAt_SH s35 K_h31_0
        have P_h33 := (congrFun (congrFun s35.2 46) 1).trans P_h31
        try simp only [aI_wAL, fI_wAL, aL_wA, aL_wF, aI_wA_ne, aI_wF_ne, fI_wA_ne, fI_wF_ne, fI_wF_nk, aL_wAL_ne, J_sameA, J_sameF, aL_same, Nat.add_left_cancel_iff, Nat.add_eq_left, Nat.left_eq_add, not_false_eq_true, Nat.reduceEqDiff, Nat.reduceAdd, J_add, J_sub, J_mul, J_neg, J_and, J_or, J_xor, J_shl, J_shr, J_div, J_i2b, J_i2l, J_l2i, J_lcm, J_max, J_min, J_nab, J_nao, rdA, rdF, rdL, wA_fold, wF_fold, wL_fold, wC_fold]
        exact w
    · have t20 : ¬ x4 = 0 := (fun e => c19 ((Jeq k21 (by decide)).mpr e))
      replace w := w.2 t20
      refine ⟨(ls46 C_h), ?_⟩
      refine Ex.mono w (Nat.le_refl _) ?_
      rintro v37 h38 ⟨rfl, s53, w⟩
      refine ⟨rfl, ?_⟩
      have C_h38 := Lay_SH s53 C_h
      have K_h38_0 := RuleAt_SH s53 K_h_0
      have P_h38 := (congrFun (congrFun s53.2 46) 1).trans P_h
      try simp only [aI_wAL, fI_wAL, aL_wA, aL_wF, aI_wA_ne, aI_wF_ne, fI_wA_ne, fI_wF_ne, fI_wF_nk, aL_wAL_ne, J_sameA, J_sameF, aL_same, Nat.add_left_cancel_iff, Nat.add_eq_left, Nat.left_eq_add, not_false_eq_true, Nat.reduceEqDiff, Nat.reduceAdd, J_add, J_sub, J_mul, J_neg, J_and, J_or, J_xor, J_shl, J_shr, J_div, J_i2b, J_i2l, J_l2i, J_lcm, J_max, J_min, J_nab, J_nao, rdA, rdF, rdL, wA_fold, wF_fold, wL_fold, wC_fold]
      refine ⟨fun c39 => ?_, fun c39 => ?_⟩
      · have t40 : x5 ≤ 0 := ((Jle k3 (by decide)).mp c39)
        replace w := w.1 t40
        refine ⟨(ls46 C_h38), ?_⟩
        refine Ex.mono w (Nat.le_refl _) ?_
        rintro v41 h42 ⟨r43, gr43, rfl, s44, w⟩
        refine ⟨_, rfl, ?_⟩
        have C_h42 := Lay_SH s44 C_h38
        have K_h42_0 := RuleAt_SH s44 K_h38_0
        have P_h42 := (congrFun (congrFun s44.2 46) 1).trans P_h38
        try simp only [aI_wAL, fI_wAL, aL_wA, aL_wF, aI_wA_ne, aI_wF_ne, fI_wA_ne, fI_wF_ne, fI_wF_nk, aL_wAL_ne, J_sameA, J_sameF, aL_same, Nat.add_left_cancel_iff, Nat.add_eq_left, Nat.left_eq_add, not_false_eq_true, Nat.reduceEqDiff, Nat.reduceAdd, J_add, J_sub, J_mul, J_neg, J_and, J_or, J_xor, J_shl, J_shr, J_div, J_i2b, J_i2l, J_l2i, J_lcm, J_max, J_min, J_nab, J_nao, rdA, rdF, rdL, wA_fold, wF_fold, wL_fold, wC_fold]
        exact w
      · have t40 : ¬ x5 ≤ 0 := (fun e => c39 ((Jle k3 (by decide)).mpr e))
        replace w := w.2 t40
        refine ⟨(ls46 C_h38), _, P_h38, ?_⟩
        refine ⟨(rule_0 K_h38_0), ?_⟩
        refine Ex.mono w (Nat.le_refl _) ?_
        rintro v46 h47 ⟨rfl, s52, w⟩
        refine ⟨rfl, ?_⟩
        have C_h47 := Lay_SH s52 C_h38
        have K_h47_0 := RuleAt_SH s52 K_h38_0
        have P_h47 := (congrFun (congrFun s52.2 46) 1).trans P_h38
        try simp only [aI_wAL, fI_wAL, aL_wA, aL_wF, aI_wA_ne, aI_wF_ne, fI_wA_ne, fI_wF_ne, fI_wF_nk, aL_wAL_ne, J_sameA, J_sameF, aL_same, Nat.add_left_cancel_iff, Nat.add_eq_left, Nat.left_eq_add, not_false_eq_true, Nat.reduceEqDiff, Nat.reduceAdd, J_add, J_sub, J_mul, J_neg, J_and, J_or, J_xor, J_shl, J_shr, J_div, J_i2b, J_i2l, J_l2i, J_lcm, J_max, J_min, J_nab, J_nao, rdA, rdF, rdL, wA_fold, wF_fold, wL_fold, wC_fold]
        refine ⟨(ls46 C_h47), ?_⟩
        refine Ex.mono w (Nat.le_refl _) ?_
        rintro v48 h49 ⟨r50, gr50, rfl, s51, w⟩
        refine ⟨_, rfl, ?_⟩
        have C_h49 := Lay_SH s51 C_h47
        have K_h49_0 := RuleAt_SH s51 K_h47_0
        have P_h49 := (congrFun (congrFun s51.2 46) 1).trans P_h47
        try simp only [aI_wAL, fI_wAL, aL_wA, aL_wF, aI_wA_ne, aI_wF_ne, fI_wA_ne, fI_wF_ne, fI_wF_nk, aL_wAL_ne, J_sameA, J_sameF, aL_same, Nat.add_left_cancel_iff, Nat.add_eq_left, Nat.left_eq_add, not_false_eq_true, Nat.reduceEqDiff, Nat.reduceAdd, J_add, J_sub, J_mul, J_neg, J_and, J_or, J_xor, J_shl, J_shr, J_div, J_i2b, J_i2l, J_l2i, J_lcm, J_max, J_min, J_nab, J_nao, rdA, rdF, rdL, wA_fold, wF_fold, wL_fold, wC_fold]
        exact w
-- OutwardDoors$RuleReader.readFact(I)V at 0
set_option maxRecDepth 20000 in
set_option maxHeartbeats 4000000 in
theorem r69_0 {X : Cst} {d : Nat} {x1 : Int} {ru : Nat} {h : AH} {Q : Post} (C_h : Lay h) (K_h_0 : RuleAt h ru) (P_h : hR h 46 1 = some ru) (hd : 1 ≤ d)
  (w : Ex X PG d 31 0 [some (.ref 1), some (.retAddr 17), none] [] h (fun v2 h3 => ∃ r4 : Int, (-2147483648 ≤ r4 ∧ r4 < 2147483648) ∧ v2 = some (.int (J r4)) ∧ SH h h3 ∧ ((¬ r4 = 0 → (-2147483648 ≤ x1 ∧ x1 < 2147483648) ∧ ((x1 < 10 → Ex X PG d 24 0 [some (.ref 1), none] [] h3 (fun v94 h95 => v94 = none ∧ SH h3 h95 ∧ Ex X PG d 69 0 [some (.ref 46), some (.int (J (x1 + 1))), none, none, none] [] h95 (fun v96 h97 => v96 = none ∧ SH h95 h97 ∧ Ex X PG d 9 0 [some (.ref ru), some (.int (J 15)), some (.int (J 0))] [] h97 (fun v99 h100 => v99 = none ∧ SH h97 h100 ∧ Q none h100)))) ∧ (¬ x1 < 10 → Ex X PG d 32 0 [some (.ref 1), some (.int (J 2))] [] h3 (fun v105 h106 => v105 = none ∧ SH h3 h106 ∧ Q none h106)))) ∧ (r4 = 0 → ((¬ (fI h3 1 2 = 3 ∧ fI h3 1 5 = 91) → Ex X PG d 60 0 [some (.ref 46), none, none, none, none, none, none] [] h3 (fun v116 h117 => v116 = none ∧ SH h3 h117 ∧ Ex X PG d 71 0 [some (.ref 46), none] [] h117 (fun v118 h119 => ∃ r120 : Int, (-2147483648 ≤ r120 ∧ r120 < 2147483648) ∧ v118 = some (.int (J r120)) ∧ SH h117 h119 ∧ Ex X PG d 72 0 [some (.ref 46), some (.int (J r120))] [] h119 (fun v121 h122 => ∃ r123 : Int, (-2147483648 ≤ r123 ∧ r123 < 2147483648) ∧ v121 = some (.int (J r123)) ∧ SH h119 h122 ∧ ((r123 = 0 → Q none h122) ∧ (¬ r123 = 0 → Ex X PG d 24 0 [some (.ref 1), none] [] (wF h122 46 2 ((fI h122 46 2) + 1)) (fun v127 h128 => v127 = none ∧ SH (wF h122 46 2 ((fI h122 46 2) + 1)) h128 ∧ Ex X PG d 60 0 [some (.ref 46), none, none, none, none, none, none] [] h128 (fun v129 h130 => v129 = none ∧ SH h128 h130 ∧ Ex X PG d 9 0 [some (.ref ru), some (.int (J r120)), some (.int (J 0))] [] h130 (fun v132 h133 => v132 = none ∧ SH h130 h133 ∧ Q none h133))))))))) ∧ ((fI h3 1 2 = 3 ∧ fI h3 1 5 = 91) → (-2147483648 ≤ x1 ∧ x1 < 2147483648) ∧ ((x1 < 10 → Ex X PG d 24 0 [some (.ref 1), none] [] h3 (fun v292 h293 => v292 = none ∧ SH h3 h293 ∧ Ex X PG d 68 0 [some (.ref 46), some (.int (J (x1 + 1))), none, none, none, none] [] h293 (fun v294 h295 => v294 = none ∧ SH h293 h295 ∧ Ex X PG d 70 0 [some (.ref 46)] [] h295 (fun v296 h297 => v296 = none ∧ SH h295 h297 ∧ Q none h297)))) ∧ (¬ x1 < 10 → Ex X PG d 32 0 [some (.ref 1), some (.int (J 2))] [] h3 (fun v313 h314 => v313 = none ∧ SH h3 h314 ∧ Q none h314))))))))) :
    Ex X PG (d + 1) 69 0 [some (.ref 46), some (.int (J x1)), none, none, none] [] h Q := by
  refine wpx_ok (cut := []) 50 d 69 0 _ _ _ _ ?_
  show hs h 46 = (0, 5) ∧ ∃ q1, hR h 46 0 = some q1 ∧ hs h q1 = (0, 8) ∧ Ex X PG d 31 0 [some (.ref q1), some (.retAddr 17), none] [] h (fun v2 h3 => ∃ r4, v2 = some (.int r4) ∧ ((¬ r4 = (J 0) → (((J 1) = (J 0) → ((r4 = (J 0) → (((J 1) = (J 0) → hs h3 46 = (0, 5) ∧ Ex X PG d 60 0 [some (.ref 46), none, none, none, none, none, none] [] h3 (fun v9 h10 => v9 = none ∧ hs h10 46 = (0, 5) ∧ Ex X PG d 71 0 [some (.ref 46), none] [] h10 (fun v11 h12 => ∃ r13, v11 = some (.int r13) ∧ hs h12 46 = (0, 5) ∧ Ex X PG d 72 0 [some (.ref 46), some (.int r13)] [] h12 (fun v14 h15 => ∃ r16, v14 = some (.int r16) ∧ ((r16 = (J 0) → Q none h15) ∧ (¬ (r16 = (J 0)) → hs h15 46 = (0, 5) ∧ hs h15 46 = (0, 5) ∧ hs (wG h15 46 2 ((hF h15 46 2) + (J 1))) 46 = (0, 5) ∧ ∃ q19, hR (wG h15 46 2 ((hF h15 46 2) + (J 1))) 46 0 = some q19 ∧ hs (wG h15 46 2 ((hF h15 46 2) + (J 1))) q19 = (0, 8) ∧ Ex X PG d 24 0 [some (.ref q19), none] [] (wG h15 46 2 ((hF h15 46 2) + (J 1))) (fun v20 h21 => v20 = none ∧ hs h21 46 = (0, 5) ∧ Ex X PG d 60 0 [some (.ref 46), none, none, none, none, none, none] [] h21 (fun v22 h23 => v22 = none ∧ hs h23 46 = (0, 5) ∧ ∃ q24, hR h23 46 1 = some q24 ∧ hs h23 q24 = (0, 4) ∧ Ex X PG d 9 0 [some (.ref q24), some (.int r13), some (.int (J 0))] [] h23 (fun v25 h26 => v25 = none ∧ Q none h26))))))))) ∧ (¬ ((J 1) = (J 0)) → hs h3 46 = (0, 5) ∧ ∃ q33, hR h3 46 0 = some q33 ∧ hs h3 q33 = (0, 8) ∧ Ex X PG d 24 0 [some (.ref q33), none] [] h3 (fun v34 h35 => v34 = none ∧ hs h35 46 = (0, 5) ∧ Ex X PG d 68 0 [some (.ref 46), some (.int ((J x1) + (J 1))), none, none, none, none] [] h35 (fun v36 h37 => v36 = none ∧ hs h37 46 = (0, 5) ∧ Ex X PG d 70 0 [some (.ref 46)] [] h37 (fun v38 h39 => v38 = none ∧ Q none h39)))))) ∧ (¬ (r4 = (J 0)) → hs h3 46 = (0, 5) ∧ ∃ q43, hR h3 46 0 = some q43 ∧ hs h3 q43 = (0, 8) ∧ Ex X PG d 24 0 [some (.ref q43), none] [] h3 (fun v44 h45 => v44 = none ∧ hs h45 46 = (0, 5) ∧ Ex X PG d 69 0 [some (.ref 46), some (.int ((J x1) + (J 1))), none, none, none] [] h45 (fun v46 h47 => v46 = none ∧ hs h47 46 = (0, 5) ∧ ∃ q48, hR h47 46 1 = some q48 ∧ hs h47 q48 = (0, 4) ∧ Ex X PG d 9 0 [some (.ref q48), some (.int (J 15)), some (.int (J 0))] [] h47 (fun v49 h50 => v49 = none ∧ Q none h50)))))) ∧ (¬ ((J 1) = (J 0)) → (((J x1) < (J 10) → ((r4 = (J 0) → (((J 1) = (J 0) → hs h3 46 = (0, 5) ∧ Ex X PG d 60 0 [some (.ref 46), none, none, none, none, none, none] [] h3 (fun v59 h60 => v59 = none ∧ hs h60 46 = (0, 5) ∧ Ex X PG d 71 0 [some (.ref 46), none] [] h60 (fun v61 h62 => ∃ r63, v61 = some (.int r63) ∧ hs h62 46 = (0, 5) ∧ Ex X PG d 72 0 [some (.ref 46), some (.int r63)] [] h62 (fun v64 h65 => ∃ r66, v64 = some (.int r66) ∧ ((r66 = (J 0) → Q none h65) ∧ (¬ (r66 = (J 0)) → hs h65 46 = (0, 5) ∧ hs h65 46 = (0, 5) ∧ hs (wG h65 46 2 ((hF h65 46 2) + (J 1))) 46 = (0, 5) ∧ ∃ q69, hR (wG h65 46 2 ((hF h65 46 2) + (J 1))) 46 0 = some q69 ∧ hs (wG h65 46 2 ((hF h65 46 2) + (J 1))) q69 = (0, 8) ∧ Ex X PG d 24 0 [some (.ref q69), none] [] (wG h65 46 2 ((hF h65 46 2) + (J 1))) (fun v70 h71 => v70 = none ∧ hs h71 46 = (0, 5) ∧ Ex X PG d 60 0 [some (.ref 46), none, none, none, none, none, none] [] h71 (fun v72 h73 => v72 = none ∧ hs h73 46 = (0, 5) ∧ ∃ q74, hR h73 46 1 = some q74 ∧ hs h73 q74 = (0, 4) ∧ Ex X PG d 9 0 [some (.ref q74), some (.int r63), some (.int (J 0))] [] h73 (fun v75 h76 => v75 = none ∧ Q none h76))))))))) ∧ (¬ ((J 1) = (J 0)) → hs h3 46 = (0, 5) ∧ ∃ q83, hR h3 46 0 = some q83 ∧ hs h3 q83 = (0, 8) ∧ Ex X PG d 24 0 [some (.ref q83), none] [] h3 (fun v84 h85 => v84 = none ∧ hs h85 46 = (0, 5) ∧ Ex X PG d 68 0 [some (.ref 46), some (.int ((J x1) + (J 1))), none, none, none, none] [] h85 (fun v86 h87 => v86 = none ∧ hs h87 46 = (0, 5) ∧ Ex X PG d 70 0 [some (.ref 46)] [] h87 (fun v88 h89 => v88 = none ∧ Q none h89)))))) ∧ (¬ (r4 = (J 0)) → hs h3 46 = (0, 5) ∧ ∃ q93, hR h3 46 0 = some q93 ∧ hs h3 q93 = (0, 8) ∧ Ex X PG d 24 0 [some (.ref q93), none] [] h3 (fun v94 h95 => v94 = none ∧ hs h95 46 = (0, 5) ∧ Ex X PG d 69 0 [some (.ref 46), some (.int ((J x1) + (J 1))), none, none, none] [] h95 (fun v96 h97 => v96 = none ∧ hs h97 46 = (0, 5) ∧ ∃ q98, hR h97 46 1 = some q98 ∧ hs h97 q98 = (0, 4) ∧ Ex X PG d 9 0 [some (.ref q98), some (.int (J 15)), some (.int (J 0))] [] h97 (fun v99 h100 => v99 = none ∧ Q none h100)))))) ∧ (¬ ((J x1) < (J 10)) → hs h3 46 = (0, 5) ∧ ∃ q104, hR h3 46 0 = some q104 ∧ hs h3 q104 = (0, 8) ∧ Ex X PG d 32 0 [some (.ref q104), some (.int (J 2))] [] h3 (fun v105 h106 => v105 = none ∧ Q none h106)))))) ∧ (¬ (¬ r4 = (J 0)) → hs h3 46 = (0, 5) ∧ ∃ q108, hR h3 46 0 = some q108 ∧ hs h3 q108 = (0, 8) ∧ Ex X PG d 45 0 [some (.ref q108), some (.int (J 91))] [] h3 (fun v109 h110 => ∃ r111, v109 = some (.int r111) ∧ ((r111 = (J 0) → (((J 0) = (J 0) → ((r4 = (J 0) → (((J 0) = (J 0) → hs h110 46 = (0, 5) ∧ Ex X PG d 60 0 [some (.ref 46), none, none, none, none, none, none] [] h110 (fun v116 h117 => v116 = none ∧ hs h117 46 = (0, 5) ∧ Ex X PG d 71 0 [some (.ref 46), none] [] h117 (fun v118 h119 => ∃ r120, v118 = some (.int r120) ∧ hs h119 46 = (0, 5) ∧ Ex X PG d 72 0 [some (.ref 46), some (.int r120)] [] h119 (fun v121 h122 => ∃ r123, v121 = some (.int r123) ∧ ((r123 = (J 0) → Q none h122) ∧ (¬ (r123 = (J 0)) → hs h122 46 = (0, 5) ∧ hs h122 46 = (0, 5) ∧ hs (wG h122 46 2 ((hF h122 46 2) + (J 1))) 46 = (0, 5) ∧ ∃ q126, hR (wG h122 46 2 ((hF h122 46 2) + (J 1))) 46 0 = some q126 ∧ hs (wG h122 46 2 ((hF h122 46 2) + (J 1))) q126 = (0, 8) ∧ Ex X PG d 24 0 [some (.ref q126), none] [] (wG h122 46 2 ((hF h122 46 2) + (J 1))) (fun v127 h128 => v127 = none ∧ hs h128 46 = (0, 5) ∧ Ex X PG d 60 0 [some (.ref 46), none, none, none, none, none, none] [] h128 (fun v129 h130 => v129 = none ∧ hs h130 46 = (0, 5) ∧ ∃ q131, hR h130 46 1 = some q131 ∧ hs h130 q131 = (0, 4) ∧ Ex X PG d 9 0 [some (.ref q131), some (.int r120), some (.int (J 0))] [] h130 (fun v132 h133 => v132 = none ∧ Q none h133))))))))) ∧ (¬ ((J 0) = (J 0)) → hs h110 46 = (0, 5) ∧ ∃ q140, hR h110 46 0 = some q140 ∧ hs h110 q140 = (0, 8) ∧ Ex X PG d 24 0 [some (.ref q140), none] [] h110 (fun v141 h142 => v141 = none ∧ hs h142 46 = (0, 5) ∧ Ex X PG d 68 0 [some (.ref 46), some (.int ((J x1) + (J 1))), none, none, none, none] [] h142 (fun v143 h144 => v143 = none ∧ hs h144 46 = (0, 5) ∧ Ex X PG d 70 0 [some (.ref 46)] [] h144 (fun v145 h146 => v145 = none ∧ Q none h146)))))) ∧ (¬ (r4 = (J 0)) → hs h110 46 = (0, 5) ∧ ∃ q150, hR h110 46 0 = some q150 ∧ hs h110 q150 = (0, 8) ∧ Ex X PG d 24 0 [some (.ref q150), none] [] h110 (fun v151 h152 => v151 = none ∧ hs h152 46 = (0, 5) ∧ Ex X PG d 69 0 [some (.ref 46), some (.int ((J x1) + (J 1))), none, none, none] [] h152 (fun v153 h154 => v153 = none ∧ hs h154 46 = (0, 5) ∧ ∃ q155, hR h154 46 1 = some q155 ∧ hs h154 q155 = (0, 4) ∧ Ex X PG d 9 0 [some (.ref q155), some (.int (J 15)), some (.int (J 0))] [] h154 (fun v156 h157 => v156 = none ∧ Q none h157)))))) ∧ (¬ ((J 0) = (J 0)) → (((J x1) < (J 10) → ((r4 = (J 0) → (((J 0) = (J 0) → hs h110 46 = (0, 5) ∧ Ex X PG d 60 0 [some (.ref 46), none, none, none, none, none, none] [] h110 (fun v166 h167 => v166 = none ∧ hs h167 46 = (0, 5) ∧ Ex X PG d 71 0 [some (.ref 46), none] [] h167 (fun v168 h169 => ∃ r170, v168 = some (.int r170) ∧ hs h169 46 = (0, 5) ∧ Ex X PG d 72 0 [some (.ref 46), some (.int r170)] [] h169 (fun v171 h172 => ∃ r173, v171 = some (.int r173) ∧ ((r173 = (J 0) → Q none h172) ∧ (¬ (r173 = (J 0)) → hs h172 46 = (0, 5) ∧ hs h172 46 = (0, 5) ∧ hs (wG h172 46 2 ((hF h172 46 2) + (J 1))) 46 = (0, 5) ∧ ∃ q176, hR (wG h172 46 2 ((hF h172 46 2) + (J 1))) 46 0 = some q176 ∧ hs (wG h172 46 2 ((hF h172 46 2) + (J 1))) q176 = (0, 8) ∧ Ex X PG d 24 0 [some (.ref q176), none] [] (wG h172 46 2 ((hF h172 46 2) + (J 1))) (fun v177 h178 => v177 = none ∧ hs h178 46 = (0, 5) ∧ Ex X PG d 60 0 [some (.ref 46), none, none, none, none, none, none] [] h178 (fun v179 h180 => v179 = none ∧ hs h180 46 = (0, 5) ∧ ∃ q181, hR h180 46 1 = some q181 ∧ hs h180 q181 = (0, 4) ∧ Ex X PG d 9 0 [some (.ref q181), some (.int r170), some (.int (J 0))] [] h180 (fun v182 h183 => v182 = none ∧ Q none h183))))))))) ∧ (¬ ((J 0) = (J 0)) → hs h110 46 = (0, 5) ∧ ∃ q190, hR h110 46 0 = some q190 ∧ hs h110 q190 = (0, 8) ∧ Ex X PG d 24 0 [some (.ref q190), none] [] h110 (fun v191 h192 => v191 = none ∧ hs h192 46 = (0, 5) ∧ Ex X PG d 68 0 [some (.ref 46), some (.int ((J x1) + (J 1))), none, none, none, none] [] h192 (fun v193 h194 => v193 = none ∧ hs h194 46 = (0, 5) ∧ Ex X PG d 70 0 [some (.ref 46)] [] h194 (fun v195 h196 => v195 = none ∧ Q none h196)))))) ∧ (¬ (r4 = (J 0)) → hs h110 46 = (0, 5) ∧ ∃ q200, hR h110 46 0 = some q200 ∧ hs h110 q200 = (0, 8) ∧ Ex X PG d 24 0 [some (.ref q200), none] [] h110 (fun v201 h202 => v201 = none ∧ hs h202 46 = (0, 5) ∧ Ex X PG d 69 0 [some (.ref 46), some (.int ((J x1) + (J 1))), none, none, none] [] h202 (fun v203 h204 => v203 = none ∧ hs h204 46 = (0, 5) ∧ ∃ q205, hR h204 46 1 = some q205 ∧ hs h204 q205 = (0, 4) ∧ Ex X PG d 9 0 [some (.ref q205), some (.int (J 15)), some (.int (J 0))] [] h204 (fun v206 h207 => v206 = none ∧ Q none h207)))))) ∧ (¬ ((J x1) < (J 10)) → hs h110 46 = (0, 5) ∧ ∃ q211, hR h110 46 0 = some q211 ∧ hs h110 q211 = (0, 8) ∧ Ex X PG d 32 0 [some (.ref q211), some (.int (J 2))] [] h110 (fun v212 h213 => v212 = none ∧ Q none h213)))))) ∧ (¬ (r111 = (J 0)) → (((J 1) = (J 0) → ((r4 = (J 0) → (((J 1) = (J 0) → hs h110 46 = (0, 5) ∧ Ex X PG d 60 0 [some (.ref 46), none, none, none, none, none, none] [] h110 (fun v217 h218 => v217 = none ∧ hs h218 46 = (0, 5) ∧ Ex X PG d 71 0 [some (.ref 46), none] [] h218 (fun v219 h220 => ∃ r221, v219 = some (.int r221) ∧ hs h220 46 = (0, 5) ∧ Ex X PG d 72 0 [some (.ref 46), some (.int r221)] [] h220 (fun v222 h223 => ∃ r224, v222 = some (.int r224) ∧ ((r224 = (J 0) → Q none h223) ∧ (¬ (r224 = (J 0)) → hs h223 46 = (0, 5) ∧ hs h223 46 = (0, 5) ∧ hs (wG h223 46 2 ((hF h223 46 2) + (J 1))) 46 = (0, 5) ∧ ∃ q227, hR (wG h223 46 2 ((hF h223 46 2) + (J 1))) 46 0 = some q227 ∧ hs (wG h223 46 2 ((hF h223 46 2) + (J 1))) q227 = (0, 8) ∧ Ex X PG d 24 0 [some (.ref q227), none] [] (wG h223 46 2 ((hF h223 46 2) + (J 1))) (fun v228 h229 => v228 = none ∧ hs h229 46 = (0, 5) ∧ Ex X PG d 60 0 [some (.ref 46), none, none, none, none, none, none] [] h229 (fun v230 h231 => v230 = none ∧ hs h231 46 = (0, 5) ∧ ∃ q232, hR h231 46 1 = some q232 ∧ hs h231 q232 = (0, 4) ∧ Ex X PG d 9 0 [some (.ref q232), some (.int r221), some (.int (J 0))] [] h231 (fun v233 h234 => v233 = none ∧ Q none h234))))))))) ∧ (¬ ((J 1) = (J 0)) → hs h110 46 = (0, 5) ∧ ∃ q241, hR h110 46 0 = some q241 ∧ hs h110 q241 = (0, 8) ∧ Ex X PG d 24 0 [some (.ref q241), none] [] h110 (fun v242 h243 => v242 = none ∧ hs h243 46 = (0, 5) ∧ Ex X PG d 68 0 [some (.ref 46), some (.int ((J x1) + (J 1))), none, none, none, none] [] h243 (fun v244 h245 => v244 = none ∧ hs h245 46 = (0, 5) ∧ Ex X PG d 70 0 [some (.ref 46)] [] h245 (fun v246 h247 => v246 = none ∧ Q none h247)))))) ∧ (¬ (r4 = (J 0)) → hs h110 46 = (0, 5) ∧ ∃ q251, hR h110 46 0 = some q251 ∧ hs h110 q251 = (0, 8) ∧ Ex X PG d 24 0 [some (.ref q251), none] [] h110 (fun v252 h253 => v252 = none ∧ hs h253 46 = (0, 5) ∧ Ex X PG d 69 0 [some (.ref 46), some (.int ((J x1) + (J 1))), none, none, none] [] h253 (fun v254 h255 => v254 = none ∧ hs h255 46 = (0, 5) ∧ ∃ q256, hR h255 46 1 = some q256 ∧ hs h255 q256 = (0, 4) ∧ Ex X PG d 9 0 [some (.ref q256), some (.int (J 15)), some (.int (J 0))] [] h255 (fun v257 h258 => v257 = none ∧ Q none h258)))))) ∧ (¬ ((J 1) = (J 0)) → (((J x1) < (J 10) → ((r4 = (J 0) → (((J 1) = (J 0) → hs h110 46 = (0, 5) ∧ Ex X PG d 60 0 [some (.ref 46), none, none, none, none, none, none] [] h110 (fun v267 h268 => v267 = none ∧ hs h268 46 = (0, 5) ∧ Ex X PG d 71 0 [some (.ref 46), none] [] h268 (fun v269 h270 => ∃ r271, v269 = some (.int r271) ∧ hs h270 46 = (0, 5) ∧ Ex X PG d 72 0 [some (.ref 46), some (.int r271)] [] h270 (fun v272 h273 => ∃ r274, v272 = some (.int r274) ∧ ((r274 = (J 0) → Q none h273) ∧ (¬ (r274 = (J 0)) → hs h273 46 = (0, 5) ∧ hs h273 46 = (0, 5) ∧ hs (wG h273 46 2 ((hF h273 46 2) + (J 1))) 46 = (0, 5) ∧ ∃ q277, hR (wG h273 46 2 ((hF h273 46 2) + (J 1))) 46 0 = some q277 ∧ hs (wG h273 46 2 ((hF h273 46 2) + (J 1))) q277 = (0, 8) ∧ Ex X PG d 24 0 [some (.ref q277), none] [] (wG h273 46 2 ((hF h273 46 2) + (J 1))) (fun v278 h279 => v278 = none ∧ hs h279 46 = (0, 5) ∧ Ex X PG d 60 0 [some (.ref 46), none, none, none, none, none, none] [] h279 (fun v280 h281 => v280 = none ∧ hs h281 46 = (0, 5) ∧ ∃ q282, hR h281 46 1 = some q282 ∧ hs h281 q282 = (0, 4) ∧ Ex X PG d 9 0 [some (.ref q282), some (.int r271), some (.int (J 0))] [] h281 (fun v283 h284 => v283 = none ∧ Q none h284))))))))) ∧ (¬ ((J 1) = (J 0)) → hs h110 46 = (0, 5) ∧ ∃ q291, hR h110 46 0 = some q291 ∧ hs h110 q291 = (0, 8) ∧ Ex X PG d 24 0 [some (.ref q291), none] [] h110 (fun v292 h293 => v292 = none ∧ hs h293 46 = (0, 5) ∧ Ex X PG d 68 0 [some (.ref 46), some (.int ((J x1) + (J 1))), none, none, none, none] [] h293 (fun v294 h295 => v294 = none ∧ hs h295 46 = (0, 5) ∧ Ex X PG d 70 0 [some (.ref 46)] [] h295 (fun v296 h297 => v296 = none ∧ Q none h297)))))) ∧ (¬ (r4 = (J 0)) → hs h110 46 = (0, 5) ∧ ∃ q301, hR h110 46 0 = some q301 ∧ hs h110 q301 = (0, 8) ∧ Ex X PG d 24 0 [some (.ref q301), none] [] h110 (fun v302 h303 => v302 = none ∧ hs h303 46 = (0, 5) ∧ Ex X PG d 69 0 [some (.ref 46), some (.int ((J x1) + (J 1))), none, none, none] [] h303 (fun v304 h305 => v304 = none ∧ hs h305 46 = (0, 5) ∧ ∃ q306, hR h305 46 1 = some q306 ∧ hs h305 q306 = (0, 4) ∧ Ex X PG d 9 0 [some (.ref q306), some (.int (J 15)), some (.int (J 0))] [] h305 (fun v307 h308 => v307 = none ∧ Q none h308)))))) ∧ (¬ ((J x1) < (J 10)) → hs h110 46 = (0, 5) ∧ ∃ q312, hR h110 46 0 = some q312 ∧ hs h110 q312 = (0, 8) ∧ Ex X PG d 32 0 [some (.ref q312), some (.int (J 2))] [] h110 (fun v313 h314 => v313 = none ∧ Q none h314)))))))))))
  try simp only [aI_wAL, fI_wAL, aL_wA, aL_wF, aI_wA_ne, aI_wF_ne, fI_wA_ne, fI_wF_ne, fI_wF_nk, aL_wAL_ne, J_sameA, J_sameF, aL_same, Nat.add_left_cancel_iff, Nat.add_eq_left, Nat.left_eq_add, not_false_eq_true, Nat.reduceEqDiff, Nat.reduceAdd, J_add, J_sub, J_mul, J_neg, J_and, J_or, J_xor, J_shl, J_shr, J_div, J_i2b, J_i2l, J_l2i, J_lcm, J_max, J_min, J_nab, J_nao, rdA, rdF, rdL, wA_fold, wF_fold, wL_fold, wC_fold]
  refine ⟨(ls46 C_h), _, (lr46_0 C_h), ?_⟩
  refine ⟨(ls1 C_h), ?_⟩
  refine Ex.mono w (Nat.le_refl _) ?_
  rintro v2 h3 ⟨r4, gr4, rfl, s316, w⟩
  refine ⟨_, rfl, ?_⟩
  have C_h3 := Lay_SH s316 C_h
  have K_h3_0 := RuleAt_SH s316 K_h_0
  have P_h3 := (congrFun (congrFun s316.2 46) 1).trans P_h
  try simp only [aI_wAL, fI_wAL, aL_wA, aL_wF, aI_wA_ne, aI_wF_ne, fI_wA_ne, fI_wF_ne, fI_wF_nk, aL_wAL_ne, J_sameA, J_sameF, aL_same, Nat.add_left_cancel_iff, Nat.add_eq_left, Nat.left_eq_add, not_false_eq_true, Nat.reduceEqDiff, Nat.reduceAdd, J_add, J_sub, J_mul, J_neg, J_and, J_or, J_xor, J_shl, J_shr, J_div, J_i2b, J_i2l, J_l2i, J_lcm, J_max, J_min, J_nab, J_nao, rdA, rdF, rdL, wA_fold, wF_fold, wL_fold, wC_fold]
  refine ⟨fun c5 => ?_, fun c5 => ?_⟩
  · have t6 : ¬ r4 = 0 := (fun e => c5 ((Jeq gr4 (by decide)).mpr e))
    replace w := w.1 t6
    refine ⟨fun c => absurd c (by decide), fun _ => ?_⟩
    obtain ⟨k56, w⟩ := w
    refine ⟨fun c54 => ?_, fun c54 => ?_⟩
    · have t55 : x1 < 10 := ((Jlt k56 (by decide)).mp c54)
      replace w := w.1 t55
      refine ⟨fun c57 => absurd c57 (fun e => t6 ((Jeq gr4 (by decide)).mp e)), fun _ => ?_⟩
      refine ⟨(ls46 C_h3), _, (lr46_0 C_h3), ?_⟩
      refine ⟨(ls1 C_h3), ?_⟩
      refine Ex.mono w (Nat.le_refl _) ?_
      rintro v94 h95 ⟨rfl, s103, w⟩
      refine ⟨rfl, ?_⟩
      have C_h95 := Lay_SH s103 C_h3
      have K_h95_0 := RuleAt_SH s103 K_h3_0
      have P_h95 := (congrFun (congrFun s103.2 46) 1).trans P_h3
      try simp only [aI_wAL, fI_wAL, aL_wA, aL_wF, aI_wA_ne, aI_wF_ne, fI_wA_ne, fI_wF_ne, fI_wF_nk, aL_wAL_ne, J_sameA, J_sameF, aL_same, Nat.add_left_cancel_iff, Nat.add_eq_left, Nat.left_eq_add, not_false_eq_true, Nat.reduceEqDiff, Nat.reduceAdd, J_add, J_sub, J_mul, J_neg, J_and, J_or, J_xor, J_shl, J_shr, J_div, J_i2b, J_i2l, J_l2i, J_lcm, J_max, J_min, J_nab, J_nao, rdA, rdF, rdL, wA_fold, wF_fold, wL_fold, wC_fold]
      refine ⟨(ls46 C_h95), ?_⟩
      refine Ex.mono w (Nat.le_refl _) ?_
      rintro v96 h97 ⟨rfl, s102, w⟩
      refine ⟨rfl, ?_⟩
      have C_h97 := Lay_SH s102 C_h95
      have K_h97_0 := RuleAt_SH s102 K_h95_0
      have P_h97 := (congrFun (congrFun s102.2 46) 1).trans P_h95
      try simp only [aI_wAL, fI_wAL, aL_wA, aL_wF, aI_wA_ne, aI_wF_ne, fI_wA_ne, fI_wF_ne, fI_wF_nk, aL_wAL_ne, J_sameA, J_sameF, aL_same, Nat.add_left_cancel_iff, Nat.add_eq_left, Nat.left_eq_add, not_false_eq_true, Nat.reduceEqDiff, Nat.reduceAdd, J_add, J_sub, J_mul, J_neg, J_and, J_or, J_xor, J_shl, J_shr, J_div, J_i2b, J_i2l, J_l2i, J_lcm, J_max, J_min, J_nab, J_nao, rdA, rdF, rdL, wA_fold, wF_fold, wL_fold, wC_fold]
      refine ⟨(ls46 C_h97), _, P_h97, ?_⟩
      refine ⟨(rule_0 K_h97_0), ?_⟩
      refine Ex.mono w (Nat.le_refl _) ?_
      rintro v99 h100 ⟨rfl, s101, w⟩
      refine ⟨rfl, ?_⟩
      have C_h100 := Lay_SH s101 C_h97
      have K_h100_0 := RuleAt_SH s101 K_h97_0
      have P_h100 := (congrFun (congrFun s101.2 46) 1).trans P_h97
      try simp only [aI_wAL, fI_wAL, aL_wA, aL_wF, aI_wA_ne, aI_wF_ne, fI_wA_ne, fI_wF_ne, fI_wF_nk, aL_wAL_ne, J_sameA, J_sameF, aL_same, Nat.add_left_cancel_iff, Nat.add_eq_left, Nat.left_eq_add, not_false_eq_true, Nat.reduceEqDiff, Nat.reduceAdd, J_add, J_sub, J_mul, J_neg, J_and, J_or, J_xor, J_shl, J_shr, J_div, J_i2b, J_i2l, J_l2i, J_lcm, J_max, J_min, J_nab, J_nao, rdA, rdF, rdL, wA_fold, wF_fold, wL_fold, wC_fold]
      exact w
    · have t55 : ¬ x1 < 10 := (fun e => c54 ((Jlt k56 (by decide)).mpr e))
      replace w := w.2 t55
      refine ⟨(ls46 C_h3), _, (lr46_0 C_h3), ?_⟩
      refine ⟨(ls1 C_h3), ?_⟩
      refine Ex.mono w (Nat.le_refl _) ?_
      rintro v105 h106 ⟨rfl, s107, w⟩
      refine ⟨rfl, ?_⟩
      have C_h106 := Lay_SH s107 C_h3
      have K_h106_0 := RuleAt_SH s107 K_h3_0
      have P_h106 := (congrFun (congrFun s107.2 46) 1).trans P_h3
      try simp only [aI_wAL, fI_wAL, aL_wA, aL_wF, aI_wA_ne, aI_wF_ne, fI_wA_ne, fI_wF_ne, fI_wF_nk, aL_wAL_ne, J_sameA, J_sameF, aL_same, Nat.add_left_cancel_iff, Nat.add_eq_left, Nat.left_eq_add, not_false_eq_true, Nat.reduceEqDiff, Nat.reduceAdd, J_add, J_sub, J_mul, J_neg, J_and, J_or, J_xor, J_shl, J_shr, J_div, J_i2b, J_i2l, J_l2i, J_lcm, J_max, J_min, J_nab, J_nao, rdA, rdF, rdL, wA_fold, wF_fold, wL_fold, wC_fold]
      exact w
  · have t6 : r4 = 0 := ((Jeq gr4 (by decide)).mp (Classical.byContradiction c5))
    replace w := w.2 t6
    refine ⟨(ls46 C_h3), _, (lr46_0 C_h3), ?_⟩
    refine ⟨(ls1 C_h3), ?_⟩
    refine m45 (h := h3) (q := 91) C_h3 (by omega) (by decide) ?_
    refine ⟨_, rfl, ?_⟩
    try simp only [aI_wAL, fI_wAL, aL_wA, aL_wF, aI_wA_ne, aI_wF_ne, fI_wA_ne, fI_wF_ne, fI_wF_nk, aL_wAL_ne, J_sameA, J_sameF, aL_same, Nat.add_left_cancel_iff, Nat.add_eq_left, Nat.left_eq_add, not_false_eq_true, Nat.reduceEqDiff, Nat.reduceAdd, J_add, J_sub, J_mul, J_neg, J_and, J_or, J_xor, J_shl, J_shr, J_div, J_i2b, J_i2l, J_l2i, J_lcm, J_max, J_min, J_nab, J_nao, rdA, rdF, rdL, wA_fold, wF_fold, wL_fold, wC_fold]
    refine ⟨fun c112 => ?_, fun c112 => ?_⟩
    · have t113 : ¬ (fI h3 1 2 = 3 ∧ fI h3 1 5 = 91) := ((bI0 _).mp c112)
      replace w := w.1 t113
      refine ⟨fun _ => ?_, fun c => absurd (by decide) c⟩
      refine ⟨fun _ => ?_, fun c114 => absurd ((Jeq gr4 (by decide)).mpr t6) c114⟩
      refine ⟨fun _ => ?_, fun c => absurd (by decide) c⟩
      refine ⟨(ls46 C_h3), ?_⟩
      refine Ex.mono w (Nat.le_refl _) ?_
      rintro v116 h117 ⟨rfl, s139, w⟩
      refine ⟨rfl, ?_⟩
      have C_h117 := Lay_SH s139 C_h3
      have K_h117_0 := RuleAt_SH s139 K_h3_0
      have P_h117 := (congrFun (congrFun s139.2 46) 1).trans P_h3
      try simp only [aI_wAL, fI_wAL, aL_wA, aL_wF, aI_wA_ne, aI_wF_ne, fI_wA_ne, fI_wF_ne, fI_wF_nk, aL_wAL_ne, J_sameA, J_sameF, aL_same, Nat.add_left_cancel_iff, Nat.add_eq_left, Nat.left_eq_add, not_false_eq_true, Nat.reduceEqDiff, Nat.reduceAdd, J_add, J_sub, J_mul, J_neg, J_and, J_or, J_xor, J_shl, J_shr, J_div, J_i2b, J_i2l, J_l2i, J_lcm, J_max, J_min, J_nab, J_nao, rdA, rdF, rdL, wA_fold, wF_fold, wL_fold, wC_fold]
      refine ⟨(ls46 C_h117), ?_⟩
      refine Ex.mono w (Nat.le_refl _) ?_
      rintro v118 h119 ⟨r120, gr120, rfl, s138, w⟩
      refine ⟨_, rfl, ?_⟩
      have C_h119 := Lay_SH s138 C_h117
      have K_h119_0 := RuleAt_SH s138 K_h117_0
      have P_h119 := (congrFun (congrFun s138.2 46) 1).trans P_h117
      try simp only [aI_wAL, fI_wAL, aL_wA, aL_wF, aI_wA_ne, aI_wF_ne, fI_wA_ne, fI_wF_ne, fI_wF_nk, aL_wAL_ne, J_sameA, J_sameF, aL_same, Nat.add_left_cancel_iff, Nat.add_eq_left, Nat.left_eq_add, not_false_eq_true, Nat.reduceEqDiff, Nat.reduceAdd, J_add, J_sub, J_mul, J_neg, J_and, J_or, J_xor, J_shl, J_shr, J_div, J_i2b, J_i2l, J_l2i, J_lcm, J_max, J_min, J_nab, J_nao, rdA, rdF, rdL, wA_fold, wF_fold, wL_fold, wC_fold]
      refine ⟨(ls46 C_h119), ?_⟩
      refine Ex.mono w (Nat.le_refl _) ?_
      rintro v121 h122 ⟨r123, gr123, rfl, s137, w⟩
      refine ⟨_, rfl, ?_⟩
      have C_h122 := Lay_SH s137 C_h119
      have K_h122_0 := RuleAt_SH s137 K_h119_0
      have P_h122 := (congrFun (congrFun s137.2 46) 1).trans P_h119
      try simp only [aI_wAL, fI_wAL, aL_wA, aL_wF, aI_wA_ne, aI_wF_ne, fI_wA_ne, fI_wF_ne, fI_wF_nk, aL_wAL_ne, J_sameA, J_sameF, aL_same, Nat.add_left_cancel_iff, Nat.add_eq_left, Nat.left_eq_add, not_false_eq_true, Nat.reduceEqDiff, Nat.reduceAdd, J_add, J_sub, J_mul, J_neg, J_and, J_or, J_xor, J_shl, J_shr, J_div, J_i2b, J_i2l, J_l2i, J_lcm, J_max, J_min, J_nab, J_nao, rdA, rdF, rdL, wA_fold, wF_fold, wL_fold, wC_fold]
      refine ⟨fun c124 => ?_, fun c124 => ?_⟩
      · have t125 : r123 = 0 := ((Jeq gr123 (by decide)).mp c124)
        replace w := w.1 t125
        exact w
      · have t125 : ¬ r123 = 0 := (fun e => c124 ((Jeq gr123 (by decide)).mpr e))
        replace w := w.2 t125
        refine ⟨(ls46 C_h122), ?_⟩
        refine ⟨(ls46 C_h122), ?_⟩
        refine ⟨(ls46 C_h122), _, (lr46_0 C_h122), ?_⟩
        refine ⟨(ls1 C_h122), ?_⟩
        refine Ex.mono w (Nat.le_refl _) ?_
        rintro v127 h128 ⟨rfl, s136, w⟩
        refine ⟨rfl, ?_⟩
        have C_h128 := Lay_SH s136 C_h122
        have K_h128_0 := RuleAt_SH s136 K_h122_0
        have P_h128 := (congrFun (congrFun s136.2 46) 1).trans P_h122
        try simp only [aI_wAL, fI_wAL, aL_wA, aL_wF, aI_wA_ne, aI_wF_ne, fI_wA_ne, fI_wF_ne, fI_wF_nk, aL_wAL_ne, J_sameA, J_sameF, aL_same, Nat.add_left_cancel_iff, Nat.add_eq_left, Nat.left_eq_add, not_false_eq_true, Nat.reduceEqDiff, Nat.reduceAdd, J_add, J_sub, J_mul, J_neg, J_and, J_or, J_xor, J_shl, J_shr, J_div, J_i2b, J_i2l, J_l2i, J_lcm, J_max, J_min, J_nab, J_nao, rdA, rdF, rdL, wA_fold, wF_fold, wL_fold, wC_fold]
        refine ⟨(ls46 C_h128), ?_⟩
        refine Ex.mono w (Nat.le_refl _) ?_
        rintro v129 h130 ⟨rfl, s135, w⟩
        refine ⟨rfl, ?_⟩
        have C_h130 := Lay_SH s135 C_h128
        have K_h130_0 := RuleAt_SH s135 K_h128_0
        have P_h130 := (congrFun (congrFun s135.2 46) 1).trans P_h128
        try simp only [aI_wAL, fI_wAL, aL_wA, aL_wF, aI_wA_ne, aI_wF_ne, fI_wA_ne, fI_wF_ne, fI_wF_nk, aL_wAL_ne, J_sameA, J_sameF, aL_same, Nat.add_left_cancel_iff, Nat.add_eq_left, Nat.left_eq_add, not_false_eq_true, Nat.reduceEqDiff, Nat.reduceAdd, J_add, J_sub, J_mul, J_neg, J_and, J_or, J_xor, J_shl, J_shr, J_div, J_i2b, J_i2l, J_l2i, J_lcm, J_max, J_min, J_nab, J_nao, rdA, rdF, rdL, wA_fold, wF_fold, wL_fold, wC_fold]
        refine ⟨(ls46 C_h130), _, P_h130, ?_⟩
        refine ⟨(rule_0 K_h130_0), ?_⟩
        refine Ex.mono w (Nat.le_refl _) ?_
        rintro v132 h133 ⟨rfl, s134, w⟩
        refine ⟨rfl, ?_⟩
        have C_h133 := Lay_SH s134 C_h130
        have K_h133_0 := RuleAt_SH s134 K_h130_0
        have P_h133 := (congrFun (congrFun s134.2 46) 1).trans P_h130
        try simp only [aI_wAL, fI_wAL, aL_wA, aL_wF, aI_wA_ne, aI_wF_ne, fI_wA_ne, fI_wF_ne, fI_wF_nk, aL_wAL_ne, J_sameA, J_sameF, aL_same, Nat.add_left_cancel_iff, Nat.add_eq_left, Nat.left_eq_add, not_false_eq_true, Nat.reduceEqDiff, Nat.reduceAdd, J_add, J_sub, J_mul, J_neg, J_and, J_or, J_xor, J_shl, J_shr, J_div, J_i2b, J_i2l, J_l2i, J_lcm, J_max, J_min, J_nab, J_nao, rdA, rdF, rdL, wA_fold, wF_fold, wL_fold, wC_fold]
        exact w
    · have t113 : (fI h3 1 2 = 3 ∧ fI h3 1 5 = 91) := (Classical.byContradiction fun n => c112 ((bI0 _).mpr n))
      replace w := w.2 t113
      refine ⟨fun c => absurd c (by decide), fun _ => ?_⟩
      obtain ⟨k264, w⟩ := w
      refine ⟨fun c262 => ?_, fun c262 => ?_⟩
      · have t263 : x1 < 10 := ((Jlt k264 (by decide)).mp c262)
        replace w := w.1 t263
        refine ⟨fun _ => ?_, fun c265 => absurd ((Jeq gr4 (by decide)).mpr t6) c265⟩
        refine ⟨fun c => absurd c (by decide), fun _ => ?_⟩
        refine ⟨(ls46 C_h3), _, (lr46_0 C_h3), ?_⟩
        refine ⟨(ls1 C_h3), ?_⟩
        refine Ex.mono w (Nat.le_refl _) ?_
        rintro v292 h293 ⟨rfl, s300, w⟩
        refine ⟨rfl, ?_⟩
        have C_h293 := Lay_SH s300 C_h3
        have K_h293_0 := RuleAt_SH s300 K_h3_0
        have P_h293 := (congrFun (congrFun s300.2 46) 1).trans P_h3
        try simp only [aI_wAL, fI_wAL, aL_wA, aL_wF, aI_wA_ne, aI_wF_ne, fI_wA_ne, fI_wF_ne, fI_wF_nk, aL_wAL_ne, J_sameA, J_sameF, aL_same, Nat.add_left_cancel_iff, Nat.add_eq_left, Nat.left_eq_add, not_false_eq_true, Nat.reduceEqDiff, Nat.reduceAdd, J_add, J_sub, J_mul, J_neg, J_and, J_or, J_xor, J_shl, J_shr, J_div, J_i2b, J_i2l, J_l2i, J_lcm, J_max, J_min, J_nab, J_nao, rdA, rdF, rdL, wA_fold, wF_fold, wL_fold, wC_fold]
        refine ⟨(ls46 C_h293), ?_⟩
        refine Ex.mono w (Nat.le_refl _) ?_
        rintro v294 h295 ⟨rfl, s299, w⟩
        refine ⟨rfl, ?_⟩
        have C_h295 := Lay_SH s299 C_h293
        have K_h295_0 := RuleAt_SH s299 K_h293_0
        have P_h295 := (congrFun (congrFun s299.2 46) 1).trans P_h293
        try simp only [aI_wAL, fI_wAL, aL_wA, aL_wF, aI_wA_ne, aI_wF_ne, fI_wA_ne, fI_wF_ne, fI_wF_nk, aL_wAL_ne, J_sameA, J_sameF, aL_same, Nat.add_left_cancel_iff, Nat.add_eq_left, Nat.left_eq_add, not_false_eq_true, Nat.reduceEqDiff, Nat.reduceAdd, J_add, J_sub, J_mul, J_neg, J_and, J_or, J_xor, J_shl, J_shr, J_div, J_i2b, J_i2l, J_l2i, J_lcm, J_max, J_min, J_nab, J_nao, rdA, rdF, rdL, wA_fold, wF_fold, wL_fold, wC_fold]
        refine ⟨(ls46 C_h295), ?_⟩
        refine Ex.mono w (Nat.le_refl _) ?_
        rintro v296 h297 ⟨rfl, s298, w⟩
        refine ⟨rfl, ?_⟩
        have C_h297 := Lay_SH s298 C_h295
        have K_h297_0 := RuleAt_SH s298 K_h295_0
        have P_h297 := (congrFun (congrFun s298.2 46) 1).trans P_h295
        try simp only [aI_wAL, fI_wAL, aL_wA, aL_wF, aI_wA_ne, aI_wF_ne, fI_wA_ne, fI_wF_ne, fI_wF_nk, aL_wAL_ne, J_sameA, J_sameF, aL_same, Nat.add_left_cancel_iff, Nat.add_eq_left, Nat.left_eq_add, not_false_eq_true, Nat.reduceEqDiff, Nat.reduceAdd, J_add, J_sub, J_mul, J_neg, J_and, J_or, J_xor, J_shl, J_shr, J_div, J_i2b, J_i2l, J_l2i, J_lcm, J_max, J_min, J_nab, J_nao, rdA, rdF, rdL, wA_fold, wF_fold, wL_fold, wC_fold]
        exact w
      · have t263 : ¬ x1 < 10 := (fun e => c262 ((Jlt k264 (by decide)).mpr e))
        replace w := w.2 t263
        refine ⟨(ls46 C_h3), _, (lr46_0 C_h3), ?_⟩
        refine ⟨(ls1 C_h3), ?_⟩
        refine Ex.mono w (Nat.le_refl _) ?_
        rintro v313 h314 ⟨rfl, s315, w⟩
        refine ⟨rfl, ?_⟩
        have C_h314 := Lay_SH s315 C_h3
        have K_h314_0 := RuleAt_SH s315 K_h3_0
        have P_h314 := (congrFun (congrFun s315.2 46) 1).trans P_h3
        try simp only [aI_wAL, fI_wAL, aL_wA, aL_wF, aI_wA_ne, aI_wF_ne, fI_wA_ne, fI_wF_ne, fI_wF_nk, aL_wAL_ne, J_sameA, J_sameF, aL_same, Nat.add_left_cancel_iff, Nat.add_eq_left, Nat.left_eq_add, not_false_eq_true, Nat.reduceEqDiff, Nat.reduceAdd, J_add, J_sub, J_mul, J_neg, J_and, J_or, J_xor, J_shl, J_shr, J_div, J_i2b, J_i2l, J_l2i, J_lcm, J_max, J_min, J_nab, J_nao, rdA, rdF, rdL, wA_fold, wF_fold, wL_fold, wC_fold]
        exact w
def FaC (X : Cst) (ru : Nat) (tp : Int → Int) (L : Int) (n : Nat) : Prop :=
  ∀ (d : Nat) (dp j p : Int) (c : Cd) (h : AH) (Q : Post), Lay h → RuleAt h ru → hR h 46 1 = some ru → (0 ≤ dp ∧ dp ≤ 10) → 7 + 2 * (10 - dp) ≤ d → CC h tp L j p c ru → (c.length : Int) ≤ j → 0 ≤ p ∧ p ≤ 60 → 2 * (L - j) + 1 ≤ n → CQu h tp L ru (ft tp L n false dp false false j p c) Q →
    Ex X PG d 69 0 [some (.ref 46), some (.int (J dp)), none, none, none] [] h Q
def TeC (X : Cst) (ru : Nat) (tp : Int → Int) (L : Int) (n : Nat) : Prop :=
  ∀ (d : Nat) (dp : Int) (o a : Bool) (x3 x5 j p : Int) (c : Cd) (h h' : AH) (Q : Post), Lay h → RuleAt h ru → hR h 46 1 = some ru → (0 ≤ dp ∧ dp ≤ 10) → 7 + 2 * (10 - dp) ≤ d → (o = true ↔ 0 < x3) → (a = true ↔ 0 < x5) → 0 ≤ x3 ∧ x3 ≤ p → 0 ≤ x5 ∧ x5 ≤ p → Fr (TUr ru) h h' → CC h' tp L j p c ru → (c.length : Int) + nb a + nb o ≤ j → 0 ≤ p ∧ p ≤ 60 → 2 * (L - j) + 2 ≤ n → CQu h tp L ru (ft tp L n true dp o a j p c) Q →
    Ex X PG (d + 1) 68 20 [some (.ref 46), some (.int (J dp)), some (.int (J 1)), some (.int (J x3)), some (.int (J 1)), some (.int (J x5))] [] h' Q
section
variable {X : Cst} {ru : Nat} {tp : Int → Int} {L : Int}
theorem CQu.ad {h h2 : AH} {r : RR} {Q : Post} (k : CQu h tp L ru r Q) (F : Fr (TUr ru) h h2) : CQu h2 tp L ru r Q := ⟨fun e h' F' => k.1 e h' (F.tr F'), fun e h' F' => k.2 e h' (F.tr F')⟩
theorem FaC_s (hX : X.2 = X2) (B : BT tp) (hr : 16 ≤ ru ∧ ru + 4 < 46) {n : Nat} (iF : FaC X ru tp L n) (iT : TeC X ru tp L n) : FaC X ru tp L (n + 1) := by
  intro d dp j p c h Q C K P hdp hd R hc hp hn k
  obtain ⟨d, rfl⟩ : ∃ e, d = e + 1 := ⟨d - 1, by omega⟩
  have tj := R.1.2.2.1
  have tL := R.1.2.1
  have e3 := R.1.2.2.2.1
  have e6 := R.1.2.2.2.2.2.2.2
  have nbx := nx_b (tp := tp) (L := L) (j := j) tj.1 tj.2
  have i91 := tk_mk (tp := tp) (L := L) (j := j) (c := 91) (by unfold dgP; omega) (by unfold leP; omega) (by omega) (by omega) (by omega)
  rw [ft_f] at k
  have deep : dp = 10 → (wc tp L j = wSc 17 ∨ mrk tp L j 91) → Ex X PG d 32 0 [some (.ref 1), some (.int (J 2))] [] h (fun v h' => v = none ∧ SH h h' ∧ Q none h') := by
    intro ed o
    rw [pI_pos o, pI_pos ed] at k
    refine m32 C (by omega) (fun z => absurd e6 z) (fun _ => ⟨rfl, SH.rf.wF, ?_⟩)
    rw [e3]
    exact k.bad (by omega) (Fr.rf.wF (by unfold TUr TTf; omega)) (R.fl hr.1 (by omega) (by omega))
  refine r69_0 C K P (by omega) ?_
  refine m31s C (by omega) hX R.1 (s := 17) (by decide) (fun y => ⟨1, by omega, rfl, SH.rf, fun _ => ⟨by omega, fun lt => ?_, fun nlt => deep (by omega) (Or.inl y)⟩, fun z => absurd z (by decide)⟩) (fun y => ⟨0, by omega, rfl, SH.rf, fun z => absurd rfl z, fun _ => ?_⟩)
  · -- not
    rw [pI_pos (Or.inl y), pI_neg (by omega), pI_pos y] at k
    have ltj := wc_L tj.1 tj.2 (by decide) y
    refine m24n C (by omega) R.1 (fun h2 F2 T2 => ⟨rfl, F2.1, ?_⟩)
    have G2 : Fr (TUr ru) h h2 := F2.mo (fun _ _ => TTk_u)
    refine iF d (dp + 1) (nx tp L j) p c h2 _ (G2.C C) (RuleAt_SH G2.1 K) (P46 G2.1 P) (by omega) (by omega) (R.tk hr.1 F2 T2) (by omega) hp (by omega) ⟨fun e h3 F3 R3 => ⟨rfl, F3.1, ?_⟩, fun e h3 F3 R3 => ⟨rfl, F3.1, ?_⟩⟩
    · rw [bn_pos e] at k
      obtain ⟨g1, g2, dd, g3, g4, -⟩ := (Gd_ft (tp := tp) (L := L) n (dp + 1) (nx tp L j) p c (by omega) nbx.2.1 hp.2).1 e
      generalize (ft tp L n false (dp + 1) false false (nx tp L j) p c).2.1 = j1 at *
      generalize (ft tp L n false (dp + 1) false false (nx tp L j) p c).2.2.1 = p1 at *
      generalize (ft tp L n false (dp + 1) false false (nx tp L j) p c).2.2.2 = c1 at *
      have cl : (c1.length : Int) + 1 ≤ j1 := by rw [g3, List.length_append]; omega
      have G3 := G2.tr F3
      exact m9c (o := 11) (G3.C C) (RuleAt_SH G3.1 K) hr (by omega) R3 (by omega) (by omega) (by decide) (fun h4 F4 R4 => ⟨rfl, F4.1, k.1 rfl h4 (G3.tr (F4.mo (fun _ _ => TAd_u))) R4⟩)
    · rw [bn_neg e] at k
      have G3 := G2.tr F3
      exact m9g (G3.C C) (RuleAt_SH G3.1 K) hr (by omega) R3 (fun h4 F4 R4 => ⟨rfl, F4.1, k.2 e h4 (G3.tr (F4.mo (fun _ _ => TAd_u))) R4⟩)
  rw [R.1.2.2.2.2.1, R.1.2.2.2.2.2.2.1]
  refine ⟨fun n91 => ?_, fun y91 => ⟨by omega, fun lt => ?_, fun nlt => deep (by omega) (Or.inr (i91.mp y91))⟩⟩
  · -- a comparison
    rw [pI_neg (fun z => by rcases z with z | z; exact y z; exact n91 (i91.mpr z))] at k
    unfold cp at k
    refine m60 C K P hX hr (by omega) R hc hp ⟨fun e h2 F2 R2 => ⟨rfl, F2.1, ?_⟩, fun e h2 F2 R2 => ⟨rfl, F2.1, ?_⟩⟩
    · rw [bn_pos e] at k
      obtain ⟨g1, g2, dd, g3, g4, -⟩ := Gd_sm (tp := tp) (c := c) tj.1 tj.2 hp.2 e
      generalize (sm tp L j p c).2.1 = j1 at *
      generalize (sm tp L j p c).2.2.1 = p1 at *
      generalize (sm tp L j p c).2.2.2 = c1 at *
      have cl : (c1.length : Int) ≤ j1 := by rw [g3, List.length_append]; omega
      have sb := sgO_b (tp := tp) (L := L) (j := j1)
      have z1 := cmz_0 (o := sgO tp L j1) (by omega)
      refine m71 (F2.C C) (RuleAt_SH F2.1 K) (P46 F2.1 P) (by omega) B R2.1 ⟨_, by omega, rfl, SH.rf, ?_⟩
      refine m72 (F2.C C) (RuleAt_SH F2.1 K) (P46 F2.1 P) (by omega) R2 (by omega) g2.2 (fun n1 np => ⟨1, by omega, rfl, SH.rf, fun z => absurd z (by decide), fun _ => ?_⟩) (fun e0 => ⟨0, by omega, rfl, SH.rf.wF, fun _ => ?_, fun z => absurd rfl z⟩) (fun n1 ep => ⟨0, by omega, rfl, SH.rf.wF, fun _ => ?_, fun z => absurd rfl z⟩)
      · have ns : ¬ sgO tp L j1 = 0 := fun q => n1 (z1.1.mpr q)
        rw [pI_neg ns, pI_neg np] at k
        have ltj : j1 < L := by omega
        have nb1 := nx_b (tp := tp) (L := L) (j := j1) (by omega) (by omega)
        rw [R2.2.1]
        have Fw : Fr (fun c k => c = 46 ∧ k = 2) h2 (wF h2 46 2 (p1 + 1)) := Fr.rf.wF ⟨rfl, rfl⟩
        have Gw : Fr (TUr ru) h (wF h2 46 2 (p1 + 1)) := F2.tr (Fw.mo (fun _ _ z => Or.inr (Or.inl z)))
        have Rw : CC (wF h2 46 2 (p1 + 1)) tp L j1 (p1 + 1) c1 ru := ⟨R2.1.fr Fw (by omega) (by omega), fI_wF_eq (by omega), R2.2.2.fr Fw (fun a k z => by unfold TAd; omega)⟩
        refine m24n (Gw.C C) (by omega) Rw.1 (fun h3 F3 T3 => ⟨rfl, F3.1, ?_⟩)
        have G3 : Fr (TUr ru) h h3 := Gw.tr (F3.mo (fun _ _ => TTk_u))
        have R3 := Rw.tk hr.1 F3 T3
        refine m60 (G3.C C) (RuleAt_SH G3.1 K) (P46 G3.1 P) hX hr (by omega) R3 (by omega) (by omega) ⟨fun e2 h4 F4 R4 => ⟨rfl, F4.1, ?_⟩, fun e2 h4 F4 R4 => ⟨rfl, F4.1, ?_⟩⟩
        · rw [bn_pos e2] at k
          obtain ⟨y1, y2, yd, y3, y4, -⟩ := Gd_sm (tp := tp) (c := c1) (by omega) nb1.2.1 (by omega) e2
          generalize (sm tp L (nx tp L j1) (p1 + 1) c1).2.1 = j2 at *
          generalize (sm tp L (nx tp L j1) (p1 + 1) c1).2.2.1 = p2 at *
          generalize (sm tp L (nx tp L j1) (p1 + 1) c1).2.2.2 = c2 at *
          have cl2 : (c2.length : Int) + 1 ≤ j2 := by rw [y3, List.length_append]; omega
          have G4 := G3.tr F4
          exact m9c (o := sgO tp L j1) (G4.C C) (RuleAt_SH G4.1 K) hr (by omega) R4 (by omega) (by omega) (show cm (sgO tp L j1) = cmz (sgO tp L j1) from (if_neg ns).symm) (fun h5 F5 R5 => ⟨rfl, F5.1, k.1 rfl h5 (G4.tr (F5.mo (fun _ _ => TAd_u))) R5⟩)
        · rw [bn_neg e2] at k
          have G4 := G3.tr F4
          exact m9g (G4.C C) (RuleAt_SH G4.1 K) hr (by omega) R4 (fun h5 F5 R5 => ⟨rfl, F5.1, k.2 e2 h5 (G4.tr (F5.mo (fun _ _ => TAd_u))) R5⟩)
      · rw [pI_pos (z1.1.mp e0)] at k
        refine k.2 (by show ¬ 1 + 8 * j1 = 0; omega) _ (F2.wF (by unfold TUr TTf; omega)) ?_
        have := R2.fl (q := 0) hr.1 (by omega) (by omega)
        rw [Int.add_zero] at this ⊢
        exact this
      · rw [pI_neg (fun q => n1 (z1.1.mpr q)), pI_pos ep] at k
        exact k.bad (by omega) (F2.wF (by unfold TUr TTf; omega)) (R2.fl hr.1 (by omega) (by omega))
    · rw [bn_neg e] at k
      obtain ⟨⟨j3, T3⟩, q3⟩ := id R2
      have sb := sgO_b (tp := tp) (L := L) (j := j3)
      have z1 := cmz_0 (o := sgO tp L j3) (by omega)
      refine m71 (F2.C C) (RuleAt_SH F2.1 K) (P46 F2.1 P) (by omega) B T3 ⟨_, by omega, rfl, SH.rf, ?_⟩
      exact m72f (F2.C C) (RuleAt_SH F2.1 K) (P46 F2.1 P) (by omega) R2 e (by omega) ⟨0, by omega, rfl, SH.rf, fun _ => k.2 e h2 F2 R2, fun z => absurd rfl z⟩
  · -- a bracket
    have m91 := i91.mp y91
    have ltj := m91.1
    rw [pI_pos (Or.inr m91), pI_neg (by omega), pI_neg y] at k
    refine m24n C (by omega) R.1 (fun h2 F2 T2 => ⟨rfl, F2.1, ?_⟩)
    have G2 : Fr (TUr ru) h h2 := F2.mo (fun _ _ => TTk_u)
    have C2 := G2.C C
    have K2 := RuleAt_SH G2.1 K
    have P2 := P46 G2.1 P
    have R2 := R.tk hr.1 F2 T2
    obtain ⟨e, rfl⟩ : ∃ e, d = e + 1 := ⟨d - 1, by omega⟩
    refine r68_0 C2 K2 P2 (r68_4 C2 K2 P2 ⟨by omega, fun z => absurd z (by decide), fun _ => ⟨by omega, fun z => absurd z (by decide), fun _ => ?_⟩⟩)
    have n0 : nb false = 0 := rfl
    refine iT e (dp + 1) false false 0 0 (nx tp L j) p c h2 h2 _ C2 K2 P2 (by omega) (by omega) (by decide) (by decide) (by omega) (by omega) Fr.rf R2 (by omega) hp (by omega) ⟨fun e1 h3 F3 R3 => ⟨rfl, F3.1, ?_⟩, fun e1 h3 F3 R3 => ⟨rfl, F3.1, ?_⟩⟩
    · rw [bn_pos e1] at k
      obtain ⟨g1, g2, dd, g3, g4, -⟩ := (Gd_ft (tp := tp) (L := L) n (dp + 1) (nx tp L j) p c (by omega) nbx.2.1 hp.2).2 false false e1
      generalize (ft tp L n true (dp + 1) false false (nx tp L j) p c).2.1 = j1 at *
      generalize (ft tp L n true (dp + 1) false false (nx tp L j) p c).2.2.1 = p1 at *
      generalize (ft tp L n true (dp + 1) false false (nx tp L j) p c).2.2.2 = c1 at *
      have cl : (c1.length : Int) ≤ j1 := by rw [g3, List.length_append]; omega
      have G3 := G2.tr F3
      refine m70 (G3.C C) (RuleAt_SH G3.1 K) (P46 G3.1 P) (by omega) R3 (fun m h4 F4 T4 => ⟨rfl, F4.1, ?_⟩) (fun m => ⟨rfl, SH.rf.wF, ?_⟩)
      · rw [pI_pos m] at k
        exact k.1 rfl h4 (G3.tr (F4.mo (fun _ _ => TTk_u))) (R3.tk hr.1 F4 T4)
      · rw [pI_neg m] at k
        refine k.2 (by show ¬ 1 + 8 * j1 = 0; omega) _ (G3.wF (by unfold TUr TTf; omega)) ?_
        have := R3.fl (q := 0) hr.1 (by omega) (by omega)
        rw [Int.add_zero] at this ⊢
        exact this
    · rw [bn_neg e1] at k
      have G3 := G2.tr F3
      exact m70f (G3.C C) (RuleAt_SH G3.1 K) (P46 G3.1 P) (by omega) R3 e1 ⟨rfl, SH.rf, k.2 e1 h3 G3 R3⟩
theorem TeC_s (hX : X.2 = X2) (hr : 16 ≤ ru ∧ ru + 4 < 46) {n : Nat} (iF : FaC X ru tp L n) (iT : TeC X ru tp L n) : TeC X ru tp L (n + 1) := by
  intro d dp o a x3 x5 j p c h h' Q C K P hdp hd ho ha h3 h5 F R hc hp hn k
  have C' := F.C C
  have K' := RuleAt_SH F.1 K
  have P' := P46 F.1 P
  have tj := R.1.2.2.1
  have tL := R.1.2.1
  have na : 0 ≤ nb a ∧ ((aLc a).length : Int) = nb a := by cases a <;> decide
  have no : 0 ≤ nb o ∧ ((oL o).length : Int) = nb o := by cases o <;> decide
  rw [ft_t] at k
  -- the ends of the two loops
  have fin4 : ∀ (x : Int) (l4 l5 : Option Value) (h2 : AH), Fr (TUr ru) h h2 → 0 ≤ x ∧ x ≤ 100 → Q none h2 → Ex X PG (d + 1) 68 4 [some (.ref 46), some (.int (J dp)), some (.int (J 0)), some (.int (J x)), l4, l5] [] h2 Q := fun x l4 l5 h2 F2 hx q =>
    r68_4 (F2.C C) (RuleAt_SH F2.1 K) (P46 F2.1 P) ⟨by omega, fun _ => q, fun _ => ⟨by omega, fun _ => q, fun z => absurd rfl z⟩⟩
  refine r68_20 C' K' P' ⟨by omega, fun z => absurd z (by omega), fun _ => ⟨by omega, fun z => absurd z (by decide), fun _ => ?_⟩⟩
  refine iF d dp j p c h' _ C' K' P' hdp hd R (by omega) hp (by omega) ⟨fun e h2 F2 R2 => ⟨rfl, F2.1, ?_⟩, fun e h2 F2 R2 => ⟨rfl, F2.1, ?_⟩⟩
  · rw [bn_pos e] at k
    obtain ⟨g1, g2, dd, g3, g4, -⟩ := (Gd_ft (tp := tp) (L := L) n dp j p c tj.1 tj.2 hp.2).1 e
    generalize (ft tp L n false dp false false j p c).2.1 = j1 at *
    generalize (ft tp L n false dp false false j p c).2.2.1 = p1 at *
    generalize (ft tp L n false dp false false j p c).2.2.2 = c1 at *
    have cl : (c1.length : Int) + nb a + nb o ≤ j1 := by rw [g3, List.length_append]; omega
    have nb1 := nx_b (tp := tp) (L := L) (j := j1) (by omega) (by omega)
    have G2 := F.tr F2
    -- or, or the end
    have orr : ∀ (l4 l5 : Option Value) (h3 : AH), Fr (TUr ru) h h3 → CC h3 tp L j1 p1 (c1 ++ aLc a ++ oL o) ru → ¬ wc tp L j1 = wSc 18 → Ex X PG d 67 0 [some (.ref 46), some (.retAddr 19), none] [] h3 (fun v7 h8 => ∃ r9 : Int, (-2147483648 ≤ r9 ∧ r9 < 2147483648) ∧ v7 = some (.int (J r9)) ∧ SH h3 h8 ∧ Ex X PG (d + 1) 68 4 [some (.ref 46), some (.int (J dp)), some (.int (J r9)), some (.int (J (x3 + 1))), l4, l5] [] h8 Q) := by
      intro l4 l5 h3 G3 R3 nw
      rw [pI_neg nw] at k
      have la : ((c1 ++ aLc a ++ oL o).length : Int) = c1.length + nb a + nb o := by rw [List.length_append, List.length_append]; omega
      refine m67 (G3.C C) (RuleAt_SH G3.1 K) (P46 G3.1 P) hX (by omega) R3.1 (by decide) (fun y => ⟨0, by omega, rfl, SH.rf, ?_⟩) (fun _ y h4 F4 T4 => ⟨1, by omega, rfl, F4.1, ?_⟩)
      · have ny : ¬ wc tp L j1 = wSc 19 := by rcases y with y | y; exact absurd rfl y; exact y
        rw [pI_neg ny] at k
        exact fin4 _ _ _ h3 G3 (by omega) (k.1 rfl h3 G3 R3)
      · rw [pI_pos y] at k
        have ltj := wc_L (by omega) (by omega) (by decide) y
        have G4 := G3.tr (F4.mo (fun _ _ => TTk_u))
        refine r68_4 (G4.C C) (RuleAt_SH G4.1 K) (P46 G4.1 P) ⟨by omega, fun z => absurd z (by omega), fun _ => ⟨by omega, fun z => absurd z (by decide), fun _ => ?_⟩⟩
        have n1 : nb true = 1 := rfl
        have n0 : nb false = 0 := rfl
        exact iT d dp true false (x3 + 1) 0 (nx tp L j1) p1 _ h h4 Q C K P hdp hd ⟨fun _ => by omega, fun _ => rfl⟩ (by decide) (by omega) (by omega) G4 (R3.tk hr.1 F4 T4) (by omega) (by omega) (by omega) k
    -- behind the inner loop
    have aft : ∀ (x : Int) (h3 : AH), 0 ≤ x ∧ x ≤ 100 → Fr (TUr ru) h h3 → CC h3 tp L j1 p1 (c1 ++ aLc a) ru → ¬ wc tp L j1 = wSc 18 → Ex X PG (d + 1) 68 20 [some (.ref 46), some (.int (J dp)), some (.int (J 1)), some (.int (J x3)), some (.int (J 0)), some (.int (J x))] [] h3 Q := by
      intro x h3 hx G3 R3 nw
      have la : ((c1 ++ aLc a).length : Int) = c1.length + nb a := by rw [List.length_append]; omega
      have o0 : x3 ≤ 0 → c1 ++ aLc a ++ oL o = c1 ++ aLc a := fun z => by
        have : o = false := by cases o; rfl; exact absurd (ho.mp rfl) (by omega)
        rw [this]; exact List.append_nil _
      have o1 : ¬ x3 ≤ 0 → oL o = [(13, 0)] ∧ nb o = 1 := fun z => by
        have : o = true := ho.mpr (by omega)
        rw [this]; exact ⟨rfl, rfl⟩
      have go0 : x3 ≤ 0 → _ := fun z => orr (some (.int (J 0))) (some (.int (J x))) h3 G3 (by rw [o0 z]; exact R3) nw
      have go1 : ¬ x3 ≤ 0 → Ex X PG d 9 0 [some (.ref ru), some (.int (J 14)), some (.int (J 0))] [] h3 (fun v12 h13 => v12 = none ∧ SH h3 h13 ∧ Ex X PG d 67 0 [some (.ref 46), some (.retAddr 19), none] [] h13 (fun v14 h15 => ∃ r16 : Int, (-2147483648 ≤ r16 ∧ r16 < 2147483648) ∧ v14 = some (.int (J r16)) ∧ SH h13 h15 ∧ Ex X PG (d + 1) 68 4 [some (.ref 46), some (.int (J dp)), some (.int (J r16)), some (.int (J (x3 + 1))), some (.int (J 0)), some (.int (J x))] [] h15 Q)) := fun z =>
        m9c (o := 13) (G3.C C) (RuleAt_SH G3.1 K) hr (by omega) R3 (by have := (o1 z).2; omega) (by omega) (by decide) (fun h4 F4 R4 => ⟨rfl, F4.1, orr _ _ h4 (G3.tr (F4.mo (fun _ _ => TAd_u))) (by rw [(o1 z).1]; exact R4) nw⟩)
      exact r68_20 (G3.C C) (RuleAt_SH G3.1 K) (P46 G3.1 P) ⟨by omega, fun _ => ⟨by omega, go0, go1⟩, fun _ => ⟨by omega, fun _ => ⟨by omega, go0, go1⟩, fun z => absurd rfl z⟩⟩
    -- and
    have andd : ∀ (h3 : AH), Fr (TUr ru) h h3 → CC h3 tp L j1 p1 (c1 ++ aLc a) ru → Ex X PG d 67 0 [some (.ref 46), some (.retAddr 18), none] [] h3 (fun v41 h42 => ∃ r43 : Int, (-2147483648 ≤ r43 ∧ r43 < 2147483648) ∧ v41 = some (.int (J r43)) ∧ SH h3 h42 ∧ Ex X PG (d + 1) 68 20 [some (.ref 46), some (.int (J dp)), some (.int (J 1)), some (.int (J x3)), some (.int (J r43)), some (.int (J (x5 + 1)))] [] h42 Q) := by
      intro h3 G3 R3
      have la : ((c1 ++ aLc a).length : Int) = c1.length + nb a := by rw [List.length_append]; omega
      refine m67 (G3.C C) (RuleAt_SH G3.1 K) (P46 G3.1 P) hX (by omega) R3.1 (by decide) (fun y => ⟨0, by omega, rfl, SH.rf, ?_⟩) (fun _ y h4 F4 T4 => ⟨1, by omega, rfl, F4.1, ?_⟩)
      · exact aft _ h3 (by omega) G3 R3 (by rcases y with y | y; exact absurd rfl y; exact y)
      · rw [pI_pos y] at k
        have ltj := wc_L (by omega) (by omega) (by decide) y
        have G4 := G3.tr (F4.mo (fun _ _ => TTk_u))
        have n1 : nb true = 1 := rfl
        exact iT d dp o true x3 (x5 + 1) (nx tp L j1) p1 _ h h4 Q C K P hdp hd ho ⟨fun _ => by omega, fun _ => rfl⟩ (by omega) (by omega) G4 (R3.tk hr.1 F4 T4) (by omega) (by omega) (by omega) k
    refine ⟨fun z => ?_, fun z => ?_⟩
    · have a0 : a = false := by cases a; rfl; exact absurd (ha.mp rfl) (by omega)
      refine andd h2 G2 ?_
      rw [a0, show c1 ++ aLc false = c1 from List.append_nil c1]; exact R2
    · have a1 : a = true := ha.mpr (by omega)
      have nA : nb a = 1 := by rw [a1]; rfl
      refine m9c (o := 12) (G2.C C) (RuleAt_SH G2.1 K) hr (by omega) R2 (by omega) (by omega) (by decide) (fun h3 F3 R3 => ⟨rfl, F3.1, ?_⟩)
      refine andd h3 (G2.tr (F3.mo (fun _ _ => TAd_u))) ?_
      rw [a1]; exact R3
  · rw [bn_neg e] at k
    have G2 := F.tr F2
    have orf : ∀ (l4 l5 : Option Value) (h3 : AH), Fr (TUr ru) h h3 → CFm h3 tp L (ft tp L n false dp false false j p c).1 ru → Ex X PG d 67 0 [some (.ref 46), some (.retAddr 19), none] [] h3 (fun v7 h8 => ∃ r9 : Int, (-2147483648 ≤ r9 ∧ r9 < 2147483648) ∧ v7 = some (.int (J r9)) ∧ SH h3 h8 ∧ Ex X PG (d + 1) 68 4 [some (.ref 46), some (.int (J dp)), some (.int (J r9)), some (.int (J (x3 + 1))), l4, l5] [] h8 Q) := by
      intro l4 l5 h3 G3 R3
      obtain ⟨⟨j3, T3⟩, q3⟩ := id R3
      exact m67 (G3.C C) (RuleAt_SH G3.1 K) (P46 G3.1 P) hX (by omega) T3 (by decide) (fun y => ⟨0, by omega, rfl, SH.rf, fin4 _ _ _ h3 G3 (by omega) (k.2 e h3 G3 R3)⟩) (fun z => absurd z e)
    have aftf : ∀ (x : Int) (h3 : AH), 0 ≤ x ∧ x ≤ 100 → Fr (TUr ru) h h3 → CFm h3 tp L (ft tp L n false dp false false j p c).1 ru → Ex X PG (d + 1) 68 20 [some (.ref 46), some (.int (J dp)), some (.int (J 1)), some (.int (J x3)), some (.int (J 0)), some (.int (J x))] [] h3 Q := by
      intro x h3 hx G3 R3
      have go0 : x3 ≤ 0 → _ := fun _ => orf (some (.int (J 0))) (some (.int (J x))) h3 G3 R3
      have go1 : ¬ x3 ≤ 0 → Ex X PG d 9 0 [some (.ref ru), some (.int (J 14)), some (.int (J 0))] [] h3 (fun v12 h13 => v12 = none ∧ SH h3 h13 ∧ Ex X PG d 67 0 [some (.ref 46), some (.retAddr 19), none] [] h13 (fun v14 h15 => ∃ r16 : Int, (-2147483648 ≤ r16 ∧ r16 < 2147483648) ∧ v14 = some (.int (J r16)) ∧ SH h13 h15 ∧ Ex X PG (d + 1) 68 4 [some (.ref 46), some (.int (J dp)), some (.int (J r16)), some (.int (J (x3 + 1))), some (.int (J 0)), some (.int (J x))] [] h15 Q)) := fun _ =>
        m9g (G3.C C) (RuleAt_SH G3.1 K) hr (by omega) R3 (fun h4 F4 R4 => ⟨rfl, F4.1, orf _ _ h4 (G3.tr (F4.mo (fun _ _ => TAd_u))) R4⟩)
      exact r68_20 (G3.C C) (RuleAt_SH G3.1 K) (P46 G3.1 P) ⟨by omega, fun _ => ⟨by omega, go0, go1⟩, fun _ => ⟨by omega, fun _ => ⟨by omega, go0, go1⟩, fun z => absurd rfl z⟩⟩
    have andf : ∀ (h3 : AH), Fr (TUr ru) h h3 → CFm h3 tp L (ft tp L n false dp false false j p c).1 ru → Ex X PG d 67 0 [some (.ref 46), some (.retAddr 18), none] [] h3 (fun v41 h42 => ∃ r43 : Int, (-2147483648 ≤ r43 ∧ r43 < 2147483648) ∧ v41 = some (.int (J r43)) ∧ SH h3 h42 ∧ Ex X PG (d + 1) 68 20 [some (.ref 46), some (.int (J dp)), some (.int (J 1)), some (.int (J x3)), some (.int (J r43)), some (.int (J (x5 + 1)))] [] h42 Q) := by
      intro h3 G3 R3
      obtain ⟨⟨j3, T3⟩, q3⟩ := id R3
      exact m67 (G3.C C) (RuleAt_SH G3.1 K) (P46 G3.1 P) hX (by omega) T3 (by decide) (fun y => ⟨0, by omega, rfl, SH.rf, aftf _ h3 (by omega) G3 R3⟩) (fun z => absurd z e)
    exact ⟨fun _ => andf h2 G2 R2, fun _ => m9g (G2.C C) (RuleAt_SH G2.1 K) hr (by omega) R2 (fun h3 F3 R3 => ⟨rfl, F3.1, andf h3 (G2.tr (F3.mo (fun _ _ => TAd_u))) R3⟩)⟩
theorem FTC (hX : X.2 = X2) (B : BT tp) (hr : 16 ≤ ru ∧ ru + 4 < 46) : ∀ n, FaC X ru tp L n ∧ TeC X ru tp L n := by
  intro n
  induction n with
  | zero => exact ⟨fun d dp j p c h Q _ _ _ _ _ R _ _ hn => by have := R.1.2.2.1; omega, fun d dp o a x3 x5 j p c h h' Q _ _ _ _ _ _ _ _ _ _ R _ _ hn => by have := R.1.2.2.1; omega⟩
  | succ n ih => exact ⟨FaC_s hX B hr ih.1 ih.2, TeC_s hX hr ih.1 ih.2⟩
end
theorem m68 {X : Cst} {d ru : Nat} {L j p : Int} {tp : Int → Int} {c : Cd} {h : AH} {Q : Post} (C : Lay h) (K : RuleAt h ru) (P : hR h 46 1 = some ru) (hX : X.2 = X2) (B : BT tp) (hr : 16 ≤ ru ∧ ru + 4 < 46) (hd : 28 ≤ d) (R : CC h tp L j p c ru) (hc : (c.length : Int) ≤ j) (hp : 0 ≤ p ∧ p ≤ 60) (k : CQu h tp L ru (ft tp L 802 true 0 false false j p c) Q) : Ex X PG d 68 0 [some (.ref 46), some (.int (J 0)), none, none, none, none] [] h Q := by
  obtain ⟨d, rfl⟩ : ∃ e, d = e + 1 := ⟨d - 1, by omega⟩
  have tj := R.1.2.2.1
  have tL := R.1.2.1
  have n0 : nb false = 0 := rfl
  refine r68_0 C K P (r68_4 C K P ⟨by omega, fun z => absurd z (by decide), fun _ => ⟨by omega, fun z => absurd z (by decide), fun _ => ?_⟩⟩)
  exact (FTC hX B hr 802).2 d 0 false false 0 0 j p c h h Q C K P (by omega) (by omega) (by decide) (by decide) (by omega) (by omega) Fr.rf R (by omega) hp (by omega) k
