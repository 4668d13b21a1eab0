/-! RULES as the class reads them: clauses, texts. -/
def EnC (h : AH) (ru : Nat) (e : En) : Prop := fI h ru 5 = e.length ∧ ∀ k : Int, 0 ≤ k → k < e.length → aI h (ru + 2) k = (eX e k).1 ∧ aI h (ru + 3) k = (eX e k).2
def TEn (ru c k : Nat) : Prop := (c = ru ∧ k = 5) ∨ c = ru + 2 ∨ c = ru + 3
theorem EnC.fr {T : Nat → Nat → Prop} {h h' : AH} {ru : Nat} {e : En} (G : EnC h ru e) (F : Fr T h h') (n : ∀ a k, T a k → ¬ TEn ru a k) : EnC h' ru e := by
  unfold EnC
  rw [F.f ru 5 (fun z => n _ _ z (Or.inl ⟨rfl, rfl⟩)), F.a (ru + 2) (fun k z => n _ _ z (Or.inr (Or.inl rfl))), F.a (ru + 3) (fun k z => n _ _ z (Or.inr (Or.inr rfl)))]
  exact G
-- OutwardDoors$Rule.addClause(I)V at 0
set_option maxRecDepth 20000 in
set_option maxHeartbeats 4000000 in
theorem r10_0 {X : Cst} {d : Nat} {a : Nat} {x1 : Int} {h : AH} {Q : Post} (C_h : Lay h) (K_h_0 : RuleAt h a)
  (w : ((12 ≤ fI h a 5 → Q none h) ∧ (¬ 12 ≤ fI h a 5 → (0 ≤ fI h a 5 ∧ fI h a 5 < 12) ∧ Ex X PG (d + 1) 10 19 [some (.ref a), some (.int (J x1))] [] (wA h (a + 2) (fI h a 5) x1) Q))) :
    Ex X PG (d + 1) 10 0 [some (.ref a), some (.int (J x1))] [] h Q := by
  refine wpx_ok (cut := [19, 32]) 10 d 10 0 _ _ _ _ ?_
  show hs h a = (0, 4) ∧ (((J 12) ≤ (hF h a 5) → Q none h) ∧ (¬ ((J 12) ≤ (hF h a 5)) → hs h a = (0, 4) ∧ ∃ q3, hR h a 1 = some q3 ∧ hs h a = (0, 4) ∧ (hs h q3).1 = 1 ∧ ix (hF h a 5) (hs h q3).2 ∧ Ex X PG (d + 1) 10 19 [some (.ref a), some (.int (J x1))] [] (wI h q3 (Int32.toNatClampNeg (hF h a 5)) (J x1)) Q))
  try simp only [aI_wAL, fI_wAL, aL_wA, aL_wF, aI_wA_ne, aI_wF_ne, fI_wA_ne, fI_wF_ne, fI_wF_nk, aL_wAL_ne, J_sameA, J_sameF, aL_same, Nat.add_left_cancel_iff, Nat.add_eq_left, Nat.left_eq_add, not_false_eq_true, Nat.reduceEqDiff, Nat.reduceAdd, J_add, J_sub, J_mul, J_neg, J_and, J_or, J_xor, J_shl, J_shr, J_div, J_i2b, J_i2l, J_l2i, J_lcm, J_max, J_min, J_nab, J_nao, rdA, rdF, rdL, wA_fold, wF_fold, wL_fold, wC_fold]
  refine ⟨(rule_0 K_h_0), ?_⟩
  refine ⟨fun c1 => ?_, fun c1 => ?_⟩
  · have t2 : 12 ≤ fI h a 5 := ((Jle (by decide) (rg_toInt _)).mp c1)
    replace w := w.1 t2
    exact w
  · have t2 : ¬ 12 ≤ fI h a 5 := (fun e => c1 ((Jle (by decide) (rg_toInt _)).mpr e))
    replace w := w.2 t2
    refine ⟨(rule_0 K_h_0), _, (rule_6 K_h_0), ?_⟩
    refine ⟨(rule_0 K_h_0), ?_⟩
    obtain ⟨k4, w⟩ := w
    refine ⟨congrArg Prod.fst (rule_2 K_h_0), ixs (rule_2 K_h_0) k4 (by decide), ?_⟩
    exact w
-- OutwardDoors$Rule.addClause(I)V at 19
set_option maxRecDepth 20000 in
set_option maxHeartbeats 4000000 in
theorem r10_19 {X : Cst} {d : Nat} {a : Nat} {x1 : Int} {h : AH} {Q : Post} (C_h : Lay h) (K_h_0 : RuleAt h a)
  (w : (0 ≤ fI h a 5 ∧ fI h a 5 < 12) ∧ Ex X PG (d + 1) 10 32 [some (.ref a), some (.int (J x1))] [] (wA h (a + 3) (fI h a 5) (fI h a 4)) Q) :
    Ex X PG (d + 1) 10 19 [some (.ref a), some (.int (J x1))] [] h Q := by
  refine wpx_ok (cut := [19, 32]) 7 d 10 19 _ _ _ _ ?_
  show hs h a = (0, 4) ∧ ∃ q1, hR h a 2 = some q1 ∧ hs h a = (0, 4) ∧ hs h a = (0, 4) ∧ (hs h q1).1 = 1 ∧ ix (hF h a 5) (hs h q1).2 ∧ Ex X PG (d + 1) 10 32 [some (.ref a), some (.int (J x1))] [] (wI h q1 (Int32.toNatClampNeg (hF h a 5)) (hF h a 4)) Q
  try simp only [aI_wAL, fI_wAL, aL_wA, aL_wF, aI_wA_ne, aI_wF_ne, fI_wA_ne, fI_wF_ne, fI_wF_nk, aL_wAL_ne, J_sameA, J_sameF, aL_same, Nat.add_left_cancel_iff, Nat.add_eq_left, Nat.left_eq_add, not_false_eq_true, Nat.reduceEqDiff, Nat.reduceAdd, J_add, J_sub, J_mul, J_neg, J_and, J_or, J_xor, J_shl, J_shr, J_div, J_i2b, J_i2l, J_l2i, J_lcm, J_max, J_min, J_nab, J_nao, rdA, rdF, rdL, wA_fold, wF_fold, wL_fold, wC_fold]
  refine ⟨(rule_0 K_h_0), _, (rule_7 K_h_0), ?_⟩
  refine ⟨(rule_0 K_h_0), ?_⟩
  refine ⟨(rule_0 K_h_0), ?_⟩
  obtain ⟨k2, w⟩ := w
  refine ⟨congrArg Prod.fst (rule_3 K_h_0), ixs (rule_3 K_h_0) k2 (by decide), ?_⟩
  exact w
-- OutwardDoors$Rule.addClause(I)V at 32
set_option maxRecDepth 20000 in
set_option maxHeartbeats 4000000 in
theorem r10_32 {X : Cst} {d : Nat} {a : Nat} {x1 : Int} {h : AH} {Q : Post} (C_h : Lay h) (K_h_0 : RuleAt h a)
  (w : Q none (wF h a 5 ((fI h a 5) + 1))) :
    Ex X PG (d + 1) 10 32 [some (.ref a), some (.int (J x1))] [] h Q := by
  refine wpx_ok (cut := [19, 32]) 7 d 10 32 _ _ _ _ ?_
  show hs h a = (0, 4) ∧ hs h a = (0, 4) ∧ Q none (wG h a 5 ((hF h a 5) + (J 1)))
  try simp only [aI_wAL, fI_wAL, aL_wA, aL_wF, aI_wA_ne, aI_wF_ne, fI_wA_ne, fI_wF_ne, fI_wF_nk, aL_wAL_ne, J_sameA, J_sameF, aL_same, Nat.add_left_cancel_iff, Nat.add_eq_left, Nat.left_eq_add, not_false_eq_true, Nat.reduceEqDiff, Nat.reduceAdd, J_add, J_sub, J_mul, J_neg, J_and, J_or, J_xor, J_shl, J_shr, J_div, J_i2b, J_i2l, J_l2i, J_lcm, J_max, J_min, J_nab, J_nao, rdA, rdF, rdL, wA_fold, wF_fold, wL_fold, wC_fold]
  refine ⟨(rule_0 K_h_0), ?_⟩
  refine ⟨(rule_0 K_h_0), ?_⟩
  exact w
theorem m10 {X : Cst} {d ru : Nat} {s t : Int} {e : En} {h : AH} {Q : Post} (C : Lay h) (K : RuleAt h ru) (hd : 1 ≤ d) (E : EnC h ru e) (he : e.length < 12) (et : fI h ru 4 = t) (ht : -2147483648 ≤ t ∧ t < 2147483648) (hs' : -2147483648 ≤ s ∧ s < 2147483648) (k : ∀ h', Fr (TEn ru) h h' → EnC h' ru (e ++ [(s, t)]) → Q none h') : Ex X PG d 10 0 [some (.ref ru), some (.int (J s))] [] h Q := by
  obtain ⟨d, rfl⟩ : ∃ e, d = e + 1 := ⟨d - 1, by omega⟩
  have s1 : SH h (wA h (ru + 2) e.length s) := SH.rf.wA
  have s2 : SH h (wA (wA h (ru + 2) e.length s) (ru + 3) e.length t) := s1.wA
  refine r10_0 C K ?_
  rw [E.1]
  refine ⟨fun z => absurd z (by omega), fun _ => ⟨by omega, r10_19 (Lay_SH s1 C) (RuleAt_SH s1 K) ?_⟩⟩
  rw [fI_wA_ne (by omega), E.1, et]
  refine ⟨by omega, r10_32 (Lay_SH s2 C) (RuleAt_SH s2 K) ?_⟩
  rw [fI_wA_ne (by omega), fI_wA_ne (by omega), E.1]
  refine k _ (((Fr.rf.wA (Or.inr (Or.inl rfl))).wA (Or.inr (Or.inr rfl))).wF (Or.inl ⟨rfl, rfl⟩)) ⟨by rw [fI_wF_eq (by omega), len_ap], fun i i0 i1 => ?_⟩
  rw [len_ap] at i1
  rw [aI_wF_ne (by omega), aI_wA_ne (by omega), aI_wA hs', aI_wF_ne (by omega), aI_wA ht, aI_wA_ne (by omega)]
  by_cases q : i = e.length
  · rw [q, uu_eq, uu_eq, eX_eq]; exact ⟨rfl, rfl⟩
  · rw [uu_ne (by omega) (by omega) q, uu_ne (by omega) (by omega) q, eX_lt (by omega)]; exact E.2 i i0 (by omega)
theorem m10f {X : Cst} {d ru : Nat} {s : Int} {h : AH} {Q : Post} (C : Lay h) (K : RuleAt h ru) (hd : 1 ≤ d) (h5 : 0 ≤ fI h ru 5) (k : ∀ h', Fr (TEn ru) h h' → Q none h') : Ex X PG d 10 0 [some (.ref ru), some (.int (J s))] [] h Q := by
  obtain ⟨d, rfl⟩ : ∃ e, d = e + 1 := ⟨d - 1, by omega⟩
  refine r10_0 C K ⟨fun _ => k h Fr.rf, fun n => ⟨by omega, ?_⟩⟩
  have F1 : Fr (TEn ru) h (wA h (ru + 2) (fI h ru 5) s) := Fr.rf.wA (Or.inr (Or.inl rfl))
  refine r10_19 (F1.C C) (RuleAt_SH F1.1 K) ?_
  rw [fI_wA_ne (by omega)]
  have F2 := F1.wA (c := ru + 3) (e := fI h ru 5) (v := fI h ru 4) (Or.inr (Or.inr rfl))
  refine ⟨by omega, r10_32 (F2.C C) (RuleAt_SH F2.1 K) ?_⟩
  exact k _ (F2.wF (Or.inl ⟨rfl, rfl⟩))
-- OutwardDoors$RuleReader.mayGo()Z at 0
set_option maxRecDepth 20000 in
set_option maxHeartbeats 4000000 in
theorem r59_0 {X : Cst} {d : Nat} {ru : Nat} {h : AH} {Q : Post} (C_h : Lay h) (K_h_0 : RuleAt h ru) (P_h : hR h 46 1 = some ru)
  (w : Ex X PG d 31 0 [some (.ref 1), some (.retAddr 6), none] [] h (fun v2 h3 => ∃ r4 : Int, (-2147483648 ≤ r4 ∧ r4 < 2147483648) ∧ v2 = some (.int (J r4)) ∧ SH h h3 ∧ ((¬ r4 = 0 → ((fI h3 ru 5 < 12 → ((¬ fI h3 1 6 = 0 → Q (some (.int (J 0))) h3) ∧ (fI h3 1 6 = 0 → Q (some (.int (J 1))) h3))) ∧ (¬ fI h3 ru 5 < 12 → Ex X PG d 32 0 [some (.ref 1), some (.int (J 4))] [] h3 (fun v14 h15 => v14 = none ∧ SH h3 h15 ∧ ((¬ fI h15 1 6 = 0 → Q (some (.int (J 0))) h15) ∧ (fI h15 1 6 = 0 → Q (some (.int (J 1))) h15)))))) ∧ (r4 = 0 → Ex X PG d 32 0 [some (.ref 1), some (.int (J 0))] [] h3 (fun v21 h22 => v21 = none ∧ SH h3 h22 ∧ ((¬ fI h22 1 6 = 0 → Q (some (.int (J 0))) h22) ∧ (fI h22 1 6 = 0 → Q (some (.int (J 1))) h22))))))) :
    Ex X PG (d + 1) 59 0 [some (.ref 46)] [] h Q := by
  refine wpx_ok (cut := []) 21 d 59 0 _ _ _ _ ?_
  show hs h 46 = (0, 5) ∧ ∃ q1, hR h 46 0 = some q1 ∧ hs h q1 = (0, 8) ∧ Ex X PG d 31 0 [some (.ref q1), some (.retAddr 6), none] [] h (fun v2 h3 => ∃ r4, v2 = some (.int r4) ∧ ((¬ r4 = (J 0) → hs h3 46 = (0, 5) ∧ ∃ q7, hR h3 46 1 = some q7 ∧ hs h3 q7 = (0, 4) ∧ (((hF h3 q7 5) < (J 12) → hs h3 46 = (0, 5) ∧ ∃ q10, hR h3 46 0 = some q10 ∧ hs h3 q10 = (0, 8) ∧ ((¬ (hF h3 q10 6) = (J 0) → (J 0 = J 0 ∨ J 0 = J 1) ∧ Q (some (.int (J 0))) h3) ∧ (¬ (¬ (hF h3 q10 6) = (J 0)) → (J 1 = J 0 ∨ J 1 = J 1) ∧ Q (some (.int (J 1))) h3))) ∧ (¬ ((hF h3 q7 5) < (J 12)) → hs h3 46 = (0, 5) ∧ ∃ q13, hR h3 46 0 = some q13 ∧ hs h3 q13 = (0, 8) ∧ Ex X PG d 32 0 [some (.ref q13), some (.int (J 4))] [] h3 (fun v14 h15 => v14 = none ∧ hs h15 46 = (0, 5) ∧ ∃ q16, hR h15 46 0 = some q16 ∧ hs h15 q16 = (0, 8) ∧ ((¬ (hF h15 q16 6) = (J 0) → (J 0 = J 0 ∨ J 0 = J 1) ∧ Q (some (.int (J 0))) h15) ∧ (¬ (¬ (hF h15 q16 6) = (J 0)) → (J 1 = J 0 ∨ J 1 = J 1) ∧ Q (some (.int (J 1))) h15)))))) ∧ (¬ (¬ r4 = (J 0)) → hs h3 46 = (0, 5) ∧ ∃ q20, hR h3 46 0 = some q20 ∧ hs h3 q20 = (0, 8) ∧ Ex X PG d 32 0 [some (.ref q20), some (.int (J 0))] [] h3 (fun v21 h22 => v21 = none ∧ hs h22 46 = (0, 5) ∧ ∃ q23, hR h22 46 0 = some q23 ∧ hs h22 q23 = (0, 8) ∧ ((¬ (hF h22 q23 6) = (J 0) → (J 0 = J 0 ∨ J 0 = J 1) ∧ Q (some (.int (J 0))) h22) ∧ (¬ (¬ (hF h22 q23 6) = (J 0)) → (J 1 = J 0 ∨ J 1 = J 1) ∧ Q (some (.int (J 1))) h22))))))
  try simp only [aI_wAL, fI_wAL, aL_wA, aL_wF, aI_wA_ne, aI_wF_ne, fI_wA_ne, fI_wF_ne, fI_wF_nk, aL_wAL_ne, J_sameA, J_sameF, aL_same, Nat.add_left_cancel_iff, Nat.add_eq_left, Nat.left_eq_add, not_false_eq_true, Nat.reduceEqDiff, Nat.reduceAdd, J_add, J_sub, J_mul, J_neg, J_and, J_or, J_xor, J_shl, J_shr, J_div, J_i2b, J_i2l, J_l2i, J_lcm, J_max, J_min, J_nab, J_nao, rdA, rdF, rdL, wA_fold, wF_fold, wL_fold, wC_fold]
  refine ⟨(ls46 C_h), _, (lr46_0 C_h), ?_⟩
  refine ⟨(ls1 C_h), ?_⟩
  refine Ex.mono w (Nat.le_refl _) ?_
  rintro v2 h3 ⟨r4, gr4, rfl, s27, w⟩
  refine ⟨_, rfl, ?_⟩
  have C_h3 := Lay_SH s27 C_h
  have K_h3_0 := RuleAt_SH s27 K_h_0
  have P_h3 := (congrFun (congrFun s27.2 46) 1).trans P_h
  try simp only [aI_wAL, fI_wAL, aL_wA, aL_wF, aI_wA_ne, aI_wF_ne, fI_wA_ne, fI_wF_ne, fI_wF_nk, aL_wAL_ne, J_sameA, J_sameF, aL_same, Nat.add_left_cancel_iff, Nat.add_eq_left, Nat.left_eq_add, not_false_eq_true, Nat.reduceEqDiff, Nat.reduceAdd, J_add, J_sub, J_mul, J_neg, J_and, J_or, J_xor, J_shl, J_shr, J_div, J_i2b, J_i2l, J_l2i, J_lcm, J_max, J_min, J_nab, J_nao, rdA, rdF, rdL, wA_fold, wF_fold, wL_fold, wC_fold]
  refine ⟨fun c5 => ?_, fun c5 => ?_⟩
  · have t6 : ¬ r4 = 0 := (fun e => c5 ((Jeq gr4 (by decide)).mpr e))
    replace w := w.1 t6
    refine ⟨(ls46 C_h3), _, P_h3, ?_⟩
    refine ⟨(rule_0 K_h3_0), ?_⟩
    refine ⟨fun c8 => ?_, fun c8 => ?_⟩
    · have t9 : fI h3 ru 5 < 12 := ((Jlt (rg_toInt _) (by decide)).mp c8)
      replace w := w.1 t9
      refine ⟨(ls46 C_h3), _, (lr46_0 C_h3), ?_⟩
      refine ⟨(ls1 C_h3), ?_⟩
      refine ⟨fun c11 => ?_, fun c11 => ?_⟩
      · have t12 : ¬ fI h3 1 6 = 0 := (fun e => c11 ((Jeq (rg_toInt _) (by decide)).mpr e))
        replace w := w.1 t12
        exact ⟨(Or.inl (by trivial)), w⟩
      · have t12 : fI h3 1 6 = 0 := ((Jeq (rg_toInt _) (by decide)).mp (Classical.byContradiction c11))
        replace w := w.2 t12
        exact ⟨(Or.inr (by trivial)), w⟩
    · have t9 : ¬ fI h3 ru 5 < 12 := (fun e => c8 ((Jlt (rg_toInt _) (by decide)).mpr e))
      replace w := w.2 t9
      refine ⟨(ls46 C_h3), _, (lr46_0 C_h3), ?_⟩
      refine ⟨(ls1 C_h3), ?_⟩
      refine Ex.mono w (Nat.le_refl _) ?_
      rintro v14 h15 ⟨rfl, s19, w⟩
      refine ⟨rfl, ?_⟩
      have C_h15 := Lay_SH s19 C_h3
      have K_h15_0 := RuleAt_SH s19 K_h3_0
      have P_h15 := (congrFun (congrFun s19.2 46) 1).trans P_h3
      try simp only [aI_wAL, fI_wAL, aL_wA, aL_wF, aI_wA_ne, aI_wF_ne, fI_wA_ne, fI_wF_ne, fI_wF_nk, aL_wAL_ne, J_sameA, J_sameF, aL_same, Nat.add_left_cancel_iff, Nat.add_eq_left, Nat.left_eq_add, not_false_eq_true, Nat.reduceEqDiff, Nat.reduceAdd, J_add, J_sub, J_mul, J_neg, J_and, J_or, J_xor, J_shl, J_shr, J_div, J_i2b, J_i2l, J_l2i, J_lcm, J_max, J_min, J_nab, J_nao, rdA, rdF, rdL, wA_fold, wF_fold, wL_fold, wC_fold]
      refine ⟨(ls46 C_h15), _, (lr46_0 C_h15), ?_⟩
      refine ⟨(ls1 C_h15), ?_⟩
      refine ⟨fun c17 => ?_, fun c17 => ?_⟩
      · have t18 : ¬ fI h15 1 6 = 0 := (fun e => c17 ((Jeq (rg_toInt _) (by decide)).mpr e))
        replace w := w.1 t18
        exact ⟨(Or.inl (by trivial)), w⟩
      · have t18 : fI h15 1 6 = 0 := ((Jeq (rg_toInt _) (by decide)).mp (Classical.byContradiction c17))
        replace w := w.2 t18
        exact ⟨(Or.inr (by trivial)), w⟩
  · have t6 : r4 = 0 := ((Jeq gr4 (by decide)).mp (Classical.byContradiction c5))
    replace w := w.2 t6
    refine ⟨(ls46 C_h3), _, (lr46_0 C_h3), ?_⟩
    refine ⟨(ls1 C_h3), ?_⟩
    refine Ex.mono w (Nat.le_refl _) ?_
    rintro v21 h22 ⟨rfl, s26, w⟩
    refine ⟨rfl, ?_⟩
    have C_h22 := Lay_SH s26 C_h3
    have K_h22_0 := RuleAt_SH s26 K_h3_0
    have P_h22 := (congrFun (congrFun s26.2 46) 1).trans P_h3
    try simp only [aI_wAL, fI_wAL, aL_wA, aL_wF, aI_wA_ne, aI_wF_ne, fI_wA_ne, fI_wF_ne, fI_wF_nk, aL_wAL_ne, J_sameA, J_sameF, aL_same, Nat.add_left_cancel_iff, Nat.add_eq_left, Nat.left_eq_add, not_false_eq_true, Nat.reduceEqDiff, Nat.reduceAdd, J_add, J_sub, J_mul, J_neg, J_and, J_or, J_xor, J_shl, J_shr, J_div, J_i2b, J_i2l, J_l2i, J_lcm, J_max, J_min, J_nab, J_nao, rdA, rdF, rdL, wA_fold, wF_fold, wL_fold, wC_fold]
    refine ⟨(ls46 C_h22), _, (lr46_0 C_h22), ?_⟩
    refine ⟨(ls1 C_h22), ?_⟩
    refine ⟨fun c24 => ?_, fun c24 => ?_⟩
    · have t25 : ¬ fI h22 1 6 = 0 := (fun e => c24 ((Jeq (rg_toInt _) (by decide)).mpr e))
      replace w := w.1 t25
      exact ⟨(Or.inl (by trivial)), w⟩
    · have t25 : fI h22 1 6 = 0 := ((Jeq (rg_toInt _) (by decide)).mp (Classical.byContradiction c24))
      replace w := w.2 t25
      exact ⟨(Or.inr (by trivial)), w⟩
theorem m59 {X : Cst} {d ru : Nat} {L j n : Int} {tp : Int → Int} {h : AH} {Q : Post} (C : Lay h) (K : RuleAt h ru) (P : hR h 46 1 = some ru) (hX : X.2 = X2) (hr : 16 ≤ ru) (hd : 2 ≤ d) (T : TkC h tp L j 0) (en : fI h ru 5 = n)
    (k1 : wc tp L j = wSc 6 → n < 12 → Q (some (.int (J 1))) h) (k2 : wc tp L j = wSc 6 → ¬ n < 12 → Q (some (.int (J 0))) (wF h 1 6 (1 + 8 * j + 4))) (k3 : ¬ wc tp L j = wSc 6 → Q (some (.int (J 0))) (wF h 1 6 (1 + 8 * j + 0))) : Ex X PG d 59 0 [some (.ref 46)] [] h Q := by
  obtain ⟨d, rfl⟩ : ∃ e, d = e + 1 := ⟨d - 1, by omega⟩
  have tj := T.2.2.1
  have tL := T.2.1
  have e3 := T.2.2.2.1
  have e6 := T.2.2.2.2.2.2.2
  refine r59_0 C K P ?_
  refine m31s C (by omega) hX T (s := 6) (by decide) (fun y => ⟨1, by omega, rfl, SH.rf, fun _ => ?_, fun z => absurd z (by decide)⟩) (fun y => ⟨0, by omega, rfl, SH.rf, fun z => absurd rfl z, fun _ => ?_⟩)
  · rw [en]
    refine ⟨fun lt => ⟨fun z => absurd e6 z, fun _ => k1 y lt⟩, fun lt => ?_⟩
    refine m32 C (by omega) (fun z => absurd e6 z) (fun _ => ?_)
    rw [e3]
    refine ⟨rfl, SH.rf.wF, ?_⟩
    rw [fI_wF_eq (by omega)]
    exact ⟨fun _ => k2 y lt, fun z => by omega⟩
  · refine m32 C (by omega) (fun z => absurd e6 z) (fun _ => ?_)
    rw [e3]
    refine ⟨rfl, SH.rf.wF, ?_⟩
    rw [fI_wF_eq (by omega)]
    exact ⟨fun _ => k3 y, fun z => by omega⟩
def TUs (ru c k : Nat) : Prop := (c = 1 ∧ 2 ≤ k) ∨ (c = 46 ∧ k = 2) ∨ TAd ru c k ∨ TEn ru c k
theorem TUr_s {ru c k : Nat} (z : TUr ru c k) : TUs ru c k := by unfold TUr TTf TAd at z; unfold TUs TAd TEn; omega
theorem TTk_s {ru c k : Nat} (z : TTk c k) : TUs ru c k := TUr_s (TTk_u z)
theorem TTf_s {ru c k : Nat} (z : TTf c k) : TUs ru c k := TUr_s (Or.inl z)
theorem TEn_s {ru c k : Nat} (z : TEn ru c k) : TUs ru c k := Or.inr (Or.inr (Or.inr z))
def CQt (h : AH) (ru : Nat) (r : RT) (Q : Post) : Prop := (r.1 = 0 → ∀ h', Fr (TUs ru) h h' → CoC h' ru r.2.2.2.1 → EnC h' ru r.2.2.2.2 → fI h' 1 6 = 0 → Q none h') ∧ (¬ r.1 = 0 → ∀ h', Fr (TUs ru) h h' → fI h' 1 6 = r.1 → Q none h')
-- OutwardDoors$RuleReader.read(LOutwardDoors$Rule;)V at 28
set_option maxRecDepth 20000 in
set_option maxHeartbeats 4000000 in
theorem r58_28 {X : Cst} {d : Nat} {ru : Nat} {x2 : Int} {x3 : Int} {l4 : Option Value} {h : AH} {Q : Post} (C_h : Lay h) (K_h_0 : RuleAt h ru) (P_h : hR h 46 1 = some ru)
  (w : (-2147483648 ≤ x3 ∧ x3 < 2147483648) ∧ ((12 < x3 → Q none h) ∧ (¬ 12 < x3 → (-2147483648 ≤ x2 ∧ x2 < 2147483648) ∧ ((x2 = 0 → Q none h) ∧ (¬ x2 = 0 → Ex X PG d 59 0 [some (.ref 46)] [] h (fun v7 h8 => ∃ r9 : Int, (-2147483648 ≤ r9 ∧ r9 < 2147483648) ∧ v7 = some (.int (J r9)) ∧ SH h h8 ∧ ((r9 = 0 → Ex X PG d 44 0 [some (.ref 1)] [] h8 (fun v13 h14 => ∃ r15 : Int, (-2147483648 ≤ r15 ∧ r15 < 2147483648) ∧ v13 = some (.int (J r15)) ∧ SH h8 h14 ∧ Ex X PG (d + 1) 58 28 [some (.ref 46), some (.ref ru), some (.int (J r15)), some (.int (J (x3 + 1))), l4] [] h14 Q)) ∧ (¬ r9 = 0 → Ex X PG d 24 0 [some (.ref 1), none] [] h8 (fun v18 h19 => v18 = none ∧ SH h8 h19 ∧ Ex X PG d 60 0 [some (.ref 46), none, none, none, none, none, none] [] h19 (fun v20 h21 => v20 = none ∧ SH h19 h21 ∧ Ex X PG d 67 0 [some (.ref 46), some (.retAddr 16), none] [] h21 (fun v23 h24 => ∃ r25 : Int, (-2147483648 ≤ r25 ∧ r25 < 2147483648) ∧ v23 = some (.int (J r25)) ∧ SH h21 h24 ∧ ((r25 = 0 → Ex X PG d 10 0 [some (.ref ru), some (.int (J (fI h21 ru 4)))] [] h24 (fun v29 h30 => v29 = none ∧ SH h24 h30 ∧ Ex X PG d 44 0 [some (.ref 1)] [] h30 (fun v32 h33 => ∃ r34 : Int, (-2147483648 ≤ r34 ∧ r34 < 2147483648) ∧ v32 = some (.int (J r34)) ∧ SH h30 h33 ∧ Ex X PG (d + 1) 58 28 [some (.ref 46), some (.ref ru), some (.int (J r34)), some (.int (J (x3 + 1))), some (.int (J (fI h21 ru 4)))] [] h33 Q))) ∧ (¬ r25 = 0 → Ex X PG d 68 0 [some (.ref 46), some (.int (J 0)), none, none, none, none] [] h24 (fun v37 h38 => v37 = none ∧ SH h24 h38 ∧ Ex X PG d 10 0 [some (.ref ru), some (.int (J (fI h21 ru 4)))] [] h38 (fun v40 h41 => v40 = none ∧ SH h38 h41 ∧ Ex X PG d 44 0 [some (.ref 1)] [] h41 (fun v43 h44 => ∃ r45 : Int, (-2147483648 ≤ r45 ∧ r45 < 2147483648) ∧ v43 = some (.int (J r45)) ∧ SH h41 h44 ∧ Ex X PG (d + 1) 58 28 [some (.ref 46), some (.ref ru), some (.int (J r45)), some (.int (J (x3 + 1))), some (.int (J (fI h21 ru 4)))] [] h44 Q)))))))))))))))) :
    Ex X PG (d + 1) 58 28 [some (.ref 46), some (.ref ru), some (.int (J x2)), some (.int (J x3)), l4] [] h Q := by
  refine wpx_ok (cut := [28]) 34 d 58 28 _ _ _ _ ?_
  show (((J 12) < (J x3) → Q none h) ∧ (¬ ((J 12) < (J x3)) → (((J x2) = (J 0) → Q none h) ∧ (¬ ((J x2) = (J 0)) → hs h 46 = (0, 5) ∧ Ex X PG d 59 0 [some (.ref 46)] [] h (fun v7 h8 => ∃ r9, v7 = some (.int r9) ∧ ((r9 = (J 0) → hs h8 46 = (0, 5) ∧ ∃ q12, hR h8 46 0 = some q12 ∧ hs h8 q12 = (0, 8) ∧ Ex X PG d 44 0 [some (.ref q12)] [] h8 (fun v13 h14 => ∃ r15, v13 = some (.int r15) ∧ Ex X PG (d + 1) 58 28 [some (.ref 46), some (.ref ru), some (.int r15), some (.int ((J x3) + (J 1))), l4] [] h14 Q)) ∧ (¬ (r9 = (J 0)) → hs h8 46 = (0, 5) ∧ ∃ q17, hR h8 46 0 = some q17 ∧ hs h8 q17 = (0, 8) ∧ Ex X PG d 24 0 [some (.ref q17), none] [] h8 (fun v18 h19 => v18 = none ∧ hs h19 46 = (0, 5) ∧ Ex X PG d 60 0 [some (.ref 46), none, none, none, none, none, none] [] h19 (fun v20 h21 => v20 = none ∧ hs h21 46 = (0, 5) ∧ ∃ q22, hR h21 46 1 = some q22 ∧ hs h21 q22 = (0, 4) ∧ hs h21 46 = (0, 5) ∧ Ex X PG d 67 0 [some (.ref 46), some (.retAddr 16), none] [] h21 (fun v23 h24 => ∃ r25, v23 = some (.int r25) ∧ ((r25 = (J 0) → hs h24 46 = (0, 5) ∧ ∃ q28, hR h24 46 1 = some q28 ∧ hs h24 q28 = (0, 4) ∧ Ex X PG d 10 0 [some (.ref q28), some (.int (hF h21 q22 4))] [] h24 (fun v29 h30 => v29 = none ∧ hs h30 46 = (0, 5) ∧ ∃ q31, hR h30 46 0 = some q31 ∧ hs h30 q31 = (0, 8) ∧ Ex X PG d 44 0 [some (.ref q31)] [] h30 (fun v32 h33 => ∃ r34, v32 = some (.int r34) ∧ Ex X PG (d + 1) 58 28 [some (.ref 46), some (.ref ru), some (.int r34), some (.int ((J x3) + (J 1))), some (.int (hF h21 q22 4))] [] h33 Q))) ∧ (¬ (r25 = (J 0)) → hs h24 46 = (0, 5) ∧ Ex X PG d 68 0 [some (.ref 46), some (.int (J 0)), none, none, none, none] [] h24 (fun v37 h38 => v37 = none ∧ hs h38 46 = (0, 5) ∧ ∃ q39, hR h38 46 1 = some q39 ∧ hs h38 q39 = (0, 4) ∧ Ex X PG d 10 0 [some (.ref q39), some (.int (hF h21 q22 4))] [] h38 (fun v40 h41 => v40 = none ∧ hs h41 46 = (0, 5) ∧ ∃ q42, hR h41 46 0 = some q42 ∧ hs h41 q42 = (0, 8) ∧ Ex X PG d 44 0 [some (.ref q42)] [] h41 (fun v43 h44 => ∃ r45, v43 = some (.int r45) ∧ Ex X PG (d + 1) 58 28 [some (.ref 46), some (.ref ru), some (.int r45), some (.int ((J x3) + (J 1))), some (.int (hF h21 q22 4))] [] h44 Q)))))))))))))))
  try simp only [aI_wAL, fI_wAL, aL_wA, aL_wF, aI_wA_ne, aI_wF_ne, fI_wA_ne, fI_wF_ne, fI_wF_nk, aL_wAL_ne, J_sameA, J_sameF, aL_same, Nat.add_left_cancel_iff, Nat.add_eq_left, Nat.left_eq_add, not_false_eq_true, Nat.reduceEqDiff, Nat.reduceAdd, J_add, J_sub, J_mul, J_neg, J_and, J_or, J_xor, J_shl, J_shr, J_div, J_i2b, J_i2l, J_l2i, J_lcm, J_max, J_min, J_nab, J_nao, rdA, rdF, rdL, wA_fold, wF_fold, wL_fold, wC_fold]
  obtain ⟨k3, w⟩ := w
  refine ⟨fun c1 => ?_, fun c1 => ?_⟩
  · have t2 : 12 < x3 := ((Jlt (by decide) k3).mp c1)
    replace w := w.1 t2
    exact w
  · have t2 : ¬ 12 < x3 := (fun e => c1 ((Jlt (by decide) k3).mpr e))
    replace w := w.2 t2
    obtain ⟨k6, w⟩ := w
    refine ⟨fun c4 => ?_, fun c4 => ?_⟩
    · have t5 : x2 = 0 := ((Jeq k6 (by decide)).mp c4)
      replace w := w.1 t5
      exact w
    · have t5 : ¬ x2 = 0 := (fun e => c4 ((Jeq k6 (by decide)).mpr e))
      replace w := w.2 t5
      refine ⟨(ls46 C_h), ?_⟩
      refine Ex.mono w (Nat.le_refl _) ?_
      rintro v7 h8 ⟨r9, gr9, rfl, s52, w⟩
      refine ⟨_, rfl, ?_⟩
      have C_h8 := Lay_SH s52 C_h
      have K_h8_0 := RuleAt_SH s52 K_h_0
      have P_h8 := (congrFun (congrFun s52.2 46) 1).trans P_h
      try simp only [aI_wAL, fI_wAL, aL_wA, aL_wF, aI_wA_ne, aI_wF_ne, fI_wA_ne, fI_wF_ne, fI_wF_nk, aL_wAL_ne, J_sameA, J_sameF, aL_same, Nat.add_left_cancel_iff, Nat.add_eq_left, Nat.left_eq_add, not_false_eq_true, Nat.reduceEqDiff, Nat.reduceAdd, J_add, J_sub, J_mul, J_neg, J_and, J_or, J_xor, J_shl, J_shr, J_div, J_i2b, J_i2l, J_l2i, J_lcm, J_max, J_min, J_nab, J_nao, rdA, rdF, rdL, wA_fold, wF_fold, wL_fold, wC_fold]
      refine ⟨fun c10 => ?_, fun c10 => ?_⟩
      · have t11 : r9 = 0 := ((Jeq gr9 (by decide)).mp c10)
        replace w := w.1 t11
        refine ⟨(ls46 C_h8), _, (lr46_0 C_h8), ?_⟩
        refine ⟨(ls1 C_h8), ?_⟩
        refine Ex.mono w (Nat.le_refl _) ?_
        rintro v13 h14 ⟨r15, gr15, rfl, s16, w⟩
        refine ⟨_, rfl, ?_⟩
        have C_h14 := Lay_SH s16 C_h8
        have K_h14_0 := RuleAt_SH s16 K_h8_0
        have P_h14 := (congrFun (congrFun s16.2 46) 1).trans P_h8
        try simp only [aI_wAL, fI_wAL, aL_wA, aL_wF, aI_wA_ne, aI_wF_ne, fI_wA_ne, fI_wF_ne, fI_wF_nk, aL_wAL_ne, J_sameA, J_sameF, aL_same, Nat.add_left_cancel_iff, Nat.add_eq_left, Nat.left_eq_add, not_false_eq_true, Nat.reduceEqDiff, Nat.reduceAdd, J_add, J_sub, J_mul, J_neg, J_and, J_or, J_xor, J_shl, J_shr, J_div, J_i2b, J_i2l, J_l2i, J_lcm, J_max, J_min, J_nab, J_nao, rdA, rdF, rdL, wA_fold, wF_fold, wL_fold, wC_fold]
        exact w
      · have t11 : ¬ r9 = 0 := (fun e => c10 ((Jeq gr9 (by decide)).mpr e))
        replace w := w.2 t11
        refine ⟨(ls46 C_h8), _, (lr46_0 C_h8), ?_⟩
        refine ⟨(ls1 C_h8), ?_⟩
        refine Ex.mono w (Nat.le_refl _) ?_
        rintro v18 h19 ⟨rfl, s51, w⟩
        refine ⟨rfl, ?_⟩
        have C_h19 := Lay_SH s51 C_h8
        have K_h19_0 := RuleAt_SH s51 K_h8_0
        have P_h19 := (congrFun (congrFun s51.2 46) 1).trans P_h8
        try simp only [aI_wAL, fI_wAL, aL_wA, aL_wF, aI_wA_ne, aI_wF_ne, fI_wA_ne, fI_wF_ne, fI_wF_nk, aL_wAL_ne, J_sameA, J_sameF, aL_same, Nat.add_left_cancel_iff, Nat.add_eq_left, Nat.left_eq_add, not_false_eq_true, Nat.reduceEqDiff, Nat.reduceAdd, J_add, J_sub, J_mul, J_neg, J_and, J_or, J_xor, J_shl, J_shr, J_div, J_i2b, J_i2l, J_l2i, J_lcm, J_max, J_min, J_nab, J_nao, rdA, rdF, rdL, wA_fold, wF_fold, wL_fold, wC_fold]
        refine ⟨(ls46 C_h19), ?_⟩
        refine Ex.mono w (Nat.le_refl _) ?_
        rintro v20 h21 ⟨rfl, s50, w⟩
        refine ⟨rfl, ?_⟩
        have C_h21 := Lay_SH s50 C_h19
        have K_h21_0 := RuleAt_SH s50 K_h19_0
        have P_h21 := (congrFun (congrFun s50.2 46) 1).trans P_h19
        try simp only [aI_wAL, fI_wAL, aL_wA, aL_wF, aI_wA_ne, aI_wF_ne, fI_wA_ne, fI_wF_ne, fI_wF_nk, aL_wAL_ne, J_sameA, J_sameF, aL_same, Nat.add_left_cancel_iff, Nat.add_eq_left, Nat.left_eq_add, not_false_eq_true, Nat.reduceEqDiff, Nat.reduceAdd, J_add, J_sub, J_mul, J_neg, J_and, J_or, J_xor, J_shl, J_shr, J_div, J_i2b, J_i2l, J_l2i, J_lcm, J_max, J_min, J_nab, J_nao, rdA, rdF, rdL, wA_fold, wF_fold, wL_fold, wC_fold]
        refine ⟨(ls46 C_h21), _, P_h21, ?_⟩
        refine ⟨(rule_0 K_h21_0), ?_⟩
        refine ⟨(ls46 C_h21), ?_⟩
        refine Ex.mono w (Nat.le_refl _) ?_
        rintro v23 h24 ⟨r25, gr25, rfl, s49, w⟩
        refine ⟨_, rfl, ?_⟩
        have C_h24 := Lay_SH s49 C_h21
        have K_h24_0 := RuleAt_SH s49 K_h21_0
        have P_h24 := (congrFun (congrFun s49.2 46) 1).trans P_h21
        try simp only [aI_wAL, fI_wAL, aL_wA, aL_wF, aI_wA_ne, aI_wF_ne, fI_wA_ne, fI_wF_ne, fI_wF_nk, aL_wAL_ne, J_sameA, J_sameF, aL_same, Nat.add_left_cancel_iff, Nat.add_eq_left, Nat.left_eq_add, not_false_eq_true, Nat.reduceEqDiff, Nat.reduceAdd, J_add, J_sub, J_mul, J_neg, J_and, J_or, J_xor, J_shl, J_shr, J_div, J_i2b, J_i2l, J_l2i, J_lcm, J_max, J_min, J_nab, J_nao, rdA, rdF, rdL, wA_fold, wF_fold, wL_fold, wC_fold]
        refine ⟨fun c26 => ?_, fun c26 => ?_⟩
        · have t27 : r25 = 0 := ((Jeq gr25 (by decide)).mp c26)
          replace w := w.1 t27
          refine ⟨(ls46 C_h24), _, P_h24, ?_⟩
          refine ⟨(rule_0 K_h24_0), ?_⟩
          refine Ex.mono w (Nat.le_refl _) ?_
          rintro v29 h30 ⟨rfl, s36, w⟩
          refine ⟨rfl, ?_⟩
          have C_h30 := Lay_SH s36 C_h24
          have K_h30_0 := RuleAt_SH s36 K_h24_0
          have P_h30 := (congrFun (congrFun s36.2 46) 1).trans P_h24
          try simp only [aI_wAL, fI_wAL, aL_wA, aL_wF, aI_wA_ne, aI_wF_ne, fI_wA_ne, fI_wF_ne, fI_wF_nk, aL_wAL_ne, J_sameA, J_sameF, aL_same, Nat.add_left_cancel_iff, Nat.add_eq_left, Nat.left_eq_add, not_false_eq_true, Nat.reduceEqDiff, Nat.reduceAdd, J_add, J_sub, J_mul, J_neg, J_and, J_or, J_xor, J_shl, J_shr, J_div, J_i2b, J_i2l, J_l2i, J_lcm, J_max, J_min, J_nab, J_nao, rdA, rdF, rdL, wA_fold, wF_fold, wL_fold, wC_fold]
          refine ⟨(ls46 C_h30), _, (lr46_0 C_h30), ?_⟩
          refine ⟨(ls1 C_h30), ?_⟩
          refine Ex.mono w (Nat.le_refl _) ?_
          rintro v32 h33 ⟨r34, gr34, rfl, s35, w⟩
          refine ⟨_, rfl, ?_⟩
          have C_h33 := Lay_SH s35 C_h30
          have K_h33_0 := RuleAt_SH s35 K_h30_0
          have P_h33 := (congrFun (congrFun s35.2 46) 1).trans P_h30
          try simp only [aI_wAL, fI_wAL, aL_wA, aL_wF, aI_wA_ne, aI_wF_ne, fI_wA_ne, fI_wF_ne, fI_wF_nk, aL_wAL_ne, J_sameA, J_sameF, aL_same, Nat.add_left_cancel_iff, Nat.add_eq_left, Nat.left_eq_add, not_false_eq_true, Nat.reduceEqDiff, Nat.reduceAdd, J_add, J_sub, J_mul, J_neg, J_and, J_or, J_xor, J_shl, J_shr, J_div, J_i2b, J_i2l, J_l2i, J_lcm, J_max, J_min, J_nab, J_nao, rdA, rdF, rdL, wA_fold, wF_fold, wL_fold, wC_fold]
          exact w
        · have t27 : ¬ r25 = 0 := (fun e => c26 ((Jeq gr25 (by decide)).mpr e))
          replace w := w.2 t27
          refine ⟨(ls46 C_h24), ?_⟩
          refine Ex.mono w (Nat.le_refl _) ?_
          rintro v37 h38 ⟨rfl, s48, w⟩
          refine ⟨rfl, ?_⟩
          have C_h38 := Lay_SH s48 C_h24
          have K_h38_0 := RuleAt_SH s48 K_h24_0
          have P_h38 := (congrFun (congrFun s48.2 46) 1).trans P_h24
          try simp only [aI_wAL, fI_wAL, aL_wA, aL_wF, aI_wA_ne, aI_wF_ne, fI_wA_ne, fI_wF_ne, fI_wF_nk, aL_wAL_ne, J_sameA, J_sameF, aL_same, Nat.add_left_cancel_iff, Nat.add_eq_left, Nat.left_eq_add, not_false_eq_true, Nat.reduceEqDiff, Nat.reduceAdd, J_add, J_sub, J_mul, J_neg, J_and, J_or, J_xor, J_shl, J_shr, J_div, J_i2b, J_i2l, J_l2i, J_lcm, J_max, J_min, J_nab, J_nao, rdA, rdF, rdL, wA_fold, wF_fold, wL_fold, wC_fold]
          refine ⟨(ls46 C_h38), _, P_h38, ?_⟩
          refine ⟨(rule_0 K_h38_0), ?_⟩
          refine Ex.mono w (Nat.le_refl _) ?_
          rintro v40 h41 ⟨rfl, s47, w⟩
          refine ⟨rfl, ?_⟩
          have C_h41 := Lay_SH s47 C_h38
          have K_h41_0 := RuleAt_SH s47 K_h38_0
          have P_h41 := (congrFun (congrFun s47.2 46) 1).trans P_h38
          try simp only [aI_wAL, fI_wAL, aL_wA, aL_wF, aI_wA_ne, aI_wF_ne, fI_wA_ne, fI_wF_ne, fI_wF_nk, aL_wAL_ne, J_sameA, J_sameF, aL_same, Nat.add_left_cancel_iff, Nat.add_eq_left, Nat.left_eq_add, not_false_eq_true, Nat.reduceEqDiff, Nat.reduceAdd, J_add, J_sub, J_mul, J_neg, J_and, J_or, J_xor, J_shl, J_shr, J_div, J_i2b, J_i2l, J_l2i, J_lcm, J_max, J_min, J_nab, J_nao, rdA, rdF, rdL, wA_fold, wF_fold, wL_fold, wC_fold]
          refine ⟨(ls46 C_h41), _, (lr46_0 C_h41), ?_⟩
          refine ⟨(ls1 C_h41), ?_⟩
          refine Ex.mono w (Nat.le_refl _) ?_
          rintro v43 h44 ⟨r45, gr45, rfl, s46, w⟩
          refine ⟨_, rfl, ?_⟩
          have C_h44 := Lay_SH s46 C_h41
          have K_h44_0 := RuleAt_SH s46 K_h41_0
          have P_h44 := (congrFun (congrFun s46.2 46) 1).trans P_h41
          try simp only [aI_wAL, fI_wAL, aL_wA, aL_wF, aI_wA_ne, aI_wF_ne, fI_wA_ne, fI_wF_ne, fI_wF_nk, aL_wAL_ne, J_sameA, J_sameF, aL_same, Nat.add_left_cancel_iff, Nat.add_eq_left, Nat.left_eq_add, not_false_eq_true, Nat.reduceEqDiff, Nat.reduceAdd, J_add, J_sub, J_mul, J_neg, J_and, J_or, J_xor, J_shl, J_shr, J_div, J_i2b, J_i2l, J_l2i, J_lcm, J_max, J_min, J_nab, J_nao, rdA, rdF, rdL, wA_fold, wF_fold, wL_fold, wC_fold]
          exact w
theorem q58 {X : Cst} {d ru : Nat} {L : Int} {tp : Int → Int} {h : AH} {Q : Post} (C : Lay h) (K : RuleAt h ru) (P : hR h 46 1 = some ru) (hX : X.2 = X2) (B : BT tp) (hr : 16 ≤ ru ∧ ru + 4 < 46) (hd : 28 ≤ d) :
    ∀ (m : Nat) (j p : Int) (c : Cd) (e : En) (l4 : Option Value) (h' : AH), 13 = m + e.length → Fr (TUs ru) h h' → CC h' tp L j p c ru → EnC h' ru e → RI L j p c e → CQt h ru (rdR tp L m j p c e) Q → Ex X PG (d + 1) 58 28 [some (.ref 46), some (.ref ru), some (.int (J 1)), some (.int (J e.length)), l4] [] h' Q := by
  have fin : ∀ (x : Int) (l4 : Option Value) (h2 : AH), 0 ≤ x ∧ x ≤ 100 → Fr (TUs ru) h h2 → Q none h2 → Ex X PG (d + 1) 58 28 [some (.ref 46), some (.ref ru), some (.int (J 0)), some (.int (J x)), l4] [] h2 Q := fun x l4 h2 hx F2 q =>
    r58_28 (F2.C C) (RuleAt_SH F2.1 K) (P46 F2.1 P) ⟨by omega, fun _ => q, fun _ => ⟨by omega, fun _ => q, fun z => absurd rfl z⟩⟩
  intro m
  induction m with
  | zero => intro j p c e l4 h' hm _ _ _ I; have := I.2.2.2.1; omega
  | succ m ih =>
    intro j p c e l4 h' hm F R E I k
    obtain ⟨I1, I2, I3, I4, I5⟩ := id I
    have C' := F.C C
    have K' := RuleAt_SH F.1 K
    have P' := P46 F.1 P
    have tj := R.1.2.2.1
    have tL := R.1.2.1
    rw [rdR_s] at k
    -- a fault, and the loop's end
    have bad : ∀ (f x : Int) (l4 : Option Value) (h2 : AH), ¬ f = 0 → 0 ≤ x ∧ x ≤ 100 → Fr (TUs ru) h h2 → (∃ j, TkC h2 tp L j f) → (∀ h', Fr (TUs ru) h h' → fI h' 1 6 = f → Q none h') → Ex X PG d 44 0 [some (.ref 1)] [] h2 (fun v13 h14 => ∃ r15 : Int, (-2147483648 ≤ r15 ∧ r15 < 2147483648) ∧ v13 = some (.int (J r15)) ∧ SH h2 h14 ∧ Ex X PG (d + 1) 58 28 [some (.ref 46), some (.ref ru), some (.int (J r15)), some (.int (J x)), l4] [] h14 Q) := by
      intro f x l4 h2 nf hx F2 T2 q
      obtain ⟨j2, T2⟩ := T2
      exact m44 (F2.C C) (by omega) T2 (fun _ => ⟨0, by omega, rfl, SH.rf, fin x l4 h2 hx F2 (q h2 F2 T2.2.2.2.2.2.2.2)⟩) (fun z => absurd z nf) (fun z => absurd z nf) (fun z => absurd z nf)
    refine r58_28 C' K' P' ⟨by omega, fun z => absurd z (by omega), fun _ => ⟨by omega, fun z => absurd z (by decide), fun _ => ?_⟩⟩
    refine m59 C' K' P' hX hr.1 (by omega) R.1 E.1 (fun y lt => ⟨1, by omega, rfl, SH.rf, fun z => absurd z (by decide), fun _ => ?_⟩) (fun y lt => ⟨0, by omega, rfl, SH.rf.wF, fun _ => ?_, fun z => absurd rfl z⟩) (fun y => ⟨0, by omega, rfl, SH.rf.wF, fun _ => ?_, fun z => absurd rfl z⟩)
    rotate_left
    · have z : ¬ (flT (1 + 8 * j + 4)).1 = 0 := by show ¬ 1 + 8 * j + 4 = 0; omega
      have eg : gc tp L j p c e = flT (1 + 8 * j + 4) := by unfold gc; rw [pI_pos y, pI_pos (show (e.length : Int) = 12 by omega)]
      rw [eg] at k
      unfold rsR at k
      rw [pI_neg z] at k
      have Fw : Fr (TUs ru) h (wF h' 1 6 (1 + 8 * j + 4)) := F.wF (by unfold TUs; omega)
      exact bad (1 + 8 * j + 4) _ _ _ z (by omega) Fw ⟨j, R.1.fa (by omega)⟩ (k.2 z)
    · have z : ¬ (flT (1 + 8 * j)).1 = 0 := by show ¬ 1 + 8 * j = 0; omega
      have eg : gc tp L j p c e = flT (1 + 8 * j) := by unfold gc; rw [pI_neg y]
      rw [eg] at k
      unfold rsR at k
      rw [pI_neg z] at k
      have Fw : Fr (TUs ru) h (wF h' 1 6 (1 + 8 * j + 0)) := F.wF (by unfold TUs; omega)
      rw [Int.add_zero] at Fw ⊢
      exact bad (1 + 8 * j) _ _ _ z (by omega) Fw ⟨j, R.1.fa (by omega)⟩ (k.2 z)
    have gk := gc_ok (tp := tp) I
    have eg : gc tp L j p c e = gB tp L (sm tp L (nx tp L j) p c) e := by unfold gc; rw [pI_pos y, pI_neg (show ¬ (e.length : Int) = 12 by omega)]
    rw [eg] at k gk
    have ltj := wc_L I1.1 I1.2 (by decide) y
    have nbx := nx_b (tp := tp) (L := L) (j := j) I1.1 I1.2
    -- behind a clause that was read
    have aft : ∀ (q : RT) (l4 : Option Value) (h2 : AH), q.1 = 0 → Fr (TUs ru) h h2 → CC h2 tp L q.2.1 q.2.2.1 q.2.2.2.1 ru → EnC h2 ru q.2.2.2.2 → RI L q.2.1 q.2.2.1 q.2.2.2.1 q.2.2.2.2 → q.2.2.2.2.length = e.length + 1 → CQt h ru (rsR tp L m q) Q → Ex X PG d 44 0 [some (.ref 1)] [] h2 (fun v13 h14 => ∃ r15 : Int, (-2147483648 ≤ r15 ∧ r15 < 2147483648) ∧ v13 = some (.int (J r15)) ∧ SH h2 h14 ∧ Ex X PG (d + 1) 58 28 [some (.ref 46), some (.ref ru), some (.int (J r15)), some (.int (J ((e.length : Int) + 1))), l4] [] h14 Q) := by
      intro q l4 h2 q0 F2 R2 E2 I2 el kq
      unfold rsR at kq
      rw [pI_pos q0] at kq
      refine m44 (F2.C C) (by omega) R2.1 (fun z => absurd rfl z) (fun _ ke => ⟨_, by omega, rfl, SH.rf, ?_⟩) (fun _ k1 k2 h3 F3 T3 => ⟨_, by omega, rfl, F3.1, ?_⟩) (fun _ k1 k2 h3 F3 T3 => ⟨_, by omega, rfl, F3.1, ?_⟩)
      · rw [pI_pos (tk_end.mp ke)] at kq
        exact fin _ _ h2 (by omega) F2 (kq.1 q0 h2 F2 R2.2.2 E2 R2.1.2.2.2.2.2.2.2)
      · have lt : q.2.1 < L := by
          have := (not_congr (tk_end (tp := tp) (L := L) (j := q.2.1))).mp (by omega)
          omega
        rw [pI_neg (by omega), pI_pos ((tk_sem lt).mp ⟨k1, k2⟩)] at kq
        have nb2 := nx_b (tp := tp) (L := L) (j := q.2.1) I2.1.1 I2.1.2
        have i3 := I2.2.2.1
        have := ih (nx tp L q.2.1) q.2.2.1 q.2.2.2.1 q.2.2.2.2 l4 h3 (by omega) (F2.tr (F3.mo (fun _ _ => TTf_s))) ⟨T3, by rw [F3.f 46 2 (by unfold TTf; omega)]; exact R2.2.1, R2.2.2.fr F3 (fun a k z => by unfold TTf at z; unfold TAd; omega)⟩ (E2.fr F3 (fun a k z => by unfold TTf at z; unfold TEn; omega)) ⟨by omega, I2.2.1, by omega, I2.2.2.2.1, I2.2.2.2.2⟩ kq
        rw [el] at this
        exact this
      · have lt := (not_congr (tk_end (tp := tp) (L := L) (j := q.2.1))).mp k1
        have j0 := I2.1
        rw [pI_neg lt, pI_neg (fun z => k2 ((tk_sem (by omega)).mpr z))] at kq
        have F3' := F2.tr (F3.mo (fun _ _ => TTf_s (ru := ru)))
        exact fin _ _ h3 (by omega) F3' (kq.2 (by show ¬ 1 + 8 * q.2.1 = 0; omega) h3 F3' T3.2.2.2.2.2.2.2)
    refine m24n C' (by omega) R.1 (fun h2 F2 T2 => ⟨rfl, F2.1, ?_⟩)
    have G2 : Fr (TUs ru) h h2 := F.tr (F2.mo (fun _ _ => TTk_s))
    have R2 := R.tk hr.1 F2 T2
    have E2 := E.fr F2 (fun a k z => by unfold TTk at z; unfold TEn; omega)
    refine m60 (G2.C C) (RuleAt_SH G2.1 K) (P46 G2.1 P) hX hr (by omega) R2 (by omega) I2 ⟨fun z h3 F3 R3 => ⟨rfl, F3.1, ?_⟩, fun z h3 F3 R3 => ⟨rfl, F3.1, ?_⟩⟩
    · unfold gB at k gk
      rw [pI_pos z] at k gk
      obtain ⟨g1, g2, dd, g3, g4, -⟩ := Gd_sm (tp := tp) (c := c) (by omega) nbx.2.1 I2.2 z
      generalize (sm tp L (nx tp L j) p c).2.1 = j1 at *
      generalize (sm tp L (nx tp L j) p c).2.2.1 = p1 at *
      generalize (sm tp L (nx tp L j) p c).2.2.2 = c1 at *
      have cl : (c1.length : Int) ≤ j1 := by rw [g3, List.length_append]; omega
      have G3 : Fr (TUs ru) h h3 := G2.tr (F3.mo (fun _ _ => TUr_s))
      have E3 := E2.fr F3 (fun a k z => by unfold TUr TTf TAd at z; unfold TEn; omega)
      rw [R3.2.2.1]
      refine m67 (G3.C C) (RuleAt_SH G3.1 K) (P46 G3.1 P) hX (by omega) R3.1 (by decide) (fun y2 => ⟨0, by omega, rfl, SH.rf, fun _ => ?_, fun z => absurd rfl z⟩) (fun _ y2 h4 F4 T4 => ⟨1, by omega, rfl, F4.1, fun z => absurd z (by decide), fun _ => ?_⟩)
      · have ny : ¬ wc tp L j1 = wSc 16 := by rcases y2 with y2 | y2; exact absurd rfl y2; exact y2
        rw [pI_neg ny] at k gk
        refine m10 (G3.C C) (RuleAt_SH G3.1 K) (by omega) E3 (by omega) R3.2.2.1 (by omega) (by omega) (fun h4 F4 E4 => ⟨rfl, F4.1, ?_⟩)
        have G4 : Fr (TUs ru) h h4 := G3.tr (F4.mo (fun _ _ => TEn_s))
        refine aft (0, j1, p1, c1, e ++ [((c1.length : Int), (c1.length : Int))]) _ h4 rfl G4 ?_ E4 (gk rfl).1 (gk rfl).2 k
        exact ⟨R3.1.fr F4 (by unfold TEn; omega) (by unfold TEn; omega), by rw [F4.f 46 2 (by unfold TEn; omega)]; exact R3.2.1, R3.2.2.fr F4 (fun a k z => by unfold TEn at z; unfold TAd; omega)⟩
      · rw [pI_pos y2] at k gk
        have lt1 := wc_L (by omega) g1.2 (by decide) y2
        have nb1 := nx_b (tp := tp) (L := L) (j := j1) (by omega) g1.2
        have G4 : Fr (TUs ru) h h4 := G3.tr (F4.mo (fun _ _ => TTk_s))
        have R4 := R3.tk hr.1 F4 T4
        have E4 := E3.fr F4 (fun a k z => by unfold TTk at z; unfold TEn; omega)
        refine m68 (G4.C C) (RuleAt_SH G4.1 K) (P46 G4.1 P) hX B hr (by omega) R4 (by omega) (by omega) ⟨fun z2 h5 F5 R5 => ⟨rfl, F5.1, ?_⟩, fun z2 h5 F5 R5 => ⟨rfl, F5.1, ?_⟩⟩
        · unfold gT at k gk
          rw [pI_pos z2] at k gk
          obtain ⟨y1, y2', d2, y3, y4, -⟩ := (Gd_ft (tp := tp) (L := L) 802 0 (nx tp L j1) p1 c1 (by omega) nb1.2.1 g2.2).2 false false z2
          generalize (ft tp L 802 true 0 false false (nx tp L j1) p1 c1).2.1 = j2 at *
          generalize (ft tp L 802 true 0 false false (nx tp L j1) p1 c1).2.2.1 = p2 at *
          generalize (ft tp L 802 true 0 false false (nx tp L j1) p1 c1).2.2.2 = c2 at *
          have n0 : nb false + nb false = 0 := by decide
          have cl2 : (c2.length : Int) ≤ j2 := by rw [y3, List.length_append]; omega
          have G5 : Fr (TUs ru) h h5 := G4.tr (F5.mo (fun _ _ => TUr_s))
          have E5 := E4.fr F5 (fun a k z => by unfold TUr TTf TAd at z; unfold TEn; omega)
          refine m10 (G5.C C) (RuleAt_SH G5.1 K) (by omega) E5 (by omega) R5.2.2.1 (by omega) (by omega) (fun h6 F6 E6 => ⟨rfl, F6.1, ?_⟩)
          have G6 : Fr (TUs ru) h h6 := G5.tr (F6.mo (fun _ _ => TEn_s))
          refine aft (0, j2, p2, c2, e ++ [((c1.length : Int), (c2.length : Int))]) _ h6 rfl G6 ?_ E6 (gk rfl).1 (gk rfl).2 k
          exact ⟨R5.1.fr F6 (by unfold TEn; omega) (by unfold TEn; omega), by rw [F6.f 46 2 (by unfold TEn; omega)]; exact R5.2.1, R5.2.2.fr F6 (fun a k z => by unfold TEn at z; unfold TAd; omega)⟩
        · unfold gT at k
          rw [pI_neg z2] at k
          have k2 : CQt h ru (flT (ft tp L 802 true 0 false false (nx tp L j1) p1 c1).1) Q := by unfold rsR at k; rw [pI_neg (show ¬ (flT (ft tp L 802 true 0 false false (nx tp L j1) p1 c1).1).1 = 0 from z2)] at k; exact k
          have G5 : Fr (TUs ru) h h5 := G4.tr (F5.mo (fun _ _ => TUr_s))
          have E5 := E4.fr F5 (fun a k z => by unfold TUr TTf TAd at z; unfold TEn; omega)
          refine m10f (G5.C C) (RuleAt_SH G5.1 K) (by omega) (by rw [E5.1]; omega) (fun h6 F6 => ⟨rfl, F6.1, ?_⟩)
          obtain ⟨⟨j6, T6⟩, -⟩ := R5
          exact bad _ _ _ h6 z2 (by omega) (G5.tr (F6.mo (fun _ _ => TEn_s))) ⟨j6, T6.fr F6 (by unfold TEn; omega) (by unfold TEn; omega)⟩ (k2.2 z2)
    · unfold gB at k
      rw [pI_neg z] at k
      have k2 : CQt h ru (flT (sm tp L (nx tp L j) p c).1) Q := by unfold rsR at k; rw [pI_neg (show ¬ (flT (sm tp L (nx tp L j) p c).1).1 = 0 from z)] at k; exact k
      have G3 : Fr (TUs ru) h h3 := G2.tr (F3.mo (fun _ _ => TUr_s))
      have E3 := E2.fr F3 (fun a k z => by unfold TUr TTf TAd at z; unfold TEn; omega)
      obtain ⟨⟨j6, T6⟩, -⟩ := R3
      refine m67 (G3.C C) (RuleAt_SH G3.1 K) (P46 G3.1 P) hX (by omega) T6 (by decide) (fun _ => ⟨0, by omega, rfl, SH.rf, fun _ => ?_, fun z => absurd rfl z⟩) (fun q => absurd q z)
      refine m10f (G3.C C) (RuleAt_SH G3.1 K) (by omega) (by rw [E3.1]; omega) (fun h6 F6 => ⟨rfl, F6.1, ?_⟩)
      exact bad _ _ _ h6 z (by omega) (G3.tr (F6.mo (fun _ _ => TEn_s))) ⟨j6, T6.fr F6 (by unfold TEn; omega) (by unfold TEn; omega)⟩ (k2.2 z)
