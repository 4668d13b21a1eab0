/-! A castle read by the class. -/
theorem tk_end {tp : Int → Int} {L j : Int} : tkK tp L j = 0 ↔ L ≤ j := by
  unfold tkK
  by_cases c : L ≤ j
  · rw [pI_pos c]; exact ⟨fun _ => c, fun _ => rfl⟩
  · rw [pI_neg c]
    refine ⟨fun z => ?_, fun z => absurd z c⟩
    by_cases c2 : dgP (tp j)
    · rw [pI_pos c2] at z; omega
    rw [pI_neg c2] at z
    by_cases c3 : leP (tp j)
    · rw [pI_pos c3] at z; omega
    · rw [pI_neg c3] at z; omega
theorem tk_sem {tp : Int → Int} {L j : Int} (c : j < L) : (tkK tp L j = 3 ∧ tkV tp L j = 59) ↔ tp j = 59 := by
  unfold tkK tkV
  have nL : ¬ L ≤ j := by omega
  rw [pI_neg nL, pI_neg nL]
  constructor
  · intro z
    by_cases c2 : dgP (tp j)
    · rw [pI_pos c2] at z; omega
    rw [pI_neg c2, pI_neg c2] at z
    by_cases c3 : leP (tp j)
    · rw [pI_pos c3] at z; omega
    rw [pI_neg c3, pI_neg c3] at z
    by_cases c4 : wdn tp L j
    · rw [pI_pos c4] at z
      by_cases c5 : tp j = 60
      · rw [pI_pos c5] at z; omega
      · rw [pI_neg c5] at z; omega
    · rw [pI_neg c4] at z; exact z.2
  · intro z
    have c2 : ¬ dgP (tp j) := by unfold dgP; omega
    have c3 : ¬ leP (tp j) := by unfold leP; omega
    have c4 : ¬ wdn tp L j := by unfold wdn; omega
    rw [pI_neg c2, pI_neg c2, pI_neg c3, pI_neg c3, pI_neg c4]
    exact ⟨rfl, z⟩
def TCr (a c k : Nat) : Prop := (c = 1 ∧ 2 ≤ k) ∨ (a ≤ c ∧ c ≤ a + 10) ∨ (c = 3 ∧ k = 2)
theorem TCc_r {a c k : Nat} (z : TCc a c k) : TCr a c k := by unfold TCc TTf at z; unfold TCr; omega
theorem TTf_r {a c k : Nat} (z : TTf c k) : TCr a c k := by unfold TTf at z; unfold TCr; omega
def CQr (h : AH) (a : Nat) (r : RS) (Q : Post) : Prop := (r.1 = 0 → ∀ h', Fr (TCr a) h h' → (∀ S, FinS r.2.2 S → PlanRep h' a S) → fI h' 1 6 = 0 → Q none h') ∧ (¬ r.1 = 0 → ∀ h', Fr (TCr a) h h' → fI h' 1 6 = r.1 → Q none h')
-- OutwardDoors$CastleReader.read()V at 0
set_option maxRecDepth 20000 in
set_option maxHeartbeats 4000000 in
theorem r21_0 {X : Cst} {d : Nat} {pl : Nat} {h : AH} {Q : Post} (C_h : Lay h) (K_h_0 : PlanAt h pl) (P_h : hR h 3 1 = some pl)
  (w : Ex X PG d 22 0 [some (.ref pl), none] [] h (fun v2 h3 => v2 = none ∧ SH h h3 ∧ Ex X PG d 23 0 [some (.ref 1)] [] (wF h3 3 2 0) (fun v5 h6 => v5 = none ∧ SH (wF h3 3 2 0) h6 ∧ Ex X PG (d + 1) 21 23 [some (.ref 3), some (.int (J 1)), some (.int (J 0))] [] h6 Q))) :
    Ex X PG (d + 1) 21 0 [some (.ref 3), none, none] [] h Q := by
  refine wpx_ok (cut := [23]) 13 d 21 0 _ _ _ _ ?_
  show hs h 3 = (0, 0) ∧ ∃ q1, hR h 3 1 = some q1 ∧ hs h q1 = (0, 2) ∧ Ex X PG d 22 0 [some (.ref q1), none] [] h (fun v2 h3 => v2 = none ∧ hs h3 3 = (0, 0) ∧ hs (wG h3 3 2 (J 0)) 3 = (0, 0) ∧ ∃ q4, hR (wG h3 3 2 (J 0)) 3 0 = some q4 ∧ hs (wG h3 3 2 (J 0)) q4 = (0, 8) ∧ Ex X PG d 23 0 [some (.ref q4)] [] (wG h3 3 2 (J 0)) (fun v5 h6 => v5 = none ∧ Ex X PG (d + 1) 21 23 [some (.ref 3), some (.int (J 1)), some (.int (J 0))] [] h6 Q))
  try simp only [aI_wAL, fI_wAL, aL_wA, aL_wF, aI_wA_ne, aI_wF_ne, fI_wA_ne, fI_wF_ne, fI_wF_nk, aL_wAL_ne, J_sameA, J_sameF, aL_same, Nat.add_left_cancel_iff, Nat.add_eq_left, Nat.left_eq_add, not_false_eq_true, Nat.reduceEqDiff, Nat.reduceAdd, J_add, J_sub, J_mul, J_neg, J_and, J_or, J_xor, J_shl, J_shr, J_div, J_i2b, J_i2l, J_l2i, J_lcm, J_max, J_min, J_nab, J_nao, rdA, rdF, rdL, wA_fold, wF_fold, wL_fold, wC_fold]
  refine ⟨(ls3 C_h), _, P_h, ?_⟩
  refine ⟨(plan_0 K_h_0), ?_⟩
  refine Ex.mono w (Nat.le_refl _) ?_
  rintro v2 h3 ⟨rfl, s8, w⟩
  refine ⟨rfl, ?_⟩
  have C_h3 := Lay_SH s8 C_h
  have K_h3_0 := PlanAt_SH s8 K_h_0
  have P_h3 := (congrFun (congrFun s8.2 3) 1).trans P_h
  try simp only [aI_wAL, fI_wAL, aL_wA, aL_wF, aI_wA_ne, aI_wF_ne, fI_wA_ne, fI_wF_ne, fI_wF_nk, aL_wAL_ne, J_sameA, J_sameF, aL_same, Nat.add_left_cancel_iff, Nat.add_eq_left, Nat.left_eq_add, not_false_eq_true, Nat.reduceEqDiff, Nat.reduceAdd, J_add, J_sub, J_mul, J_neg, J_and, J_or, J_xor, J_shl, J_shr, J_div, J_i2b, J_i2l, J_l2i, J_lcm, J_max, J_min, J_nab, J_nao, rdA, rdF, rdL, wA_fold, wF_fold, wL_fold, wC_fold]
  refine ⟨(ls3 C_h3), ?_⟩
  refine ⟨(ls3 C_h3), _, (lr3_0 C_h3), ?_⟩
  refine ⟨(ls1 C_h3), ?_⟩
  refine Ex.mono w (Nat.le_refl _) ?_
  rintro v5 h6 ⟨rfl, s7, w⟩
  refine ⟨rfl, ?_⟩
  have C_h6 := Lay_SH s7 C_h3
  have K_h6_0 := PlanAt_SH s7 K_h3_0
  have P_h6 := (congrFun (congrFun s7.2 3) 1).trans P_h3
  try simp only [aI_wAL, fI_wAL, aL_wA, aL_wF, aI_wA_ne, aI_wF_ne, fI_wA_ne, fI_wF_ne, fI_wF_nk, aL_wAL_ne, J_sameA, J_sameF, aL_same, Nat.add_left_cancel_iff, Nat.add_eq_left, Nat.left_eq_add, not_false_eq_true, Nat.reduceEqDiff, Nat.reduceAdd, J_add, J_sub, J_mul, J_neg, J_and, J_or, J_xor, J_shl, J_shr, J_div, J_i2b, J_i2l, J_l2i, J_lcm, J_max, J_min, J_nab, J_nao, rdA, rdF, rdL, wA_fold, wF_fold, wL_fold, wC_fold]
  exact w
-- OutwardDoors$CastleReader.read()V at 23
set_option maxRecDepth 20000 in
set_option maxHeartbeats 4000000 in
theorem r21_23 {X : Cst} {d : Nat} {x1 : Int} {x2 : Int} {pl : Nat} {h : AH} {Q : Post} (C_h : Lay h) (K_h_0 : PlanAt h pl) (P_h : hR h 3 1 = some pl)
  (w : (-2147483648 ≤ x2 ∧ x2 < 2147483648) ∧ ((40 < x2 → ((¬ fI h 1 6 = 0 → Q none h) ∧ (fI h 1 6 = 0 → Ex X PG d 46 0 [some (.ref pl), none, none, none] [] h (fun v8 h9 => v8 = none ∧ SH h h9 ∧ Q none h9)))) ∧ (¬ 40 < x2 → (-2147483648 ≤ x1 ∧ x1 < 2147483648) ∧ ((x1 = 0 → ((¬ fI h 1 6 = 0 → Q none h) ∧ (fI h 1 6 = 0 → Ex X PG d 46 0 [some (.ref pl), none, none, none] [] h (fun v18 h19 => v18 = none ∧ SH h h19 ∧ Q none h19)))) ∧ (¬ x1 = 0 → Ex X PG d 29 0 [some (.ref 3), none] [] h (fun v21 h22 => v21 = none ∧ SH h h22 ∧ Ex X PG d 44 0 [some (.ref 1)] [] h22 (fun v24 h25 => ∃ r26 : Int, (-2147483648 ≤ r26 ∧ r26 < 2147483648) ∧ v24 = some (.int (J r26)) ∧ SH h22 h25 ∧ Ex X PG (d + 1) 21 23 [some (.ref 3), some (.int (J r26)), some (.int (J (x2 + 1)))] [] h25 Q))))))) :
    Ex X PG (d + 1) 21 23 [some (.ref 3), some (.int (J x1)), some (.int (J x2))] [] h Q := by
  refine wpx_ok (cut := [23]) 13 d 21 23 _ _ _ _ ?_
  show (((J 40) < (J x2) → hs h 3 = (0, 0) ∧ ∃ q4, hR h 3 0 = some q4 ∧ hs h q4 = (0, 8) ∧ ((¬ (hF h q4 6) = (J 0) → Q none h) ∧ (¬ (¬ (hF h q4 6) = (J 0)) → hs h 3 = (0, 0) ∧ ∃ q7, hR h 3 1 = some q7 ∧ hs h q7 = (0, 2) ∧ Ex X PG d 46 0 [some (.ref q7), none, none, none] [] h (fun v8 h9 => v8 = none ∧ Q none h9)))) ∧ (¬ ((J 40) < (J x2)) → (((J x1) = (J 0) → hs h 3 = (0, 0) ∧ ∃ q14, hR h 3 0 = some q14 ∧ hs h q14 = (0, 8) ∧ ((¬ (hF h q14 6) = (J 0) → Q none h) ∧ (¬ (¬ (hF h q14 6) = (J 0)) → hs h 3 = (0, 0) ∧ ∃ q17, hR h 3 1 = some q17 ∧ hs h q17 = (0, 2) ∧ Ex X PG d 46 0 [some (.ref q17), none, none, none] [] h (fun v18 h19 => v18 = none ∧ Q none h19)))) ∧ (¬ ((J x1) = (J 0)) → hs h 3 = (0, 0) ∧ Ex X PG d 29 0 [some (.ref 3), none] [] h (fun v21 h22 => v21 = none ∧ hs h22 3 = (0, 0) ∧ ∃ q23, hR h22 3 0 = some q23 ∧ hs h22 q23 = (0, 8) ∧ Ex X PG d 44 0 [some (.ref q23)] [] h22 (fun v24 h25 => ∃ r26, v24 = some (.int r26) ∧ Ex X PG (d + 1) 21 23 [some (.ref 3), some (.int r26), some (.int ((J x2) + (J 1)))] [] h25 Q))))))
  try simp only [aI_wAL, fI_wAL, aL_wA, aL_wF, aI_wA_ne, aI_wF_ne, fI_wA_ne, fI_wF_ne, fI_wF_nk, aL_wAL_ne, J_sameA, J_sameF, aL_same, Nat.add_left_cancel_iff, Nat.add_eq_left, Nat.left_eq_add, not_false_eq_true, Nat.reduceEqDiff, Nat.reduceAdd, J_add, J_sub, J_mul, J_neg, J_and, J_or, J_xor, J_shl, J_shr, J_div, J_i2b, J_i2l, J_l2i, J_lcm, J_max, J_min, J_nab, J_nao, rdA, rdF, rdL, wA_fold, wF_fold, wL_fold, wC_fold]
  obtain ⟨k3, w⟩ := w
  refine ⟨fun c1 => ?_, fun c1 => ?_⟩
  · have t2 : 40 < x2 := ((Jlt (by decide) k3).mp c1)
    replace w := w.1 t2
    refine ⟨(ls3 C_h), _, (lr3_0 C_h), ?_⟩
    refine ⟨(ls1 C_h), ?_⟩
    refine ⟨fun c5 => ?_, fun c5 => ?_⟩
    · have t6 : ¬ fI h 1 6 = 0 := (fun e => c5 ((Jeq (rg_toInt _) (by decide)).mpr e))
      replace w := w.1 t6
      exact w
    · have t6 : fI h 1 6 = 0 := ((Jeq (rg_toInt _) (by decide)).mp (Classical.byContradiction c5))
      replace w := w.2 t6
      refine ⟨(ls3 C_h), _, P_h, ?_⟩
      refine ⟨(plan_0 K_h_0), ?_⟩
      refine Ex.mono w (Nat.le_refl _) ?_
      rintro v8 h9 ⟨rfl, s10, w⟩
      refine ⟨rfl, ?_⟩
      have C_h9 := Lay_SH s10 C_h
      have K_h9_0 := PlanAt_SH s10 K_h_0
      have P_h9 := (congrFun (congrFun s10.2 3) 1).trans P_h
      try simp only [aI_wAL, fI_wAL, aL_wA, aL_wF, aI_wA_ne, aI_wF_ne, fI_wA_ne, fI_wF_ne, fI_wF_nk, aL_wAL_ne, J_sameA, J_sameF, aL_same, Nat.add_left_cancel_iff, Nat.add_eq_left, Nat.left_eq_add, not_false_eq_true, Nat.reduceEqDiff, Nat.reduceAdd, J_add, J_sub, J_mul, J_neg, J_and, J_or, J_xor, J_shl, J_shr, J_div, J_i2b, J_i2l, J_l2i, J_lcm, J_max, J_min, J_nab, J_nao, rdA, rdF, rdL, wA_fold, wF_fold, wL_fold, wC_fold]
      exact w
  · have t2 : ¬ 40 < x2 := (fun e => c1 ((Jlt (by decide) k3).mpr e))
    replace w := w.2 t2
    obtain ⟨k13, w⟩ := w
    refine ⟨fun c11 => ?_, fun c11 => ?_⟩
    · have t12 : x1 = 0 := ((Jeq k13 (by decide)).mp c11)
      replace w := w.1 t12
      refine ⟨(ls3 C_h), _, (lr3_0 C_h), ?_⟩
      refine ⟨(ls1 C_h), ?_⟩
      refine ⟨fun c15 => ?_, fun c15 => ?_⟩
      · have t16 : ¬ fI h 1 6 = 0 := (fun e => c15 ((Jeq (rg_toInt _) (by decide)).mpr e))
        replace w := w.1 t16
        exact w
      · have t16 : fI h 1 6 = 0 := ((Jeq (rg_toInt _) (by decide)).mp (Classical.byContradiction c15))
        replace w := w.2 t16
        refine ⟨(ls3 C_h), _, P_h, ?_⟩
        refine ⟨(plan_0 K_h_0), ?_⟩
        refine Ex.mono w (Nat.le_refl _) ?_
        rintro v18 h19 ⟨rfl, s20, w⟩
        refine ⟨rfl, ?_⟩
        have C_h19 := Lay_SH s20 C_h
        have K_h19_0 := PlanAt_SH s20 K_h_0
        have P_h19 := (congrFun (congrFun s20.2 3) 1).trans P_h
        try simp only [aI_wAL, fI_wAL, aL_wA, aL_wF, aI_wA_ne, aI_wF_ne, fI_wA_ne, fI_wF_ne, fI_wF_nk, aL_wAL_ne, J_sameA, J_sameF, aL_same, Nat.add_left_cancel_iff, Nat.add_eq_left, Nat.left_eq_add, not_false_eq_true, Nat.reduceEqDiff, Nat.reduceAdd, J_add, J_sub, J_mul, J_neg, J_and, J_or, J_xor, J_shl, J_shr, J_div, J_i2b, J_i2l, J_l2i, J_lcm, J_max, J_min, J_nab, J_nao, rdA, rdF, rdL, wA_fold, wF_fold, wL_fold, wC_fold]
        exact w
    · have t12 : ¬ x1 = 0 := (fun e => c11 ((Jeq k13 (by decide)).mpr e))
      replace w := w.2 t12
      refine ⟨(ls3 C_h), ?_⟩
      refine Ex.mono w (Nat.le_refl _) ?_
      rintro v21 h22 ⟨rfl, s28, w⟩
      refine ⟨rfl, ?_⟩
      have C_h22 := Lay_SH s28 C_h
      have K_h22_0 := PlanAt_SH s28 K_h_0
      have P_h22 := (congrFun (congrFun s28.2 3) 1).trans P_h
      try simp only [aI_wAL, fI_wAL, aL_wA, aL_wF, aI_wA_ne, aI_wF_ne, fI_wA_ne, fI_wF_ne, fI_wF_nk, aL_wAL_ne, J_sameA, J_sameF, aL_same, Nat.add_left_cancel_iff, Nat.add_eq_left, Nat.left_eq_add, not_false_eq_true, Nat.reduceEqDiff, Nat.reduceAdd, J_add, J_sub, J_mul, J_neg, J_and, J_or, J_xor, J_shl, J_shr, J_div, J_i2b, J_i2l, J_l2i, J_lcm, J_max, J_min, J_nab, J_nao, rdA, rdF, rdL, wA_fold, wF_fold, wL_fold, wC_fold]
      refine ⟨(ls3 C_h22), _, (lr3_0 C_h22), ?_⟩
      refine ⟨(ls1 C_h22), ?_⟩
      refine Ex.mono w (Nat.le_refl _) ?_
      rintro v24 h25 ⟨r26, gr26, rfl, s27, w⟩
      refine ⟨_, rfl, ?_⟩
      have C_h25 := Lay_SH s27 C_h22
      have K_h25_0 := PlanAt_SH s27 K_h22_0
      have P_h25 := (congrFun (congrFun s27.2 3) 1).trans P_h22
      try simp only [aI_wAL, fI_wAL, aL_wA, aL_wF, aI_wA_ne, aI_wF_ne, fI_wA_ne, fI_wF_ne, fI_wF_nk, aL_wAL_ne, J_sameA, J_sameF, aL_same, Nat.add_left_cancel_iff, Nat.add_eq_left, Nat.left_eq_add, not_false_eq_true, Nat.reduceEqDiff, Nat.reduceAdd, J_add, J_sub, J_mul, J_neg, J_and, J_or, J_xor, J_shl, J_shr, J_div, J_i2b, J_i2l, J_l2i, J_lcm, J_max, J_min, J_nab, J_nao, rdA, rdF, rdL, wA_fold, wF_fold, wL_fold, wC_fold]
      exact w
theorem q21 {X : Cst} {d pl : Nat} {L : Int} {tp : Int → Int} {h : AH} {Q : Post} (C : Lay h) (K : PlanAt h pl) (P : hR h 3 1 = some pl) (hd : 5 ≤ d) (hX : X.2 = X2) (ha : 4 ≤ pl) :
    ∀ (m : Nat) (n j : Int) (R : Int → Int) (h' : AH), 41 = m + n → 0 ≤ n → n ≤ 40 → Fr (TCr pl) h h' → TkC h' tp L j 0 → PlanRd h' pl R → CI n R → fI h' 3 2 = n → CQr h pl (rdC tp L m j n R) Q → Ex X PG (d + 1) 21 23 [some (.ref 3), some (.int (J 1)), some (.int (J n))] [] h' Q := by
  -- the end, with a fault
  have bad : ∀ (n f : Int) (h' : AH), 0 ≤ n → n ≤ 41 → Fr (TCr pl) h h' → fI h' 1 6 = f → ¬ f = 0 → (∀ h', Fr (TCr pl) h h' → fI h' 1 6 = f → Q none h') → Ex X PG (d + 1) 21 23 [some (.ref 3), some (.int (J 0)), some (.int (J n))] [] h' Q := by
    intro n f h' n0 n1 F e nf k
    refine r21_23 (F.C C) (PlanAt_SH F.1 K) ((congrFun (congrFun F.1.2 3) 1).trans P) ?_
    rw [e]
    exact ⟨by omega, fun _ => ⟨fun _ => k h' F e, fun z => absurd z nf⟩, fun _ => ⟨by omega, fun _ => ⟨fun _ => k h' F e, fun z => absurd z nf⟩, fun z => absurd rfl z⟩⟩
  intro m
  induction m with
  | zero => intro n j R h' hm h0 h1; omega
  | succ m ih =>
    intro n j R h' hm h0 h1 F T D I en k
    have C' := F.C C
    have K' := PlanAt_SH F.1 K
    have P' : hR h' 3 1 = some pl := (congrFun (congrFun F.1.2 3) 1).trans P
    rw [rdC_s] at k
    have tj := T.2.2.1
    refine r21_23 C' K' P' ⟨by omega, fun z => absurd z (by omega), fun _ => ⟨by omega, fun z => absurd z (by decide), fun _ => ?_⟩⟩
    refine m29 C' K' P' (by omega) hX ha T D I en ⟨fun e h2 F2 T2 D2 e2 => ⟨rfl, F2.1, ?_⟩, fun e h2 j2 F2 T2 => ⟨rfl, F2.1, ?_⟩⟩
    · have cl := CI.cl I tj.1 tj.2 e
      have t2j := T2.2.2.1
      have Fa : Fr (TCr pl) h h2 := F.tr (F2.mo (fun _ _ => TCc_r))
      have C2 := F2.C C'
      unfold rst at k
      rw [pI_pos e] at k
      refine m44 C2 (by omega) T2 (fun z => absurd rfl z) (fun _ ke => ⟨_, by omega, rfl, SH.rf, ?_⟩) (fun _ k1 k2 h3 F3 T3 => ⟨_, by omega, rfl, F3.1, ?_⟩) (fun _ k1 k2 h3 F3 T3 => ⟨_, by omega, rfl, F3.1, ?_⟩)
      · rw [pI_pos (tk_end.mp ke)] at k
        have e6 := T2.2.2.2.2.2.2.2
        have K2 := PlanAt_SH Fa.1 K
        refine r21_23 C2 K2 ((congrFun (congrFun Fa.1.2 3) 1).trans P) ?_
        refine ⟨by omega, fun z => absurd z (by omega), fun _ => ⟨by omega, fun _ => ⟨fun z => absurd e6 z, fun _ => ?_⟩, fun z => absurd rfl z⟩⟩
        refine m46 C2 K2 (by omega) D2 cl.1.1 (by omega) (fun h3 F3 G3 => ⟨rfl, F3.1, ?_⟩)
        refine k.1 rfl h3 (Fa.tr (F3.mo (fun _ _ z => Or.inr (Or.inl z)))) G3 ?_
        rw [F3.f 1 6 (by unfold TPl; omega)]; exact e6
      · have lt : (cCl tp L j n R).2.1 < L := by
          have := (not_congr (tk_end (tp := tp) (L := L) (j := (cCl tp L j n R).2.1))).mp (by omega)
          omega
        rw [pI_neg (by omega), pI_pos ((tk_sem lt).mp ⟨k1, k2⟩)] at k
        refine ih (n + 1) _ _ h3 (by omega) (by omega) (by omega) (Fa.tr (F3.mo (fun _ _ => TTf_r))) T3 ?_ cl.1.1 ?_ k
        · exact D2.tk F3 ha
        · rw [F3.f 3 2 (by unfold TTf; omega)]; exact e2
      · have lt := (not_congr (tk_end (tp := tp) (L := L) (j := (cCl tp L j n R).2.1))).mp k1
        rw [pI_neg lt, pI_neg (fun z => k2 ((tk_sem (by omega)).mpr z))] at k
        exact bad (n + 1) (1 + 8 * (cCl tp L j n R).2.1) h3 (by omega) (by omega) (Fa.tr (F3.mo (fun _ _ => TTf_r))) T3.2.2.2.2.2.2.2 (by omega) (k.2 (by show ¬ 1 + 8 * (cCl tp L j n R).2.1 = 0; omega))
    · unfold rst at k
      rw [pI_neg e] at k
      have Fa : Fr (TCr pl) h h2 := F.tr (F2.mo (fun _ _ => TCc_r))
      refine m44 (F2.C C') (by omega) T2 (fun _ => ⟨_, by omega, rfl, SH.rf, ?_⟩) (fun z => absurd z e) (fun z => absurd z e) (fun z => absurd z e)
      exact bad (n + 1) _ h2 (by omega) (by omega) Fa T2.2.2.2.2.2.2.2 e (k.2 e)
theorem m21 {X : Cst} {d pl : Nat} {L : Int} {tp U : Int → Int} {r : RS} {h : AH} {Q : Post} (C : Lay h) (K : PlanAt h pl) (P : hR h 3 1 = some pl) (hd : 6 ≤ d) (hX : X.2 = X2) (ha : 4 ≤ pl) (et : aI h 2 = tp) (eL : fI h 1 1 = L) (hL : 0 ≤ L ∧ L ≤ 400) (er : r = rdC tp L 41 (skp tp L 0) 0 (crR U)) (k : CQr h pl r Q) : Ex X PG d 21 0 [some (.ref 3), none, none] [] h Q := by
  obtain ⟨d, rfl⟩ : ∃ e, d = e + 1 := ⟨d - 1, by omega⟩
  refine r21_0 C K P ?_
  refine m22 (U := U) C K (by omega) (fun h2 F2 D2 => ⟨rfl, F2.1, ?_⟩)
  have Fw : Fr (TCr pl) h (wF h2 3 2 0) := (F2.mo (fun _ _ z => Or.inr (Or.inl z))).wF (Or.inr (Or.inr ⟨rfl, rfl⟩))
  have D3 : PlanRd (wF h2 3 2 0) pl (crR U) := D2.fr (T := fun c k => c = 3 ∧ k = 2) (Fr.rf.wF ⟨rfl, rfl⟩) (by omega)
  refine m23 (L := L) (tp := tp) (Fw.C C) (by omega) ?_ ?_ hL (fun h4 F4 T4 => ⟨rfl, F4.1, ?_⟩)
  · rw [Fw.a 2 (by unfold TCr; omega)]; exact et
  · rw [Fw.f 1 1 (by unfold TCr; omega)]; exact eL
  rw [er] at k
  refine q21 C K P (by omega) hX ha 41 0 _ _ h4 (by omega) (by omega) (by omega) (Fw.tr (F4.mo (fun _ _ z => Or.inl z))) T4 (D3.fr F4 (by omega)) (CI_crR U) ?_ k
  rw [F4.f 3 2 (by omega), fI_wF_eq (by omega)]
