/-! THE CLASS: rules by notes. -/
theorem imx_if {a b : Int} (ha : -2147483648 ≤ a ∧ a < 2147483648) (hb : -2147483648 ≤ b ∧ b < 2147483648) : imx a b = if a < b then b else a := by
  unfold imx
  by_cases c : a < b
  · rw [if_pos ((Jlt ha hb).mpr c), if_pos c, toInt_J hb]
  · rw [if_neg (fun z => c ((Jlt ha hb).mp z)), if_neg c, toInt_J ha]
-- OutwardDoors$Scene.lastNoted()I at 0
set_option maxRecDepth 20000 in
set_option maxHeartbeats 4000000 in
theorem r154_0 {X : Cst} {d : Nat} {pl : Nat} {h : AH} {Q : Post} (C_h : Lay h) (K_h_0 : PlanAt h pl) (P_h : hR h 52 0 = some pl)
  (w : Ex X PG (d + 1) 154 4 [some (.ref 52), some (.int (J (-1))), some (.int (J 0))] [] h Q) :
    Ex X PG (d + 1) 154 0 [some (.ref 52), none, none] [] h Q := by
  refine wpx_ok (cut := [4]) 4 d 154 0 _ _ _ _ ?_
  show Ex X PG (d + 1) 154 4 [some (.ref 52), some (.int (J (-1))), some (.int (J 0))] [] h Q
  try simp only [aI_wAL, fI_wAL, aL_wA, aL_wF, aI_wA_ne, aI_wF_ne, fI_wA_ne, fI_wF_ne, fI_wF_nk, aL_wAL_ne, J_sameA, J_sameF, aL_same, Nat.add_left_cancel_iff, Nat.add_eq_left, Nat.left_eq_add, not_false_eq_true, Nat.reduceEqDiff, Nat.reduceAdd, J_add, J_sub, J_mul, J_neg, J_and, J_or, J_xor, J_shl, J_shr, J_div, J_i2b, J_i2l, J_l2i, J_lcm, J_max, J_min, J_nab, J_nao, rdA, rdF, rdL, wA_fold, wF_fold, wL_fold, wC_fold]
  exact w
-- OutwardDoors$Scene.lastNoted()I at 4
set_option maxRecDepth 20000 in
set_option maxHeartbeats 4000000 in
theorem r154_4 {X : Cst} {d : Nat} {x1 : Int} {x2 : Int} {pl : Nat} {h : AH} {Q : Post} (C_h : Lay h) (K_h_0 : PlanAt h pl) (P_h : hR h 52 0 = some pl)
  (w : (-2147483648 ≤ x2 ∧ x2 < 2147483648) ∧ ((fI h 52 4 ≤ x2 → Q (some (.int (J x1))) h) ∧ (¬ fI h 52 4 ≤ x2 → (0 ≤ x2 ∧ x2 < 10) ∧ Ex X PG (d + 1) 154 4 [some (.ref 52), some (.int (J (imx x1 (aI h 70 x2)))), some (.int (J (x2 + 1)))] [] h Q))) :
    Ex X PG (d + 1) 154 4 [some (.ref 52), some (.int (J x1)), some (.int (J x2))] [] h Q := by
  refine wpx_ok (cut := [4]) 13 d 154 4 _ _ _ _ ?_
  show hs h 52 = (0, 6) ∧ (((hF h 52 4) ≤ (J x2) → Q (some (.int (J x1))) h) ∧ (¬ ((hF h 52 4) ≤ (J x2)) → hs h 52 = (0, 6) ∧ ∃ q4, hR h 52 6 = some q4 ∧ (hs h q4).1 = 1 ∧ ix (J x2) (hs h q4).2 ∧ Ex X PG (d + 1) 154 4 [some (.ref 52), some (.int (if (J x1) < (hI h q4 (Int32.toNatClampNeg (J x2))) then (hI h q4 (Int32.toNatClampNeg (J x2))) else (J x1))), some (.int ((J x2) + (J 1)))] [] h Q))
  try simp only [aI_wAL, fI_wAL, aL_wA, aL_wF, aI_wA_ne, aI_wF_ne, fI_wA_ne, fI_wF_ne, fI_wF_nk, aL_wAL_ne, J_sameA, J_sameF, aL_same, Nat.add_left_cancel_iff, Nat.add_eq_left, Nat.left_eq_add, not_false_eq_true, Nat.reduceEqDiff, Nat.reduceAdd, J_add, J_sub, J_mul, J_neg, J_and, J_or, J_xor, J_shl, J_shr, J_div, J_i2b, J_i2l, J_l2i, J_lcm, J_max, J_min, J_nab, J_nao, rdA, rdF, rdL, wA_fold, wF_fold, wL_fold, wC_fold]
  refine ⟨(ls52 C_h), ?_⟩
  obtain ⟨k3, w⟩ := w
  refine ⟨fun c1 => ?_, fun c1 => ?_⟩
  · have t2 : fI h 52 4 ≤ x2 := ((Jle (rg_toInt _) k3).mp c1)
    replace w := w.1 t2
    exact w
  · have t2 : ¬ fI h 52 4 ≤ x2 := (fun e => c1 ((Jle (rg_toInt _) k3).mpr e))
    replace w := w.2 t2
    refine ⟨(ls52 C_h), _, (lr52_6 C_h), ?_⟩
    obtain ⟨k5, w⟩ := w
    refine ⟨congrArg Prod.fst (ls70 C_h), ixs (ls70 C_h) k5 (by decide), ?_⟩
    exact w
theorem m154 {X : Cst} {d : Nat} {pl : Nat} {N : Int} {S : Int → Int} {h : AH} {Q : Post} (C : Lay h) (P : hR h 52 0 = some pl) (K : PlanAt h pl) (hd : 1 ≤ d) (R : CS h pl S) (W : WF N S)
    (k : ∀ L, -1 ≤ L → L ≤ 60 → (∀ j, 0 ≤ j → j < S 114 → S (84 + 3 * j) ≤ L) → Q (some (.int (J L))) h) : Ex X PG d 154 0 [some (.ref 52), none, none] [] h Q := by
  obtain ⟨d, rfl⟩ : ∃ e, d = e + 1 := ⟨d - 1, by omega⟩
  have nn := W.2.2.2.2.2.1
  have n0 := nn.1
  have n1 := nn.2.1
  have lp : ∀ (z : Nat) (i L : Int), S 114 - i = z → 0 ≤ i → -1 ≤ L → L ≤ 60 → (∀ j, 0 ≤ j → j < i → S (84 + 3 * j) ≤ L) → Ex X PG (d + 1) 154 4 [some (.ref 52), some (.int (J L)), some (.int (J i))] [] h Q := by
    intro z
    induction z with
    | zero =>
      intro i L e1 e2 l0 l1 a
      refine r154_4 C K P ?_
      rw [R.2.2.2.1]
      exact ⟨by omega, fun _ => k L l0 l1 (fun j j0 j1 => a j j0 (by omega)), fun y => absurd (by omega) y⟩
    | succ z ih =>
      intro i L e1 e2 l0 l1 a
      have n2 := nn.2.2 i e2 (by omega)
      refine r154_4 C K P ?_
      rw [R.2.2.2.1, (R.2.2.2.2 i e2 (by omega)).1, imx_if (by omega) (by omega)]
      refine ⟨by omega, fun y => absurd y (by omega), fun _ => ⟨by omega, ?_⟩⟩
      by_cases c : L < S (84 + 3 * i)
      · rw [if_pos c]
        refine ih (i + 1) _ (by omega) (by omega) (by omega) (by omega) (fun j j0 j1 => ?_)
        by_cases q : j = i
        · subst q; omega
        · have := a j j0 (by omega); omega
      · rw [if_neg c]
        refine ih (i + 1) _ (by omega) (by omega) (by omega) (by omega) (fun j j0 j1 => ?_)
        by_cases q : j = i
        · subst q; omega
        · exact a j j0 (by omega)
  refine r154_0 C K P ?_
  exact lp (S 114).toNat 0 (-1) (by omega) (by omega) (by omega) (by omega) (fun j j0 j1 => by omega)
-- OutwardDoors$Scene.notesHold(ILOutwardDoors$World;)Z at 0
set_option maxRecDepth 20000 in
set_option maxHeartbeats 4000000 in
theorem r155_0 {X : Cst} {d : Nat} {x1 : Int} {pl : Nat} {h : AH} {Q : Post} (C_h : Lay h) (K_h_0 : PlanAt h pl) (P_h : hR h 52 0 = some pl)
  (w : Ex X PG (d + 1) 155 2 [some (.ref 52), some (.int (J x1)), some (.ref 114), some (.int (J 0))] [] h Q) :
    Ex X PG (d + 1) 155 0 [some (.ref 52), some (.int (J x1)), some (.ref 114), none] [] h Q := by
  refine wpx_ok (cut := [2]) 2 d 155 0 _ _ _ _ ?_
  show Ex X PG (d + 1) 155 2 [some (.ref 52), some (.int (J x1)), some (.ref 114), some (.int (J 0))] [] h Q
  try simp only [aI_wAL, fI_wAL, aL_wA, aL_wF, aI_wA_ne, aI_wF_ne, fI_wA_ne, fI_wF_ne, fI_wF_nk, aL_wAL_ne, J_sameA, J_sameF, aL_same, Nat.add_left_cancel_iff, Nat.add_eq_left, Nat.left_eq_add, not_false_eq_true, Nat.reduceEqDiff, Nat.reduceAdd, J_add, J_sub, J_mul, J_neg, J_and, J_or, J_xor, J_shl, J_shr, J_div, J_i2b, J_i2l, J_l2i, J_lcm, J_max, J_min, J_nab, J_nao, rdA, rdF, rdL, wA_fold, wF_fold, wL_fold, wC_fold]
  exact w
-- OutwardDoors$Scene.notesHold(ILOutwardDoors$World;)Z at 2
set_option maxRecDepth 20000 in
set_option maxHeartbeats 4000000 in
theorem r155_2 {X : Cst} {d : Nat} {x1 : Int} {x3 : Int} {pl : Nat} {h : AH} {Q : Post} (C_h : Lay h) (K_h_0 : PlanAt h pl) (P_h : hR h 52 0 = some pl)
  (w : (-2147483648 ≤ x3 ∧ x3 < 2147483648) ∧ ((fI h 52 4 ≤ x3 → Q (some (.int (J 1))) h) ∧ (¬ fI h 52 4 ≤ x3 → (0 ≤ x3 ∧ x3 < 10) ∧ (-2147483648 ≤ x1 ∧ x1 < 2147483648) ∧ ((¬ aI h 70 x3 = x1 → Ex X PG (d + 1) 155 2 [some (.ref 52), some (.int (J x1)), some (.ref 114), some (.int (J (x3 + 1)))] [] h Q) ∧ (aI h 70 x3 = x1 → (0 ≤ aI h 71 x3 ∧ aI h 71 x3 < 4) ∧ ((aI h 115 (aI h 71 x3) = aI h 72 x3 → Ex X PG (d + 1) 155 2 [some (.ref 52), some (.int (J x1)), some (.ref 114), some (.int (J (x3 + 1)))] [] h Q) ∧ (¬ aI h 115 (aI h 71 x3) = aI h 72 x3 → Q (some (.int (J 0))) h))))))) :
    Ex X PG (d + 1) 155 2 [some (.ref 52), some (.int (J x1)), some (.ref 114), some (.int (J x3))] [] h Q := by
  refine wpx_ok (cut := [2]) 24 d 155 2 _ _ _ _ ?_
  show hs h 52 = (0, 6) ∧ (((hF h 52 4) ≤ (J x3) → (J 1 = J 0 ∨ J 1 = J 1) ∧ Q (some (.int (J 1))) h) ∧ (¬ ((hF h 52 4) ≤ (J x3)) → hs h 52 = (0, 6) ∧ ∃ q4, hR h 52 6 = some q4 ∧ (hs h q4).1 = 1 ∧ ix (J x3) (hs h q4).2 ∧ ((¬ (hI h q4 (Int32.toNatClampNeg (J x3))) = (J x1) → Ex X PG (d + 1) 155 2 [some (.ref 52), some (.int (J x1)), some (.ref 114), some (.int ((J x3) + (J 1)))] [] h Q) ∧ (¬ (¬ (hI h q4 (Int32.toNatClampNeg (J x3))) = (J x1)) → hs h 114 = (0, 9) ∧ ∃ q9, hR h 114 0 = some q9 ∧ hs h 52 = (0, 6) ∧ ∃ q10, hR h 52 7 = some q10 ∧ (hs h q10).1 = 1 ∧ ix (J x3) (hs h q10).2 ∧ (hs h q9).1 = 1 ∧ ix (hI h q10 (Int32.toNatClampNeg (J x3))) (hs h q9).2 ∧ hs h 52 = (0, 6) ∧ ∃ q12, hR h 52 8 = some q12 ∧ (hs h q12).1 = 1 ∧ ix (J x3) (hs h q12).2 ∧ (((hI h q9 (Int32.toNatClampNeg (hI h q10 (Int32.toNatClampNeg (J x3))))) = (hI h q12 (Int32.toNatClampNeg (J x3))) → Ex X PG (d + 1) 155 2 [some (.ref 52), some (.int (J x1)), some (.ref 114), some (.int ((J x3) + (J 1)))] [] h Q) ∧ (¬ ((hI h q9 (Int32.toNatClampNeg (hI h q10 (Int32.toNatClampNeg (J x3))))) = (hI h q12 (Int32.toNatClampNeg (J x3)))) → (J 0 = J 0 ∨ J 0 = J 1) ∧ Q (some (.int (J 0))) h))))))
  try simp only [aI_wAL, fI_wAL, aL_wA, aL_wF, aI_wA_ne, aI_wF_ne, fI_wA_ne, fI_wF_ne, fI_wF_nk, aL_wAL_ne, J_sameA, J_sameF, aL_same, Nat.add_left_cancel_iff, Nat.add_eq_left, Nat.left_eq_add, not_false_eq_true, Nat.reduceEqDiff, Nat.reduceAdd, J_add, J_sub, J_mul, J_neg, J_and, J_or, J_xor, J_shl, J_shr, J_div, J_i2b, J_i2l, J_l2i, J_lcm, J_max, J_min, J_nab, J_nao, rdA, rdF, rdL, wA_fold, wF_fold, wL_fold, wC_fold]
  refine ⟨(ls52 C_h), ?_⟩
  obtain ⟨k3, w⟩ := w
  refine ⟨fun c1 => ?_, fun c1 => ?_⟩
  · have t2 : fI h 52 4 ≤ x3 := ((Jle (rg_toInt _) k3).mp c1)
    replace w := w.1 t2
    exact ⟨(Or.inr (by trivial)), w⟩
  · have t2 : ¬ fI h 52 4 ≤ x3 := (fun e => c1 ((Jle (rg_toInt _) k3).mpr e))
    replace w := w.2 t2
    refine ⟨(ls52 C_h), _, (lr52_6 C_h), ?_⟩
    obtain ⟨k5, w⟩ := w
    refine ⟨congrArg Prod.fst (ls70 C_h), ixs (ls70 C_h) k5 (by decide), ?_⟩
    obtain ⟨k8, w⟩ := w
    refine ⟨fun c6 => ?_, fun c6 => ?_⟩
    · have t7 : ¬ aI h 70 x3 = x1 := (fun e => c6 ((Jeq (rg_toInt _) k8).mpr e))
      replace w := w.1 t7
      exact w
    · have t7 : aI h 70 x3 = x1 := ((Jeq (rg_toInt _) k8).mp (Classical.byContradiction c6))
      replace w := w.2 t7
      refine ⟨(ls114 C_h), _, (lr114_0 C_h), ?_⟩
      refine ⟨(ls52 C_h), _, (lr52_7 C_h), ?_⟩
      refine ⟨congrArg Prod.fst (ls71 C_h), ixs (ls71 C_h) k5 (by decide), ?_⟩
      obtain ⟨k11, w⟩ := w
      refine ⟨congrArg Prod.fst (ls115 C_h), ixs (ls115 C_h) k11 (by decide), ?_⟩
      refine ⟨(ls52 C_h), _, (lr52_8 C_h), ?_⟩
      refine ⟨congrArg Prod.fst (ls72 C_h), ixs (ls72 C_h) k5 (by decide), ?_⟩
      refine ⟨fun c13 => ?_, fun c13 => ?_⟩
      · have t14 : aI h 115 (aI h 71 x3) = aI h 72 x3 := ((Jeq (rg_toInt _) (rg_toInt _)).mp c13)
        replace w := w.1 t14
        exact w
      · have t14 : ¬ aI h 115 (aI h 71 x3) = aI h 72 x3 := (fun e => c13 ((Jeq (rg_toInt _) (rg_toInt _)).mpr e))
        replace w := w.2 t14
        exact ⟨(Or.inl (by trivial)), w⟩
theorem m155 {X : Cst} {d : Nat} {pl : Nat} {N n : Int} {S U : Int → Int} {h : AH} {Q : Post} (C : Lay h) (P : hR h 52 0 = some pl) (K : PlanAt h pl) (hd : 1 ≤ d) (R : fI h 52 4 = S 114 ∧ ∀ k, 0 ≤ k → k < S 114 → aI h 70 k = S (84 + 3 * k) ∧ aI h 71 k = S (84 + 3 * k + 1) ∧ aI h 72 k = S (84 + 3 * k + 2)) (W : WF N S) (V : WorldRep h 114 U) (e2 : U 2 = S 2) (hn : 0 ≤ n ∧ n ≤ 60)
    (k : Q (some (.int (J (bI (ntS S U n))))) h) : Ex X PG d 155 0 [some (.ref 52), some (.int (J n)), some (.ref 114), none] [] h Q := by
  obtain ⟨d, rfl⟩ : ∃ e, d = e + 1 := ⟨d - 1, by omega⟩
  have b := W.1
  unfold WFb at b
  have nn := W.2.2.2.2.2.1
  have n0 := nn.1
  have n1 := nn.2.1
  have lp : ∀ (z : Nat) (i : Int), S 114 - i = z → 0 ≤ i → (∀ j, 0 ≤ j → j < i → S (84 + 3 * j) = n → pS U (S (84 + 3 * j + 1)) 0 = S (84 + 3 * j + 2)) → Ex X PG (d + 1) 155 2 [some (.ref 52), some (.int (J n)), some (.ref 114), some (.int (J i))] [] h Q := by
    intro z
    induction z with
    | zero =>
      intro i e1 i0 a
      refine r155_2 C K P ?_
      rw [R.1]
      rw [bI_pos (show ntS S U n from fun j j0 j1 => a j j0 (by omega))] at k
      exact ⟨by omega, fun _ => k, fun y => absurd (by omega) y⟩
    | succ z ih =>
      intro i e1 i0 a
      have n2 := nn.2.2 i i0 (by omega)
      have r := R.2 i i0 (by omega)
      refine r155_2 C K P ?_
      rw [R.1, r.1, r.2.1, r.2.2, show aI h 115 (S (84 + 3 * i + 1)) = pS U (S (84 + 3 * i + 1)) 0 from (V.1 _ (by omega) (by omega)).1]
      refine ⟨by omega, fun y => absurd y (by omega), fun _ => ⟨by omega, by omega, fun c => ?_, fun c => ⟨by omega, fun c2 => ?_, fun c2 => ?_⟩⟩⟩
      · refine ih (i + 1) (by omega) (by omega) (fun j j0 j1 => ?_)
        by_cases q : j = i
        · subst q; exact fun z => absurd z c
        · exact a j j0 (by omega)
      · refine ih (i + 1) (by omega) (by omega) (fun j j0 j1 => ?_)
        by_cases q : j = i
        · subst q; exact fun _ => c2
        · exact a j j0 (by omega)
      · rw [bI_neg (fun z => c2 (z i i0 (by omega) c))] at k
        exact k
  refine r155_0 C K P ?_
  exact lp (S 114).toNat 0 (by omega) (by omega) (fun j j0 j1 => by omega)
theorem WBeg.rep {N : Int} {h h' : AH} {a pl : Nat} {S : Int → Int} (x : WBeg h h' a pl) (P : PlanRep h pl S) (W : WF N S) : WorldRep h' a (begS S) := by
  have b := W.1
  unfold WFb at b
  have b2 : begS S 2 = S 2 := begS_k W (by decide) (by decide)
  refine ⟨fun p p0 p1 => ?_, fun p p0 p1 => ?_, ?_⟩
  · rw [b2] at p1
    have e := x.1 p p0 (by omega)
    have q := P.2.2.2.2.1 p p0 p1
    rw [begS_p W ⟨p0, p1⟩ (by decide), begS_p W ⟨p0, p1⟩ (by decide), begS_p W ⟨p0, p1⟩ (by decide), begS_p W ⟨p0, p1⟩ (by decide), begS_p W ⟨p0, p1⟩ (by decide), e.1, e.2.1, e.2.2.1, e.2.2.2.1, e.2.2.2.2]
    exact ⟨q.1, q.2.1, rfl, rfl, rfl⟩
  · rw [b2] at p0
    have e := x.1 p (by omega) p1
    exact ⟨e.2.2.1, e.2.2.2.1⟩
  · rw [x.2]; exact (begN_3 _ (by omega)).symm
-- OutwardDoors.fitsNotes(I)Z at 0
set_option maxRecDepth 20000 in
set_option maxHeartbeats 4000000 in
theorem r153_0 {X : Cst} {d : Nat} {x1 : Int} {pl : Nat} {g : Nat} {h : AH} {Q : Post} (C_h : Lay h) (K_h_0 : PlanAt h pl) (K_h_1 : RuleAt h g) (P_h : hR h 52 0 = some pl) (hd : 2 ≤ d)
  (w : (g = rad x1 (fI h 0 13)) ∧ (fI h 0 13 ≤ 6) ∧ (-2147483648 ≤ x1 ∧ x1 < 2147483648) ∧ Ex X PG d 154 0 [some (.ref 52), none, none] [] h (fun v8 h9 => ∃ r10 : Int, (-2147483648 ≤ r10 ∧ r10 < 2147483648) ∧ v8 = some (.int (J r10)) ∧ SH h h9 ∧ (114 + 5 < pl ∨ pl + 10 < 114) ∧ (∀ h15, SH h9 h15 → (Fr (fun c _ => 114 ≤ c ∧ c ≤ 114 + 5) h9 h15 ∧ WBeg h9 h15 114 pl) → Ex X PG (d + 1) 153 31 [some (.ref 0), some (.int (J x1)), some (.ref g), some (.int (J r10)), some (.int (J 0))] [] h15 Q))) :
    Ex X PG (d + 1) 153 0 [some (.ref 0), some (.int (J x1)), none, none, none] [] h Q := by
  refine wpx_ok (cut := [31]) 16 d 153 0 _ _ _ _ ?_
  show hs h 0 = (0, 10) ∧ Ex X PG d 89 0 [some (.ref 0), some (.int (J x1))] [] h (fun v1 h2 => ∃ r3, v1 = some (.ref r3) ∧ hs h2 0 = (0, 10) ∧ ∃ q7, hR h2 0 5 = some q7 ∧ hs h2 q7 = (0, 6) ∧ Ex X PG d 154 0 [some (.ref q7), none, none] [] h2 (fun v8 h9 => ∃ r10, v8 = some (.int r10) ∧ hs h9 0 = (0, 10) ∧ ∃ q11, hR h9 0 7 = some q11 ∧ hs h9 0 = (0, 10) ∧ ∃ q12, hR h9 0 5 = some q12 ∧ hs h9 q12 = (0, 6) ∧ ∃ q13, hR h9 q12 0 = some q13 ∧ hs h9 q11 = (0, 9) ∧ Ex X PG d 56 0 [some (.ref q11), some (.ref q13)] [] h9 (fun v14 h15 => v14 = none ∧ Ex X PG (d + 1) 153 31 [some (.ref 0), some (.int (J x1)), some (.ref r3), some (.int r10), some (.int (J 0))] [] h15 Q)))
  try simp only [aI_wAL, fI_wAL, aL_wA, aL_wF, aI_wA_ne, aI_wF_ne, fI_wA_ne, fI_wF_ne, fI_wF_nk, aL_wAL_ne, J_sameA, J_sameF, aL_same, Nat.add_left_cancel_iff, Nat.add_eq_left, Nat.left_eq_add, not_false_eq_true, Nat.reduceEqDiff, Nat.reduceAdd, J_add, J_sub, J_mul, J_neg, J_and, J_or, J_xor, J_shl, J_shr, J_div, J_i2b, J_i2l, J_l2i, J_lcm, J_max, J_min, J_nab, J_nao, rdA, rdF, rdL, wA_fold, wF_fold, wL_fold, wC_fold]
  refine ⟨(ls0 C_h), ?_⟩
  obtain ⟨k4, w⟩ := w
  obtain ⟨k5, w⟩ := w
  obtain ⟨k6, w⟩ := w
  refine m89 (h := h) (f := x1) (pl := pl) (g := g) C_h P_h K_h_0 (by omega) k4 k5 k6 ?_
  refine ⟨_, rfl, ?_⟩
  try simp only [aI_wAL, fI_wAL, aL_wA, aL_wF, aI_wA_ne, aI_wF_ne, fI_wA_ne, fI_wF_ne, fI_wF_nk, aL_wAL_ne, J_sameA, J_sameF, aL_same, Nat.add_left_cancel_iff, Nat.add_eq_left, Nat.left_eq_add, not_false_eq_true, Nat.reduceEqDiff, Nat.reduceAdd, J_add, J_sub, J_mul, J_neg, J_and, J_or, J_xor, J_shl, J_shr, J_div, J_i2b, J_i2l, J_l2i, J_lcm, J_max, J_min, J_nab, J_nao, rdA, rdF, rdL, wA_fold, wF_fold, wL_fold, wC_fold]
  refine ⟨(ls0 C_h), _, (lr0_5 C_h), ?_⟩
  refine ⟨(ls52 C_h), ?_⟩
  refine Ex.mono w (Nat.le_refl _) ?_
  rintro v8 h9 ⟨r10, gr10, rfl, s19, w⟩
  refine ⟨_, rfl, ?_⟩
  have C_h9 := Lay_SH s19 C_h
  have K_h9_0 := PlanAt_SH s19 K_h_0
  have K_h9_1 := RuleAt_SH s19 K_h_1
  have P_h9 := (congrFun (congrFun s19.2 52) 0).trans P_h
  try simp only [aI_wAL, fI_wAL, aL_wA, aL_wF, aI_wA_ne, aI_wF_ne, fI_wA_ne, fI_wF_ne, fI_wF_nk, aL_wAL_ne, J_sameA, J_sameF, aL_same, Nat.add_left_cancel_iff, Nat.add_eq_left, Nat.left_eq_add, not_false_eq_true, Nat.reduceEqDiff, Nat.reduceAdd, J_add, J_sub, J_mul, J_neg, J_and, J_or, J_xor, J_shl, J_shr, J_div, J_i2b, J_i2l, J_l2i, J_lcm, J_max, J_min, J_nab, J_nao, rdA, rdF, rdL, wA_fold, wF_fold, wL_fold, wC_fold]
  refine ⟨(ls0 C_h9), _, (lr0_7 C_h9), ?_⟩
  refine ⟨(ls0 C_h9), _, (lr0_5 C_h9), ?_⟩
  refine ⟨(ls52 C_h9), _, P_h9, ?_⟩
  refine ⟨(ls114 C_h9), ?_⟩
  obtain ⟨k16, w⟩ := w
  refine m56 (h := h9) (a := 114) (b := pl) C_h9 (WorldAt_114 C_h9) K_h9_0 (by omega) k16 ?_
  intro h15 s17 p18
  replace w := w h15 s17 p18
  refine ⟨rfl, ?_⟩
  have C_h15 := Lay_SH s17 C_h9
  have K_h15_0 := PlanAt_SH s17 K_h9_0
  have K_h15_1 := RuleAt_SH s17 K_h9_1
  have P_h15 := (congrFun (congrFun s17.2 52) 0).trans P_h9
  try simp only [aI_wAL, fI_wAL, aL_wA, aL_wF, aI_wA_ne, aI_wF_ne, fI_wA_ne, fI_wF_ne, fI_wF_nk, aL_wAL_ne, J_sameA, J_sameF, aL_same, Nat.add_left_cancel_iff, Nat.add_eq_left, Nat.left_eq_add, not_false_eq_true, Nat.reduceEqDiff, Nat.reduceAdd, J_add, J_sub, J_mul, J_neg, J_and, J_or, J_xor, J_shl, J_shr, J_div, J_i2b, J_i2l, J_l2i, J_lcm, J_max, J_min, J_nab, J_nao, rdA, rdF, rdL, wA_fold, wF_fold, wL_fold, wC_fold]
  exact w
-- OutwardDoors.fitsNotes(I)Z at 31
set_option maxRecDepth 20000 in
set_option maxHeartbeats 4000000 in
theorem r153_31 {X : Cst} {d : Nat} {x1 : Int} {g : Nat} {x3 : Int} {x4 : Int} {pl : Nat} {h : AH} {Q : Post} (C_h : Lay h) (K_h_0 : PlanAt h pl) (K_h_1 : RuleAt h g) (P_h : hR h 52 0 = some pl)
  (w : (-2147483648 ≤ x4 ∧ x4 < 2147483648) ∧ (-2147483648 ≤ x3 ∧ x3 < 2147483648) ∧ ((x3 < x4 → Q (some (.int (J 1))) h) ∧ (¬ x3 < x4 → Ex X PG d 155 0 [some (.ref 52), some (.int (J x4)), some (.ref 114), none] [] h (fun v7 h8 => ∃ r9 : Int, (-2147483648 ≤ r9 ∧ r9 < 2147483648) ∧ v7 = some (.int (J r9)) ∧ SH h h8 ∧ ((¬ r9 = 0 → Ex X PG d 90 0 [some (.ref 241), some (.ref pl), some (.ref 114), some (.ref g), none, none] [] h8 (fun v16 h17 => v16 = none ∧ SH h8 h17 ∧ Ex X PG (d + 1) 153 31 [some (.ref 0), some (.int (J x1)), some (.ref g), some (.int (J x3)), some (.int (J (x4 + 1)))] [] h17 Q)) ∧ (r9 = 0 → Q (some (.int (J 0))) h8)))))) :
    Ex X PG (d + 1) 153 31 [some (.ref 0), some (.int (J x1)), some (.ref g), some (.int (J x3)), some (.int (J x4))] [] h Q := by
  refine wpx_ok (cut := [31]) 21 d 153 31 _ _ _ _ ?_
  show (((J x3) < (J x4) → (J 1 = J 0 ∨ J 1 = J 1) ∧ Q (some (.int (J 1))) h) ∧ (¬ ((J x3) < (J x4)) → hs h 0 = (0, 10) ∧ ∃ q5, hR h 0 5 = some q5 ∧ hs h 0 = (0, 10) ∧ ∃ q6, hR h 0 7 = some q6 ∧ hs h q5 = (0, 6) ∧ Ex X PG d 155 0 [some (.ref q5), some (.int (J x4)), some (.ref q6), none] [] h (fun v7 h8 => ∃ r9, v7 = some (.int r9) ∧ ((¬ r9 = (J 0) → hs h8 0 = (0, 10) ∧ ∃ q12, hR h8 0 9 = some q12 ∧ hs h8 0 = (0, 10) ∧ ∃ q13, hR h8 0 5 = some q13 ∧ hs h8 q13 = (0, 6) ∧ ∃ q14, hR h8 q13 0 = some q14 ∧ hs h8 0 = (0, 10) ∧ ∃ q15, hR h8 0 7 = some q15 ∧ hs h8 q12 = (0, 1) ∧ Ex X PG d 90 0 [some (.ref q12), some (.ref q14), some (.ref q15), some (.ref g), none, none] [] h8 (fun v16 h17 => v16 = none ∧ Ex X PG (d + 1) 153 31 [some (.ref 0), some (.int (J x1)), some (.ref g), some (.int (J x3)), some (.int ((J x4) + (J 1)))] [] h17 Q)) ∧ (¬ (¬ r9 = (J 0)) → (J 0 = J 0 ∨ J 0 = J 1) ∧ Q (some (.int (J 0))) h8)))))
  try simp only [aI_wAL, fI_wAL, aL_wA, aL_wF, aI_wA_ne, aI_wF_ne, fI_wA_ne, fI_wF_ne, fI_wF_nk, aL_wAL_ne, J_sameA, J_sameF, aL_same, Nat.add_left_cancel_iff, Nat.add_eq_left, Nat.left_eq_add, not_false_eq_true, Nat.reduceEqDiff, Nat.reduceAdd, J_add, J_sub, J_mul, J_neg, J_and, J_or, J_xor, J_shl, J_shr, J_div, J_i2b, J_i2l, J_l2i, J_lcm, J_max, J_min, J_nab, J_nao, rdA, rdF, rdL, wA_fold, wF_fold, wL_fold, wC_fold]
  obtain ⟨k3, w⟩ := w
  obtain ⟨k4, w⟩ := w
  refine ⟨fun c1 => ?_, fun c1 => ?_⟩
  · have t2 : x3 < x4 := ((Jlt k4 k3).mp c1)
    replace w := w.1 t2
    exact ⟨(Or.inr (by trivial)), w⟩
  · have t2 : ¬ x3 < x4 := (fun e => c1 ((Jlt k4 k3).mpr e))
    replace w := w.2 t2
    refine ⟨(ls0 C_h), _, (lr0_5 C_h), ?_⟩
    refine ⟨(ls0 C_h), _, (lr0_7 C_h), ?_⟩
    refine ⟨(ls52 C_h), ?_⟩
    refine Ex.mono w (Nat.le_refl _) ?_
    rintro v7 h8 ⟨r9, gr9, rfl, s19, w⟩
    refine ⟨_, rfl, ?_⟩
    have C_h8 := Lay_SH s19 C_h
    have K_h8_0 := PlanAt_SH s19 K_h_0
    have K_h8_1 := RuleAt_SH s19 K_h_1
    have P_h8 := (congrFun (congrFun s19.2 52) 0).trans P_h
    try simp only [aI_wAL, fI_wAL, aL_wA, aL_wF, aI_wA_ne, aI_wF_ne, fI_wA_ne, fI_wF_ne, fI_wF_nk, aL_wAL_ne, J_sameA, J_sameF, aL_same, Nat.add_left_cancel_iff, Nat.add_eq_left, Nat.left_eq_add, not_false_eq_true, Nat.reduceEqDiff, Nat.reduceAdd, J_add, J_sub, J_mul, J_neg, J_and, J_or, J_xor, J_shl, J_shr, J_div, J_i2b, J_i2l, J_l2i, J_lcm, J_max, J_min, J_nab, J_nao, rdA, rdF, rdL, wA_fold, wF_fold, wL_fold, wC_fold]
    refine ⟨fun c10 => ?_, fun c10 => ?_⟩
    · have t11 : ¬ r9 = 0 := (fun e => c10 ((Jeq gr9 (by decide)).mpr e))
      replace w := w.1 t11
      refine ⟨(ls0 C_h8), _, (lr0_9 C_h8), ?_⟩
      refine ⟨(ls0 C_h8), _, (lr0_5 C_h8), ?_⟩
      refine ⟨(ls52 C_h8), _, P_h8, ?_⟩
      refine ⟨(ls0 C_h8), _, (lr0_7 C_h8), ?_⟩
      refine ⟨(ls241 C_h8), ?_⟩
      refine Ex.mono w (Nat.le_refl _) ?_
      rintro v16 h17 ⟨rfl, s18, w⟩
      refine ⟨rfl, ?_⟩
      have C_h17 := Lay_SH s18 C_h8
      have K_h17_0 := PlanAt_SH s18 K_h8_0
      have K_h17_1 := RuleAt_SH s18 K_h8_1
      have P_h17 := (congrFun (congrFun s18.2 52) 0).trans P_h8
      try simp only [aI_wAL, fI_wAL, aL_wA, aL_wF, aI_wA_ne, aI_wF_ne, fI_wA_ne, fI_wF_ne, fI_wF_nk, aL_wAL_ne, J_sameA, J_sameF, aL_same, Nat.add_left_cancel_iff, Nat.add_eq_left, Nat.left_eq_add, not_false_eq_true, Nat.reduceEqDiff, Nat.reduceAdd, J_add, J_sub, J_mul, J_neg, J_and, J_or, J_xor, J_shl, J_shr, J_div, J_i2b, J_i2l, J_l2i, J_lcm, J_max, J_min, J_nab, J_nao, rdA, rdF, rdL, wA_fold, wF_fold, wL_fold, wC_fold]
      exact w
    · have t11 : r9 = 0 := ((Jeq gr9 (by decide)).mp (Classical.byContradiction c10))
      replace w := w.2 t11
      exact ⟨(Or.inl (by trivial)), w⟩
theorem m153 {X : Cst} {d : Nat} {pl : Nat} {N f n : Int} {Rs : Int → Ru} {S : Int → Int} {h : AH} {Q : Post} (C : Lay h) (P : hR h 52 0 = some pl) (K : PlanAt h pl) (hd : 6 ≤ d) (R : CS h pl S) (W : WF N S) (hN : N ≤ 999) (U : CU h n Rs) (hf : -1 ≤ f ∧ f < n)
    (k : ∀ h', Fr TAh h h' → Q (some (.int (J (bI (fit f Rs S))))) h') : Ex X PG d 153 0 [some (.ref 0), some (.int (J f)), none, none, none] [] h Q := by
  obtain ⟨d, rfl⟩ : ∃ e, d = e + 1 := ⟨d - 1, by omega⟩
  have b := W.1
  unfold WFb at b
  have W9 : WF 999 S := W.up hN
  obtain ⟨M, cr, ok, ap, ap2⟩ := U.at C hf.2
  have un := U.2.1
  obtain ⟨BW, BS⟩ := begS_WF W
  refine r153_0 C K M P (by omega) ?_
  rw [U.1]
  refine ⟨rfl, un.2, by omega, ?_⟩
  refine m154 C P K (by omega) R W (fun L l0 l1 al => ?_)
  refine ⟨L, by omega, rfl, SH.rf, by have := R.1; omega, fun h15 s15 p15 => ?_⟩
  have F15 : Fr TAh h h15 := p15.1.mo fun c k z => by unfold TAh; omega
  have lp : ∀ (z m : Nat) (h' : AH), L + 1 = z + m → Fr TAh h h' → WorldRep h' 114 (momI f Rs m (begS S)) → fitB f Rs S m → Ex X PG (d + 1) 153 31 [some (.ref 0), some (.int (J f)), some (.ref (rad f n)), some (.int (J L)), some (.int (J (m : Int)))] [] h' Q := by
    intro z
    induction z with
    | zero =>
      intro m h' e F V fb
      refine r153_31 (F.C C) (PlanAt_SH F.1 K) (RuleAt_SH F.1 M) (hR_fr F P) ⟨by omega, by omega, fun _ => ?_, fun y => absurd (by omega) y⟩
      have q := k h' F
      have ft : fit f Rs S := by
        intro i hi
        by_cases c : i < m
        · exact fb i c
        · intro j j0 j1 ej
          have := al j j0 j1
          omega
      rw [bI_pos ft] at q
      exact q
    | succ z ih =>
      intro m h' e F V fb
      have u2 : momI f Rs m (begS S) 2 = S 2 := by rw [momI_k BW (Or.inl (by decide))]; exact begS_k W (by decide) (by decide)
      refine r153_31 (F.C C) (PlanAt_SH F.1 K) (RuleAt_SH F.1 M) (hR_fr F P) ⟨by omega, by omega, fun y => absurd y (by omega), fun _ => ?_⟩
      refine m155 (S := S) (U := momI f Rs m (begS S)) (F.C C) (hR_fr F P) (PlanAt_SH F.1 K) (by omega) ?_ W V u2 (by omega) ?_
      · rw [F.f 52 4 (fun z => by unfold TAh at z; omega), F.a 70 (fun k z => by unfold TAh at z; omega), F.a 71 (fun k z => by unfold TAh at z; omega), F.a 72 (fun k z => by unfold TAh at z; omega)]
        exact R.2.2.2
      · refine ⟨_, bI_rg _, rfl, SH.rf, fun c => ?_, fun c => ?_⟩
        · have nt : ntS S (momI f Rs m (begS S)) m := by
            apply Classical.byContradiction
            intro y
            rw [bI_neg y] at c; omega
          refine m90t (n := n) C K (by omega) R.1 R.2.1 W9 U hf rfl F (BS.tr (momI_Stat BW m)) V ((momI_WF BW m).up (by omega)) (fun h'' F2 V2 _ _ => ⟨rfl, F2.1, ?_⟩)
          refine ih (m + 1) h'' (by omega) (F.tr F2) V2 (fun i hi => ?_)
          by_cases q : i = m
          · subst q; exact nt
          · exact fb i (by omega)
        · have nt : ¬ ntS S (momI f Rs m (begS S)) m := fun y => by rw [bI_pos y] at c; omega
          have q := k h' F
          rw [bI_neg (fun z => nt (z m (by omega)))] at q
          exact q
  exact lp (L + 1).toNat 0 h15 (by omega) F15 (p15.2.rep R.2.1 W) (fun i hi => absurd hi (by omega))
-- OutwardDoors.ruled(I)I at 0
set_option maxRecDepth 20000 in
set_option maxHeartbeats 4000000 in
theorem r152_0 {X : Cst} {d : Nat} {x1 : Int} {pl : Nat} {S : Int → Int} {h : AH} {Q : Post} (C_h : Lay h) (K_h_0 : PlanAt h pl) (P_h : hR h 52 0 = some pl) (hd : 1 ≤ d)
  (w : (CS h pl S) ∧ ((¬ (0 < S 0) → Q (some (.int (J (-3)))) h) ∧ ((0 < S 0) → (-2147483648 ≤ x1 ∧ x1 < 2147483648) ∧ ((x1 < 0 → Q (some (.int (J (-3)))) h) ∧ (¬ x1 < 0 → ((x1 ≤ 1 → Ex X PG (d + 1) 152 27 [some (.ref 0), some (.int (J x1)), some (.int (J 0)), some (.int (J (-2))), some (.int (J (-1)))] [] h Q) ∧ (¬ x1 ≤ 1 → Q (some (.int (J (-3)))) h))))))) :
    Ex X PG (d + 1) 152 0 [some (.ref 0), some (.int (J x1)), none, none, none] [] h Q := by
  refine wpx_ok (cut := [27]) 14 d 152 0 _ _ _ _ ?_
  show hs h 0 = (0, 10) ∧ Ex X PG d 86 0 [some (.ref 0)] [] h (fun v1 h2 => ∃ r3, v1 = some (.int r3) ∧ ((r3 = (J 0) → Q (some (.int (J (-3)))) h2) ∧ (¬ (r3 = (J 0)) → (((J x1) < (J 0) → Q (some (.int (J (-3)))) h2) ∧ (¬ ((J x1) < (J 0)) → (((J x1) ≤ (J 1) → Ex X PG (d + 1) 152 27 [some (.ref 0), some (.int (J x1)), some (.int (J 0)), some (.int (J (-2))), some (.int (J (-1)))] [] h2 Q) ∧ (¬ ((J x1) ≤ (J 1)) → Q (some (.int (J (-3)))) h2)))))))
  try simp only [aI_wAL, fI_wAL, aL_wA, aL_wF, aI_wA_ne, aI_wF_ne, fI_wA_ne, fI_wF_ne, fI_wF_nk, aL_wAL_ne, J_sameA, J_sameF, aL_same, Nat.add_left_cancel_iff, Nat.add_eq_left, Nat.left_eq_add, not_false_eq_true, Nat.reduceEqDiff, Nat.reduceAdd, J_add, J_sub, J_mul, J_neg, J_and, J_or, J_xor, J_shl, J_shr, J_div, J_i2b, J_i2l, J_l2i, J_lcm, J_max, J_min, J_nab, J_nao, rdA, rdF, rdL, wA_fold, wF_fold, wL_fold, wC_fold]
  refine ⟨(ls0 C_h), ?_⟩
  obtain ⟨k4, w⟩ := w
  refine m86 (h := h)  (S := S) (pl := pl) C_h P_h K_h_0 (by omega) k4 ?_
  refine ⟨_, rfl, ?_⟩
  try simp only [aI_wAL, fI_wAL, aL_wA, aL_wF, aI_wA_ne, aI_wF_ne, fI_wA_ne, fI_wF_ne, fI_wF_nk, aL_wAL_ne, J_sameA, J_sameF, aL_same, Nat.add_left_cancel_iff, Nat.add_eq_left, Nat.left_eq_add, not_false_eq_true, Nat.reduceEqDiff, Nat.reduceAdd, J_add, J_sub, J_mul, J_neg, J_and, J_or, J_xor, J_shl, J_shr, J_div, J_i2b, J_i2l, J_l2i, J_lcm, J_max, J_min, J_nab, J_nao, rdA, rdF, rdL, wA_fold, wF_fold, wL_fold, wC_fold]
  refine ⟨fun c5 => ?_, fun c5 => ?_⟩
  · have t6 : ¬ (0 < S 0) := ((bI0 _).mp c5)
    replace w := w.1 t6
    exact w
  · have t6 : (0 < S 0) := (Classical.byContradiction fun n => c5 ((bI0 _).mpr n))
    replace w := w.2 t6
    obtain ⟨k9, w⟩ := w
    refine ⟨fun c7 => ?_, fun c7 => ?_⟩
    · have t8 : x1 < 0 := ((Jlt k9 (by decide)).mp c7)
      replace w := w.1 t8
      exact w
    · have t8 : ¬ x1 < 0 := (fun e => c7 ((Jlt k9 (by decide)).mpr e))
      replace w := w.2 t8
      refine ⟨fun c10 => ?_, fun c10 => ?_⟩
      · have t11 : x1 ≤ 1 := ((Jle k9 (by decide)).mp c10)
        replace w := w.1 t11
        exact w
      · have t11 : ¬ x1 ≤ 1 := (fun e => c10 ((Jle k9 (by decide)).mpr e))
        replace w := w.2 t11
        exact w
-- OutwardDoors.ruled(I)I at 27
set_option maxRecDepth 20000 in
set_option maxHeartbeats 4000000 in
theorem r152_27 {X : Cst} {d : Nat} {x1 : Int} {x2 : Int} {x3 : Int} {x4 : Int} {pl : Nat} {h : AH} {Q : Post} (C_h : Lay h) (K_h_0 : PlanAt h pl) (P_h : hR h 52 0 = some pl)
  (w : (-2147483648 ≤ x4 ∧ x4 < 2147483648) ∧ ((fI h 0 13 ≤ x4 → (-2147483648 ≤ x1 ∧ x1 < 2147483648) ∧ ((¬ x1 = 0 → Q (some (.int (J x3))) h) ∧ (x1 = 0 → Q (some (.int (J x2))) h))) ∧ (¬ fI h 0 13 ≤ x4 → Ex X PG d 153 0 [some (.ref 0), some (.int (J x4)), none, none, none] [] h (fun v7 h8 => ∃ r9 : Int, (-2147483648 ≤ r9 ∧ r9 < 2147483648) ∧ v7 = some (.int (J r9)) ∧ SH h h8 ∧ ((r9 = 0 → Ex X PG (d + 1) 152 27 [some (.ref 0), some (.int (J x1)), some (.int (J x2)), some (.int (J x3)), some (.int (J (x4 + 1)))] [] h8 Q) ∧ (¬ r9 = 0 → (-2147483648 ≤ x2 ∧ x2 < 2147483648) ∧ ((¬ x2 = 0 → Ex X PG (d + 1) 152 27 [some (.ref 0), some (.int (J x1)), some (.int (J (x2 + 1))), some (.int (J x3)), some (.int (J (x4 + 1)))] [] h8 Q) ∧ (x2 = 0 → Ex X PG (d + 1) 152 27 [some (.ref 0), some (.int (J x1)), some (.int (J (x2 + 1))), some (.int (J x4)), some (.int (J (x4 + 1)))] [] h8 Q)))))))) :
    Ex X PG (d + 1) 152 27 [some (.ref 0), some (.int (J x1)), some (.int (J x2)), some (.int (J x3)), some (.int (J x4))] [] h Q := by
  refine wpx_ok (cut := [27]) 15 d 152 27 _ _ _ _ ?_
  show hs h 0 = (0, 10) ∧ (((hF h 0 13) ≤ (J x4) → ((¬ (J x1) = (J 0) → Q (some (.int (J x3))) h) ∧ (¬ (¬ (J x1) = (J 0)) → Q (some (.int (J x2))) h))) ∧ (¬ ((hF h 0 13) ≤ (J x4)) → hs h 0 = (0, 10) ∧ Ex X PG d 153 0 [some (.ref 0), some (.int (J x4)), none, none, none] [] h (fun v7 h8 => ∃ r9, v7 = some (.int r9) ∧ ((r9 = (J 0) → Ex X PG (d + 1) 152 27 [some (.ref 0), some (.int (J x1)), some (.int (J x2)), some (.int (J x3)), some (.int ((J x4) + (J 1)))] [] h8 Q) ∧ (¬ (r9 = (J 0)) → ((¬ (J x2) = (J 0) → Ex X PG (d + 1) 152 27 [some (.ref 0), some (.int (J x1)), some (.int ((J x2) + (J 1))), some (.int (J x3)), some (.int ((J x4) + (J 1)))] [] h8 Q) ∧ (¬ (¬ (J x2) = (J 0)) → Ex X PG (d + 1) 152 27 [some (.ref 0), some (.int (J x1)), some (.int ((J x2) + (J 1))), some (.int (J x4)), some (.int ((J x4) + (J 1)))] [] h8 Q)))))))
  try simp only [aI_wAL, fI_wAL, aL_wA, aL_wF, aI_wA_ne, aI_wF_ne, fI_wA_ne, fI_wF_ne, fI_wF_nk, aL_wAL_ne, J_sameA, J_sameF, aL_same, Nat.add_left_cancel_iff, Nat.add_eq_left, Nat.left_eq_add, not_false_eq_true, Nat.reduceEqDiff, Nat.reduceAdd, J_add, J_sub, J_mul, J_neg, J_and, J_or, J_xor, J_shl, J_shr, J_div, J_i2b, J_i2l, J_l2i, J_lcm, J_max, J_min, J_nab, J_nao, rdA, rdF, rdL, wA_fold, wF_fold, wL_fold, wC_fold]
  refine ⟨(ls0 C_h), ?_⟩
  obtain ⟨k3, w⟩ := w
  refine ⟨fun c1 => ?_, fun c1 => ?_⟩
  · have t2 : fI h 0 13 ≤ x4 := ((Jle (rg_toInt _) k3).mp c1)
    replace w := w.1 t2
    obtain ⟨k6, w⟩ := w
    refine ⟨fun c4 => ?_, fun c4 => ?_⟩
    · have t5 : ¬ x1 = 0 := (fun e => c4 ((Jeq k6 (by decide)).mpr e))
      replace w := w.1 t5
      exact w
    · have t5 : x1 = 0 := ((Jeq k6 (by decide)).mp (Classical.byContradiction c4))
      replace w := w.2 t5
      exact w
  · have t2 : ¬ fI h 0 13 ≤ x4 := (fun e => c1 ((Jle (rg_toInt _) k3).mpr e))
    replace w := w.2 t2
    refine ⟨(ls0 C_h), ?_⟩
    refine Ex.mono w (Nat.le_refl _) ?_
    rintro v7 h8 ⟨r9, gr9, rfl, s15, w⟩
    refine ⟨_, rfl, ?_⟩
    have C_h8 := Lay_SH s15 C_h
    have K_h8_0 := PlanAt_SH s15 K_h_0
    have P_h8 := (congrFun (congrFun s15.2 52) 0).trans P_h
    try simp only [aI_wAL, fI_wAL, aL_wA, aL_wF, aI_wA_ne, aI_wF_ne, fI_wA_ne, fI_wF_ne, fI_wF_nk, aL_wAL_ne, J_sameA, J_sameF, aL_same, Nat.add_left_cancel_iff, Nat.add_eq_left, Nat.left_eq_add, not_false_eq_true, Nat.reduceEqDiff, Nat.reduceAdd, J_add, J_sub, J_mul, J_neg, J_and, J_or, J_xor, J_shl, J_shr, J_div, J_i2b, J_i2l, J_l2i, J_lcm, J_max, J_min, J_nab, J_nao, rdA, rdF, rdL, wA_fold, wF_fold, wL_fold, wC_fold]
    refine ⟨fun c10 => ?_, fun c10 => ?_⟩
    · have t11 : r9 = 0 := ((Jeq gr9 (by decide)).mp c10)
      replace w := w.1 t11
      exact w
    · have t11 : ¬ r9 = 0 := (fun e => c10 ((Jeq gr9 (by decide)).mpr e))
      replace w := w.2 t11
      obtain ⟨k14, w⟩ := w
      refine ⟨fun c12 => ?_, fun c12 => ?_⟩
      · have t13 : ¬ x2 = 0 := (fun e => c12 ((Jeq k14 (by decide)).mpr e))
        replace w := w.1 t13
        exact w
      · have t13 : x2 = 0 := ((Jeq k14 (by decide)).mp (Classical.byContradiction c12))
        replace w := w.2 t13
        exact w
noncomputable def cm2 (t u : Int × Int) : Int × Int := if t.1 = 0 then u else (t.1 + u.1, t.2)
theorem CS.fr {T : Nat → Nat → Prop} {h h' : AH} {pl : Nat} {S : Int → Int} (R : CS h pl S) (F : Fr T h h') (t : ∀ c k, T c k → ((c < 4 ∨ 14 < c) ∧ (c < 52 ∨ 72 < c)) ∧ c < 281) : CS h' pl S := by
  refine ⟨R.1, R.2.1.fr F (fun c k z => by have := t c k z; have := R.1; omega), R.2.2.1.fr F (fun c k z => by have := t c k z; omega), ?_, ?_⟩
  · rw [F.f 52 4 (fun z => by have := t _ _ z; omega)]; exact R.2.2.2.1
  · rw [F.a 70 (fun k z => by have := t _ _ z; omega), F.a 71 (fun k z => by have := t _ _ z; omega), F.a 72 (fun k z => by have := t _ _ z; omega)]; exact R.2.2.2.2
theorem TAh_b {c k : Nat} (z : TAh c k) : ((c < 4 ∨ 14 < c) ∧ (c < 52 ∨ 72 < c)) ∧ c < 281 := by unfold TAh at z; omega
theorem CU.frA {h h' : AH} {n : Int} {Rs : Int → Ru} (x : CU h n Rs) (F : Fr TAh h h') : CU h' n Rs := x.fr F (fun z => by unfold TAh at z; omega) (fun c k z c0 c1 => by unfold TAh at z; omega)
theorem m152 {X : Cst} {d : Nat} {pl : Nat} {N w n : Int} {Rs : Int → Ru} {S : Int → Int} {h : AH} {Q : Post} (C : Lay h) (P : hR h 52 0 = some pl) (K : PlanAt h pl) (hd : 7 ≤ d) (R : CS h pl S) (W : WF N S) (hN : N ≤ 999) (U : CU h n Rs) (g1 : -2147483648 ≤ w ∧ w < 2147483648)
    (k : ∀ h', Fr TAh h h' → Q (some (.int (J (anRuled Rs S n w)))) h') : Ex X PG d 152 0 [some (.ref 0), some (.int (J w)), none, none, none] [] h Q := by
  obtain ⟨d, rfl⟩ : ∃ e, d = e + 1 := ⟨d - 1, by omega⟩
  have un := U.2.1
  unfold anRuled at k
  refine r152_0 (S := S) C K P (by omega) ⟨R, fun c => ?_, fun c => ⟨g1, fun c2 => ?_, fun c2 => ⟨fun c3 => ?_, fun c3 => ?_⟩⟩⟩
  · rw [if_neg (fun z => c z.1)] at k; exact k h Fr.rf
  · rw [if_neg (fun z => absurd z.2.1 (by omega))] at k; exact k h Fr.rf
  · rw [if_pos ⟨c, by omega, c3⟩] at k
    have lp : ∀ (j : Nat) (i : Int) (t : Int × Int) (h' : AH), n - i = j → -1 ≤ i → 0 ≤ t.1 ∧ t.1 ≤ i + 1 → (t.1 = 0 → t = (0, -2)) → Fr TAh h h' → cm2 t (rf (fun g => fit g Rs S) n j) = rf (fun g => fit g Rs S) n (n + 1).toNat → Ex X PG (d + 1) 152 27 [some (.ref 0), some (.int (J w)), some (.int (J t.1)), some (.int (J t.2)), some (.int (J i))] [] h' Q := by
      intro j
      induction j with
      | zero =>
        intro i t h' e1 i0 tb tz F e2
        refine r152_27 (F.C C) (PlanAt_SH F.1 K) (hR_fr F P) ?_
        have q := k h' F
        rw [← e2] at q
        have ct : cm2 t (rf (fun g => fit g Rs S) n 0) = t := by
          show cm2 t (0, -2) = t
          unfold cm2
          by_cases c4 : t.1 = 0
          · rw [if_pos c4]; exact (tz c4).symm
          · rw [if_neg c4]; show (t.1 + 0, t.2) = t; rw [Int.add_zero]
        rw [ct] at q
        rw [F.f 0 13 (fun z => by unfold TAh at z; omega), U.1]
        refine ⟨by omega, fun _ => ⟨g1, fun c4 => ?_, fun c4 => ?_⟩, fun y => absurd (by omega) y⟩
        · rw [if_neg c4] at q; exact q
        · rw [if_pos c4] at q; exact q
      | succ j ih =>
        intro i t h' e1 i0 tb tz F e2
        refine r152_27 (F.C C) (PlanAt_SH F.1 K) (hR_fr F P) ?_
        rw [F.f 0 13 (fun z => by unfold TAh at z; omega), U.1]
        refine ⟨by omega, fun y => absurd y (by omega), fun _ => ?_⟩
        have un' : rf (fun g => fit g Rs S) n (j + 1) = pI (fit (n - 1 - j) Rs S) ((rf (fun g => fit g Rs S) n j).1 + 1, n - 1 - (j : Int)) (rf (fun g => fit g Rs S) n j) := rfl
        rw [show n - 1 - (j : Int) = i by omega] at un'
        rw [un'] at e2
        refine m153 (n := n) (Rs := Rs) (S := S) (F.C C) (hR_fr F P) (PlanAt_SH F.1 K) (by omega) (R.fr F (fun c k z => TAh_b z)) W hN (U.frA F) (by omega) (fun h8 F8 => ?_)
        refine ⟨_, bI_rg _, rfl, F8.1, fun c4 => ?_, fun c4 => ⟨by omega, fun c5 => ?_, fun c5 => ?_⟩⟩
        · have hp : ¬ fit i Rs S := fun y => by rw [bI_pos y] at c4; omega
          rw [pI_neg hp] at e2
          exact ih (i + 1) t h8 (by omega) (by omega) (by omega) tz (F.tr F8) e2
        · have hp : fit i Rs S := by
            apply Classical.byContradiction
            intro y
            rw [bI_neg y] at c4; omega
          rw [pI_pos hp] at e2
          refine ih (i + 1) (t.1 + 1, t.2) h8 (by omega) (by omega) (by show 0 ≤ t.1 + 1 ∧ t.1 + 1 ≤ _; omega) (fun z => absurd (show t.1 + 1 = 0 from z) (by omega)) (F.tr F8) ?_
          rw [← e2]
          unfold cm2
          rw [if_neg c5, if_neg (show ¬ t.1 + 1 = 0 by omega)]
          show (t.1 + 1 + (rf (fun g => fit g Rs S) n j).1, t.2) = (t.1 + ((rf (fun g => fit g Rs S) n j).1 + 1), t.2)
          rw [show t.1 + 1 + (rf (fun g => fit g Rs S) n j).1 = t.1 + ((rf (fun g => fit g Rs S) n j).1 + 1) by omega]
        · have hp : fit i Rs S := by
            apply Classical.byContradiction
            intro y
            rw [bI_neg y] at c4; omega
          rw [pI_pos hp] at e2
          refine ih (i + 1) (t.1 + 1, i) h8 (by omega) (by omega) (by show 0 ≤ t.1 + 1 ∧ t.1 + 1 ≤ _; omega) (fun z => absurd (show t.1 + 1 = 0 from z) (by omega)) (F.tr F8) ?_
          rw [← e2]
          unfold cm2
          rw [if_pos c5, if_neg (show ¬ t.1 + 1 = 0 by omega)]
          show (t.1 + 1 + (rf (fun g => fit g Rs S) n j).1, i) = ((rf (fun g => fit g Rs S) n j).1 + 1, i)
          rw [show t.1 + 1 + (rf (fun g => fit g Rs S) n j).1 = (rf (fun g => fit g Rs S) n j).1 + 1 by omega]
    exact lp (n + 1).toNat (-1) (0, -2) h (by omega) (by omega) (by decide) (fun _ => rfl) Fr.rf (by unfold cm2; exact if_pos rfl)
  · rw [if_neg (fun z => c3 z.2.2)] at k; exact k h Fr.rf
