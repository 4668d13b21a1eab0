/-! THE CLASS: the scene; small public questions. -/
def CS (h : AH) (pl : Nat) (S : Int → Int) : Prop := (pl = 4 ∨ pl = 53 ∨ 281 ≤ pl) ∧ PlanRep h pl S ∧ WorldRep h 64 S ∧ fI h 52 4 = S 114 ∧ ∀ k, 0 ≤ k → k < S 114 → aI h 70 k = S (84 + 3 * k) ∧ aI h 71 k = S (84 + 3 * k + 1) ∧ aI h 72 k = S (84 + 3 * k + 2)
-- OutwardDoors.isPerson(I)Z at 0
set_option maxRecDepth 20000 in
set_option maxHeartbeats 4000000 in
theorem r75_0 {X : Cst} {d : Nat} {x1 : Int} {pl : Nat} {h : AH} {Q : Post} (C_h : Lay h) (K_h_0 : PlanAt h pl) (P_h : hR h 52 0 = some pl)
  (w : (-2147483648 ≤ x1 ∧ x1 < 2147483648) ∧ ((x1 < 0 → Q (some (.int (J 0))) h) ∧ (¬ x1 < 0 → ((fI h pl 2 ≤ x1 → Q (some (.int (J 0))) h) ∧ (¬ fI h pl 2 ≤ x1 → Q (some (.int (J 1))) h))))) :
    Ex X PG (d + 1) 75 0 [some (.ref 0), some (.int (J x1))] [] h Q := by
  refine wpx_ok (cut := []) 11 d 75 0 _ _ _ _ ?_
  show (((J x1) < (J 0) → (J 0 = J 0 ∨ J 0 = J 1) ∧ Q (some (.int (J 0))) h) ∧ (¬ ((J x1) < (J 0)) → hs h 0 = (0, 10) ∧ ∃ q4, hR h 0 5 = some q4 ∧ hs h q4 = (0, 6) ∧ ∃ q5, hR h q4 0 = some q5 ∧ hs h q5 = (0, 2) ∧ (((hF h q5 2) ≤ (J x1) → (J 0 = J 0 ∨ J 0 = J 1) ∧ Q (some (.int (J 0))) h) ∧ (¬ ((hF h q5 2) ≤ (J x1)) → (J 1 = J 0 ∨ J 1 = J 1) ∧ Q (some (.int (J 1))) h))))
  try simp only [aI_wAL, fI_wAL, aL_wA, aL_wF, aI_wA_ne, aI_wF_ne, fI_wA_ne, fI_wF_ne, fI_wF_nk, aL_wAL_ne, J_sameA, J_sameF, aL_same, Nat.add_left_cancel_iff, Nat.add_eq_left, Nat.left_eq_add, not_false_eq_true, Nat.reduceEqDiff, Nat.reduceAdd, J_add, J_sub, J_mul, J_neg, J_and, J_or, J_xor, J_shl, J_shr, J_div, J_i2b, J_i2l, J_l2i, J_lcm, J_max, J_min, J_nab, J_nao, rdA, rdF, rdL, wA_fold, wF_fold, wL_fold, wC_fold]
  obtain ⟨k3, w⟩ := w
  refine ⟨fun c1 => ?_, fun c1 => ?_⟩
  · have t2 : x1 < 0 := ((Jlt k3 (by decide)).mp c1)
    replace w := w.1 t2
    exact ⟨(Or.inl (by trivial)), w⟩
  · have t2 : ¬ x1 < 0 := (fun e => c1 ((Jlt k3 (by decide)).mpr e))
    replace w := w.2 t2
    refine ⟨(ls0 C_h), _, (lr0_5 C_h), ?_⟩
    refine ⟨(ls52 C_h), _, P_h, ?_⟩
    refine ⟨(plan_0 K_h_0), ?_⟩
    refine ⟨fun c6 => ?_, fun c6 => ?_⟩
    · have t7 : fI h pl 2 ≤ x1 := ((Jle (rg_toInt _) k3).mp c6)
      replace w := w.1 t7
      exact ⟨(Or.inl (by trivial)), w⟩
    · have t7 : ¬ fI h pl 2 ≤ x1 := (fun e => c6 ((Jle (rg_toInt _) k3).mpr e))
      replace w := w.2 t7
      exact ⟨(Or.inr (by trivial)), w⟩
theorem m75 {X : Cst} {d : Nat} {pl : Nat} {x : Int} {S : Int → Int} {h : AH} {Q : Post} (C : Lay h) (P : hR h 52 0 = some pl) (K : PlanAt h pl) (hd : 1 ≤ d) (R : CS h pl S) (g : -2147483648 ≤ x ∧ x < 2147483648) (k : Q (some (.int (J (bI (0 ≤ x ∧ x < S 2))))) h) : Ex X PG d 75 0 [some (.ref 0), some (.int (J x))] [] h Q := by
  obtain ⟨d, rfl⟩ : ∃ e, d = e + 1 := ⟨d - 1, by omega⟩
  refine r75_0 C K P ?_
  rw [R.2.1.1.2.2.1]
  refine ⟨g, fun c => ?_, fun c => ⟨fun c2 => ?_, fun c2 => ?_⟩⟩
  · rw [bI_neg (by omega)] at k; exact k
  · rw [bI_neg (by omega)] at k; exact k
  · rw [bI_pos (by omega)] at k; exact k
-- OutwardDoors.isRoom(I)Z at 0
set_option maxRecDepth 20000 in
set_option maxHeartbeats 4000000 in
theorem r80_0 {X : Cst} {d : Nat} {x1 : Int} {pl : Nat} {h : AH} {Q : Post} (C_h : Lay h) (K_h_0 : PlanAt h pl) (P_h : hR h 52 0 = some pl)
  (w : (-2147483648 ≤ x1 ∧ x1 < 2147483648) ∧ ((x1 < 0 → Q (some (.int (J 0))) h) ∧ (¬ x1 < 0 → ((fI h pl 0 ≤ x1 → Q (some (.int (J 0))) h) ∧ (¬ fI h pl 0 ≤ x1 → Q (some (.int (J 1))) h))))) :
    Ex X PG (d + 1) 80 0 [some (.ref 0), some (.int (J x1))] [] h Q := by
  refine wpx_ok (cut := []) 11 d 80 0 _ _ _ _ ?_
  show (((J x1) < (J 0) → (J 0 = J 0 ∨ J 0 = J 1) ∧ Q (some (.int (J 0))) h) ∧ (¬ ((J x1) < (J 0)) → hs h 0 = (0, 10) ∧ ∃ q4, hR h 0 5 = some q4 ∧ hs h q4 = (0, 6) ∧ ∃ q5, hR h q4 0 = some q5 ∧ hs h q5 = (0, 2) ∧ (((hF h q5 0) ≤ (J x1) → (J 0 = J 0 ∨ J 0 = J 1) ∧ Q (some (.int (J 0))) h) ∧ (¬ ((hF h q5 0) ≤ (J x1)) → (J 1 = J 0 ∨ J 1 = J 1) ∧ Q (some (.int (J 1))) h))))
  try simp only [aI_wAL, fI_wAL, aL_wA, aL_wF, aI_wA_ne, aI_wF_ne, fI_wA_ne, fI_wF_ne, fI_wF_nk, aL_wAL_ne, J_sameA, J_sameF, aL_same, Nat.add_left_cancel_iff, Nat.add_eq_left, Nat.left_eq_add, not_false_eq_true, Nat.reduceEqDiff, Nat.reduceAdd, J_add, J_sub, J_mul, J_neg, J_and, J_or, J_xor, J_shl, J_shr, J_div, J_i2b, J_i2l, J_l2i, J_lcm, J_max, J_min, J_nab, J_nao, rdA, rdF, rdL, wA_fold, wF_fold, wL_fold, wC_fold]
  obtain ⟨k3, w⟩ := w
  refine ⟨fun c1 => ?_, fun c1 => ?_⟩
  · have t2 : x1 < 0 := ((Jlt k3 (by decide)).mp c1)
    replace w := w.1 t2
    exact ⟨(Or.inl (by trivial)), w⟩
  · have t2 : ¬ x1 < 0 := (fun e => c1 ((Jlt k3 (by decide)).mpr e))
    replace w := w.2 t2
    refine ⟨(ls0 C_h), _, (lr0_5 C_h), ?_⟩
    refine ⟨(ls52 C_h), _, P_h, ?_⟩
    refine ⟨(plan_0 K_h_0), ?_⟩
    refine ⟨fun c6 => ?_, fun c6 => ?_⟩
    · have t7 : fI h pl 0 ≤ x1 := ((Jle (rg_toInt _) k3).mp c6)
      replace w := w.1 t7
      exact ⟨(Or.inl (by trivial)), w⟩
    · have t7 : ¬ fI h pl 0 ≤ x1 := (fun e => c6 ((Jle (rg_toInt _) k3).mpr e))
      replace w := w.2 t7
      exact ⟨(Or.inr (by trivial)), w⟩
theorem m80 {X : Cst} {d : Nat} {pl : Nat} {x : Int} {S : Int → Int} {h : AH} {Q : Post} (C : Lay h) (P : hR h 52 0 = some pl) (K : PlanAt h pl) (hd : 1 ≤ d) (R : CS h pl S) (g : -2147483648 ≤ x ∧ x < 2147483648) (k : Q (some (.int (J (bI (0 ≤ x ∧ x < S 0))))) h) : Ex X PG d 80 0 [some (.ref 0), some (.int (J x))] [] h Q := by
  obtain ⟨d, rfl⟩ : ∃ e, d = e + 1 := ⟨d - 1, by omega⟩
  refine r80_0 C K P ?_
  rw [R.2.1.1.1]
  refine ⟨g, fun c => ?_, fun c => ⟨fun c2 => ?_, fun c2 => ?_⟩⟩
  · rw [bI_neg (by omega)] at k; exact k
  · rw [bI_neg (by omega)] at k; exact k
  · rw [bI_pos (by omega)] at k; exact k
-- OutwardDoors.isDoor(I)Z at 0
set_option maxRecDepth 20000 in
set_option maxHeartbeats 4000000 in
theorem r84_0 {X : Cst} {d : Nat} {x1 : Int} {pl : Nat} {h : AH} {Q : Post} (C_h : Lay h) (K_h_0 : PlanAt h pl) (P_h : hR h 52 0 = some pl)
  (w : (-2147483648 ≤ x1 ∧ x1 < 2147483648) ∧ ((x1 < 0 → Q (some (.int (J 0))) h) ∧ (¬ x1 < 0 → ((fI h pl 1 ≤ x1 → Q (some (.int (J 0))) h) ∧ (¬ fI h pl 1 ≤ x1 → Q (some (.int (J 1))) h))))) :
    Ex X PG (d + 1) 84 0 [some (.ref 0), some (.int (J x1))] [] h Q := by
  refine wpx_ok (cut := []) 11 d 84 0 _ _ _ _ ?_
  show (((J x1) < (J 0) → (J 0 = J 0 ∨ J 0 = J 1) ∧ Q (some (.int (J 0))) h) ∧ (¬ ((J x1) < (J 0)) → hs h 0 = (0, 10) ∧ ∃ q4, hR h 0 5 = some q4 ∧ hs h q4 = (0, 6) ∧ ∃ q5, hR h q4 0 = some q5 ∧ hs h q5 = (0, 2) ∧ (((hF h q5 1) ≤ (J x1) → (J 0 = J 0 ∨ J 0 = J 1) ∧ Q (some (.int (J 0))) h) ∧ (¬ ((hF h q5 1) ≤ (J x1)) → (J 1 = J 0 ∨ J 1 = J 1) ∧ Q (some (.int (J 1))) h))))
  try simp only [aI_wAL, fI_wAL, aL_wA, aL_wF, aI_wA_ne, aI_wF_ne, fI_wA_ne, fI_wF_ne, fI_wF_nk, aL_wAL_ne, J_sameA, J_sameF, aL_same, Nat.add_left_cancel_iff, Nat.add_eq_left, Nat.left_eq_add, not_false_eq_true, Nat.reduceEqDiff, Nat.reduceAdd, J_add, J_sub, J_mul, J_neg, J_and, J_or, J_xor, J_shl, J_shr, J_div, J_i2b, J_i2l, J_l2i, J_lcm, J_max, J_min, J_nab, J_nao, rdA, rdF, rdL, wA_fold, wF_fold, wL_fold, wC_fold]
  obtain ⟨k3, w⟩ := w
  refine ⟨fun c1 => ?_, fun c1 => ?_⟩
  · have t2 : x1 < 0 := ((Jlt k3 (by decide)).mp c1)
    replace w := w.1 t2
    exact ⟨(Or.inl (by trivial)), w⟩
  · have t2 : ¬ x1 < 0 := (fun e => c1 ((Jlt k3 (by decide)).mpr e))
    replace w := w.2 t2
    refine ⟨(ls0 C_h), _, (lr0_5 C_h), ?_⟩
    refine ⟨(ls52 C_h), _, P_h, ?_⟩
    refine ⟨(plan_0 K_h_0), ?_⟩
    refine ⟨fun c6 => ?_, fun c6 => ?_⟩
    · have t7 : fI h pl 1 ≤ x1 := ((Jle (rg_toInt _) k3).mp c6)
      replace w := w.1 t7
      exact ⟨(Or.inl (by trivial)), w⟩
    · have t7 : ¬ fI h pl 1 ≤ x1 := (fun e => c6 ((Jle (rg_toInt _) k3).mpr e))
      replace w := w.2 t7
      exact ⟨(Or.inr (by trivial)), w⟩
theorem m84 {X : Cst} {d : Nat} {pl : Nat} {x : Int} {S : Int → Int} {h : AH} {Q : Post} (C : Lay h) (P : hR h 52 0 = some pl) (K : PlanAt h pl) (hd : 1 ≤ d) (R : CS h pl S) (g : -2147483648 ≤ x ∧ x < 2147483648) (k : Q (some (.int (J (bI (0 ≤ x ∧ x < S 1))))) h) : Ex X PG d 84 0 [some (.ref 0), some (.int (J x))] [] h Q := by
  obtain ⟨d, rfl⟩ : ∃ e, d = e + 1 := ⟨d - 1, by omega⟩
  refine r84_0 C K P ?_
  rw [R.2.1.1.2.1]
  refine ⟨g, fun c => ?_, fun c => ⟨fun c2 => ?_, fun c2 => ?_⟩⟩
  · rw [bI_neg (by omega)] at k; exact k
  · rw [bI_neg (by omega)] at k; exact k
  · rw [bI_pos (by omega)] at k; exact k
-- OutwardDoors.hasCastle()Z at 0
set_option maxRecDepth 20000 in
set_option maxHeartbeats 4000000 in
theorem r86_0 {X : Cst} {d : Nat} {pl : Nat} {h : AH} {Q : Post} (C_h : Lay h) (K_h_0 : PlanAt h pl) (P_h : hR h 52 0 = some pl)
  (w : ((fI h pl 0 ≤ 0 → Q (some (.int (J 0))) h) ∧ (¬ fI h pl 0 ≤ 0 → Q (some (.int (J 1))) h))) :
    Ex X PG (d + 1) 86 0 [some (.ref 0)] [] h Q := by
  refine wpx_ok (cut := []) 8 d 86 0 _ _ _ _ ?_
  show hs h 0 = (0, 10) ∧ ∃ q1, hR h 0 5 = some q1 ∧ hs h q1 = (0, 6) ∧ ∃ q2, hR h q1 0 = some q2 ∧ hs h q2 = (0, 2) ∧ (((hF h q2 0) ≤ (J 0) → (J 0 = J 0 ∨ J 0 = J 1) ∧ Q (some (.int (J 0))) h) ∧ (¬ ((hF h q2 0) ≤ (J 0)) → (J 1 = J 0 ∨ J 1 = J 1) ∧ Q (some (.int (J 1))) h))
  try simp only [aI_wAL, fI_wAL, aL_wA, aL_wF, aI_wA_ne, aI_wF_ne, fI_wA_ne, fI_wF_ne, fI_wF_nk, aL_wAL_ne, J_sameA, J_sameF, aL_same, Nat.add_left_cancel_iff, Nat.add_eq_left, Nat.left_eq_add, not_false_eq_true, Nat.reduceEqDiff, Nat.reduceAdd, J_add, J_sub, J_mul, J_neg, J_and, J_or, J_xor, J_shl, J_shr, J_div, J_i2b, J_i2l, J_l2i, J_lcm, J_max, J_min, J_nab, J_nao, rdA, rdF, rdL, wA_fold, wF_fold, wL_fold, wC_fold]
  refine ⟨(ls0 C_h), _, (lr0_5 C_h), ?_⟩
  refine ⟨(ls52 C_h), _, P_h, ?_⟩
  refine ⟨(plan_0 K_h_0), ?_⟩
  refine ⟨fun c3 => ?_, fun c3 => ?_⟩
  · have t4 : fI h pl 0 ≤ 0 := ((Jle (rg_toInt _) (by decide)).mp c3)
    replace w := w.1 t4
    exact ⟨(Or.inl (by trivial)), w⟩
  · have t4 : ¬ fI h pl 0 ≤ 0 := (fun e => c3 ((Jle (rg_toInt _) (by decide)).mpr e))
    replace w := w.2 t4
    exact ⟨(Or.inr (by trivial)), w⟩
theorem m86 {X : Cst} {d : Nat} {pl : Nat} {S : Int → Int} {h : AH} {Q : Post} (C : Lay h) (P : hR h 52 0 = some pl) (K : PlanAt h pl) (hd : 1 ≤ d) (R : CS h pl S) (k : Q (some (.int (J (bI (0 < S 0))))) h) : Ex X PG d 86 0 [some (.ref 0)] [] h Q := by
  obtain ⟨d, rfl⟩ : ∃ e, d = e + 1 := ⟨d - 1, by omega⟩
  refine r86_0 C K P ?_
  rw [R.2.1.1.1]
  refine ⟨fun c => ?_, fun c => ?_⟩
  · rw [bI_neg (by omega)] at k; exact k
  · rw [bI_pos (by omega)] at k; exact k
-- OutwardDoors.hour()I at 0
set_option maxRecDepth 20000 in
set_option maxHeartbeats 4000000 in
theorem r76_0 {X : Cst} {d : Nat} {pl : Nat} {S : Int → Int} {h : AH} {Q : Post} (C_h : Lay h) (K_h_0 : PlanAt h pl) (P_h : hR h 52 0 = some pl) (hd : 2 ≤ d)
  (w : (PlanRep h pl S) ∧ (0 ≤ (fI h 64 5) ∧ (fI h 64 5) < 2147483648) ∧ Q (some (.int (J (bI (nightM S (fI h 64 5)))))) h) :
    Ex X PG (d + 1) 76 0 [some (.ref 0)] [] h Q := by
  refine wpx_ok (cut := []) 9 d 76 0 _ _ _ _ ?_
  show hs h 0 = (0, 10) ∧ ∃ q1, hR h 0 5 = some q1 ∧ hs h q1 = (0, 6) ∧ ∃ q2, hR h q1 0 = some q2 ∧ hs h 0 = (0, 10) ∧ ∃ q3, hR h 0 5 = some q3 ∧ hs h q3 = (0, 6) ∧ ∃ q4, hR h q3 1 = some q4 ∧ hs h q4 = (0, 9) ∧ hs h q2 = (0, 2) ∧ Ex X PG d 77 0 [some (.ref q2), some (.int (hF h q4 5)), none] [] h (fun v5 h6 => ∃ r7, v5 = some (.int r7) ∧ Q (some (.int r7)) h6)
  try simp only [aI_wAL, fI_wAL, aL_wA, aL_wF, aI_wA_ne, aI_wF_ne, fI_wA_ne, fI_wF_ne, fI_wF_nk, aL_wAL_ne, J_sameA, J_sameF, aL_same, Nat.add_left_cancel_iff, Nat.add_eq_left, Nat.left_eq_add, not_false_eq_true, Nat.reduceEqDiff, Nat.reduceAdd, J_add, J_sub, J_mul, J_neg, J_and, J_or, J_xor, J_shl, J_shr, J_div, J_i2b, J_i2l, J_l2i, J_lcm, J_max, J_min, J_nab, J_nao, rdA, rdF, rdL, wA_fold, wF_fold, wL_fold, wC_fold]
  refine ⟨(ls0 C_h), _, (lr0_5 C_h), ?_⟩
  refine ⟨(ls52 C_h), _, P_h, ?_⟩
  refine ⟨(ls0 C_h), _, (lr0_5 C_h), ?_⟩
  refine ⟨(ls52 C_h), _, (lr52_1 C_h), ?_⟩
  refine ⟨(ls64 C_h), ?_⟩
  refine ⟨(plan_0 K_h_0), ?_⟩
  obtain ⟨k8, w⟩ := w
  obtain ⟨k9, w⟩ := w
  refine m77 (h := h) (a := pl) (m := (fI h 64 5)) (S := S) C_h K_h_0 (by omega) k8 k9 ?_
  refine ⟨_, rfl, ?_⟩
  try simp only [aI_wAL, fI_wAL, aL_wA, aL_wF, aI_wA_ne, aI_wF_ne, fI_wA_ne, fI_wF_ne, fI_wF_nk, aL_wAL_ne, J_sameA, J_sameF, aL_same, Nat.add_left_cancel_iff, Nat.add_eq_left, Nat.left_eq_add, not_false_eq_true, Nat.reduceEqDiff, Nat.reduceAdd, J_add, J_sub, J_mul, J_neg, J_and, J_or, J_xor, J_shl, J_shr, J_div, J_i2b, J_i2l, J_l2i, J_lcm, J_max, J_min, J_nab, J_nao, rdA, rdF, rdL, wA_fold, wF_fold, wL_fold, wC_fold]
  exact w
theorem m76 {X : Cst} {d : Nat} {pl : Nat} {S : Int → Int} {h : AH} {Q : Post} (C : Lay h) (P : hR h 52 0 = some pl) (K : PlanAt h pl) (hd : 3 ≤ d) (R : CS h pl S) (W : WF 999 S) (k : Q (some (.int (J (bI (nightP S))))) h) : Ex X PG d 76 0 [some (.ref 0)] [] h Q := by
  obtain ⟨d, rfl⟩ : ∃ e, d = e + 1 := ⟨d - 1, by omega⟩
  have b := W.1
  unfold WFb at b
  refine r76_0 C K P (S := S) (by omega) ?_
  rw [R.2.2.1.2.2, nightM_P]
  exact ⟨R.2.1, by omega, k⟩
