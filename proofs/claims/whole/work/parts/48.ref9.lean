/-! THE REFERENCE: small public questions. -/
def TR (c k : Nat) : Prop := (264 ≤ c ∧ c ≤ 265) ∨ (267 ≤ c ∧ c ≤ 269) ∨ (271 ≤ c ∧ c ≤ 276) ∨ (c = 256 ∧ (k = 18 ∨ (31 ≤ k ∧ k ≤ 35) ∨ k = 39))
-- OutwardDoorsModel.isPerson(I)Z at 0
set_option maxRecDepth 20000 in
set_option maxHeartbeats 4000000 in
theorem r213_0 {X : Cst} {d : Nat} {x1 : Int} {h : AH} {Q : Post} (C_h : Lay h)
  (w : (-2147483648 ≤ x1 ∧ x1 < 2147483648) ∧ ((x1 < 0 → Q (some (.int (J 0))) h) ∧ (¬ x1 < 0 → ((aI h 266 2 ≤ x1 → Q (some (.int (J 0))) h) ∧ (¬ aI h 266 2 ≤ x1 → Q (some (.int (J 1))) h))))) :
    Ex X PG (d + 1) 213 0 [some (.ref 256), some (.int (J x1))] [] h Q := by
  refine wpx_ok (cut := []) 11 d 213 0 _ _ _ _ ?_
  show (((J x1) < (J 0) → (J 0 = J 0 ∨ J 0 = J 1) ∧ Q (some (.int (J 0))) h) ∧ (¬ ((J x1) < (J 0)) → hs h 256 = (0, 11) ∧ ∃ q4, hR h 256 20 = some q4 ∧ (hs h q4).1 = 1 ∧ ix (J 2) (hs h q4).2 ∧ (((hI h q4 (Int32.toNatClampNeg (J 2))) ≤ (J x1) → (J 0 = J 0 ∨ J 0 = J 1) ∧ Q (some (.int (J 0))) h) ∧ (¬ ((hI h q4 (Int32.toNatClampNeg (J 2))) ≤ (J x1)) → (J 1 = J 0 ∨ J 1 = J 1) ∧ Q (some (.int (J 1))) h))))
  try simp only [aI_wAL, fI_wAL, aL_wA, aL_wF, aI_wA_ne, aI_wF_ne, fI_wA_ne, fI_wF_ne, fI_wF_nk, aL_wAL_ne, J_sameA, J_sameF, aL_same, Nat.add_left_cancel_iff, Nat.add_eq_left, Nat.left_eq_add, not_false_eq_true, Nat.reduceEqDiff, Nat.reduceAdd, J_add, J_sub, J_mul, J_neg, J_and, J_or, J_xor, J_shl, J_shr, J_div, J_i2b, J_i2l, J_l2i, J_lcm, J_max, J_min, J_nab, J_nao, rdA, rdF, rdL, wA_fold, wF_fold, wL_fold, wC_fold]
  obtain ⟨k3, w⟩ := w
  refine ⟨fun c1 => ?_, fun c1 => ?_⟩
  · have t2 : x1 < 0 := ((Jlt k3 (by decide)).mp c1)
    replace w := w.1 t2
    exact ⟨(Or.inl (by trivial)), w⟩
  · have t2 : ¬ x1 < 0 := (fun e => c1 ((Jlt k3 (by decide)).mpr e))
    replace w := w.2 t2
    refine ⟨(ls256 C_h), _, (lr256_20 C_h), ?_⟩
    refine ⟨congrArg Prod.fst (ls266 C_h), ixs (ls266 C_h) (by decide) (by decide), ?_⟩
    refine ⟨fun c5 => ?_, fun c5 => ?_⟩
    · have t6 : aI h 266 2 ≤ x1 := ((Jle (rg_toInt _) k3).mp c5)
      replace w := w.1 t6
      exact ⟨(Or.inl (by trivial)), w⟩
    · have t6 : ¬ aI h 266 2 ≤ x1 := (fun e => c5 ((Jle (rg_toInt _) k3).mpr e))
      replace w := w.2 t6
      exact ⟨(Or.inr (by trivial)), w⟩
theorem m213 {X : Cst} {d : Nat} {x : Int} {h : AH} {Q : Post} (C : Lay h) (hd : 1 ≤ d) (g : -2147483648 ≤ x ∧ x < 2147483648) (k : Q (some (.int (J (bI (0 ≤ x ∧ x < aI h 266 2))))) h) : Ex X PG d 213 0 [some (.ref 256), some (.int (J x))] [] h Q := by
  obtain ⟨d, rfl⟩ : ∃ e, d = e + 1 := ⟨d - 1, by omega⟩
  refine r213_0 C ⟨g, fun c => ?_, fun c => ⟨fun c2 => ?_, fun c2 => ?_⟩⟩
  · rw [bI_neg (by omega)] at k; exact k
  · rw [bI_neg (by omega)] at k; exact k
  · rw [bI_pos (by omega)] at k; exact k
-- OutwardDoorsModel.isRoom(I)Z at 0
set_option maxRecDepth 20000 in
set_option maxHeartbeats 4000000 in
theorem r223_0 {X : Cst} {d : Nat} {x1 : Int} {h : AH} {Q : Post} (C_h : Lay h)
  (w : (-2147483648 ≤ x1 ∧ x1 < 2147483648) ∧ ((x1 < 0 → Q (some (.int (J 0))) h) ∧ (¬ x1 < 0 → ((aI h 266 0 ≤ x1 → Q (some (.int (J 0))) h) ∧ (¬ aI h 266 0 ≤ x1 → Q (some (.int (J 1))) h))))) :
    Ex X PG (d + 1) 223 0 [some (.ref 256), some (.int (J x1))] [] h Q := by
  refine wpx_ok (cut := []) 11 d 223 0 _ _ _ _ ?_
  show (((J x1) < (J 0) → (J 0 = J 0 ∨ J 0 = J 1) ∧ Q (some (.int (J 0))) h) ∧ (¬ ((J x1) < (J 0)) → hs h 256 = (0, 11) ∧ ∃ q4, hR h 256 20 = some q4 ∧ (hs h q4).1 = 1 ∧ ix (J 0) (hs h q4).2 ∧ (((hI h q4 (Int32.toNatClampNeg (J 0))) ≤ (J x1) → (J 0 = J 0 ∨ J 0 = J 1) ∧ Q (some (.int (J 0))) h) ∧ (¬ ((hI h q4 (Int32.toNatClampNeg (J 0))) ≤ (J x1)) → (J 1 = J 0 ∨ J 1 = J 1) ∧ Q (some (.int (J 1))) h))))
  try simp only [aI_wAL, fI_wAL, aL_wA, aL_wF, aI_wA_ne, aI_wF_ne, fI_wA_ne, fI_wF_ne, fI_wF_nk, aL_wAL_ne, J_sameA, J_sameF, aL_same, Nat.add_left_cancel_iff, Nat.add_eq_left, Nat.left_eq_add, not_false_eq_true, Nat.reduceEqDiff, Nat.reduceAdd, J_add, J_sub, J_mul, J_neg, J_and, J_or, J_xor, J_shl, J_shr, J_div, J_i2b, J_i2l, J_l2i, J_lcm, J_max, J_min, J_nab, J_nao, rdA, rdF, rdL, wA_fold, wF_fold, wL_fold, wC_fold]
  obtain ⟨k3, w⟩ := w
  refine ⟨fun c1 => ?_, fun c1 => ?_⟩
  · have t2 : x1 < 0 := ((Jlt k3 (by decide)).mp c1)
    replace w := w.1 t2
    exact ⟨(Or.inl (by trivial)), w⟩
  · have t2 : ¬ x1 < 0 := (fun e => c1 ((Jlt k3 (by decide)).mpr e))
    replace w := w.2 t2
    refine ⟨(ls256 C_h), _, (lr256_20 C_h), ?_⟩
    refine ⟨congrArg Prod.fst (ls266 C_h), ixs (ls266 C_h) (by decide) (by decide), ?_⟩
    refine ⟨fun c5 => ?_, fun c5 => ?_⟩
    · have t6 : aI h 266 0 ≤ x1 := ((Jle (rg_toInt _) k3).mp c5)
      replace w := w.1 t6
      exact ⟨(Or.inl (by trivial)), w⟩
    · have t6 : ¬ aI h 266 0 ≤ x1 := (fun e => c5 ((Jle (rg_toInt _) k3).mpr e))
      replace w := w.2 t6
      exact ⟨(Or.inr (by trivial)), w⟩
theorem m223 {X : Cst} {d : Nat} {x : Int} {h : AH} {Q : Post} (C : Lay h) (hd : 1 ≤ d) (g : -2147483648 ≤ x ∧ x < 2147483648) (k : Q (some (.int (J (bI (0 ≤ x ∧ x < aI h 266 0))))) h) : Ex X PG d 223 0 [some (.ref 256), some (.int (J x))] [] h Q := by
  obtain ⟨d, rfl⟩ : ∃ e, d = e + 1 := ⟨d - 1, by omega⟩
  refine r223_0 C ⟨g, fun c => ?_, fun c => ⟨fun c2 => ?_, fun c2 => ?_⟩⟩
  · rw [bI_neg (by omega)] at k; exact k
  · rw [bI_neg (by omega)] at k; exact k
  · rw [bI_pos (by omega)] at k; exact k
-- OutwardDoorsModel.isDoor(I)Z at 0
set_option maxRecDepth 20000 in
set_option maxHeartbeats 4000000 in
theorem r228_0 {X : Cst} {d : Nat} {x1 : Int} {h : AH} {Q : Post} (C_h : Lay h)
  (w : (-2147483648 ≤ x1 ∧ x1 < 2147483648) ∧ ((x1 < 0 → Q (some (.int (J 0))) h) ∧ (¬ x1 < 0 → ((aI h 266 1 ≤ x1 → Q (some (.int (J 0))) h) ∧ (¬ aI h 266 1 ≤ x1 → Q (some (.int (J 1))) h))))) :
    Ex X PG (d + 1) 228 0 [some (.ref 256), some (.int (J x1))] [] h Q := by
  refine wpx_ok (cut := []) 11 d 228 0 _ _ _ _ ?_
  show (((J x1) < (J 0) → (J 0 = J 0 ∨ J 0 = J 1) ∧ Q (some (.int (J 0))) h) ∧ (¬ ((J x1) < (J 0)) → hs h 256 = (0, 11) ∧ ∃ q4, hR h 256 20 = some q4 ∧ (hs h q4).1 = 1 ∧ ix (J 1) (hs h q4).2 ∧ (((hI h q4 (Int32.toNatClampNeg (J 1))) ≤ (J x1) → (J 0 = J 0 ∨ J 0 = J 1) ∧ Q (some (.int (J 0))) h) ∧ (¬ ((hI h q4 (Int32.toNatClampNeg (J 1))) ≤ (J x1)) → (J 1 = J 0 ∨ J 1 = J 1) ∧ Q (some (.int (J 1))) h))))
  try simp only [aI_wAL, fI_wAL, aL_wA, aL_wF, aI_wA_ne, aI_wF_ne, fI_wA_ne, fI_wF_ne, fI_wF_nk, aL_wAL_ne, J_sameA, J_sameF, aL_same, Nat.add_left_cancel_iff, Nat.add_eq_left, Nat.left_eq_add, not_false_eq_true, Nat.reduceEqDiff, Nat.reduceAdd, J_add, J_sub, J_mul, J_neg, J_and, J_or, J_xor, J_shl, J_shr, J_div, J_i2b, J_i2l, J_l2i, J_lcm, J_max, J_min, J_nab, J_nao, rdA, rdF, rdL, wA_fold, wF_fold, wL_fold, wC_fold]
  obtain ⟨k3, w⟩ := w
  refine ⟨fun c1 => ?_, fun c1 => ?_⟩
  · have t2 : x1 < 0 := ((Jlt k3 (by decide)).mp c1)
    replace w := w.1 t2
    exact ⟨(Or.inl (by trivial)), w⟩
  · have t2 : ¬ x1 < 0 := (fun e => c1 ((Jlt k3 (by decide)).mpr e))
    replace w := w.2 t2
    refine ⟨(ls256 C_h), _, (lr256_20 C_h), ?_⟩
    refine ⟨congrArg Prod.fst (ls266 C_h), ixs (ls266 C_h) (by decide) (by decide), ?_⟩
    refine ⟨fun c5 => ?_, fun c5 => ?_⟩
    · have t6 : aI h 266 1 ≤ x1 := ((Jle (rg_toInt _) k3).mp c5)
      replace w := w.1 t6
      exact ⟨(Or.inl (by trivial)), w⟩
    · have t6 : ¬ aI h 266 1 ≤ x1 := (fun e => c5 ((Jle (rg_toInt _) k3).mpr e))
      replace w := w.2 t6
      exact ⟨(Or.inr (by trivial)), w⟩
theorem m228 {X : Cst} {d : Nat} {x : Int} {h : AH} {Q : Post} (C : Lay h) (hd : 1 ≤ d) (g : -2147483648 ≤ x ∧ x < 2147483648) (k : Q (some (.int (J (bI (0 ≤ x ∧ x < aI h 266 1))))) h) : Ex X PG d 228 0 [some (.ref 256), some (.int (J x))] [] h Q := by
  obtain ⟨d, rfl⟩ : ∃ e, d = e + 1 := ⟨d - 1, by omega⟩
  refine r228_0 C ⟨g, fun c => ?_, fun c => ⟨fun c2 => ?_, fun c2 => ?_⟩⟩
  · rw [bI_neg (by omega)] at k; exact k
  · rw [bI_neg (by omega)] at k; exact k
  · rw [bI_pos (by omega)] at k; exact k
-- OutwardDoorsModel.isCastle()Z at 0
set_option maxRecDepth 20000 in
set_option maxHeartbeats 4000000 in
theorem r231_0 {X : Cst} {d : Nat}  {h : AH} {Q : Post} (C_h : Lay h)
  (w : ((aI h 266 0 ≤ 0 → Q (some (.int (J 0))) h) ∧ (¬ aI h 266 0 ≤ 0 → Q (some (.int (J 1))) h))) :
    Ex X PG (d + 1) 231 0 [some (.ref 256)] [] h Q := by
  refine wpx_ok (cut := []) 8 d 231 0 _ _ _ _ ?_
  show hs h 256 = (0, 11) ∧ ∃ q1, hR h 256 20 = some q1 ∧ (hs h q1).1 = 1 ∧ ix (J 0) (hs h q1).2 ∧ (((hI h q1 (Int32.toNatClampNeg (J 0))) ≤ (J 0) → (J 0 = J 0 ∨ J 0 = J 1) ∧ Q (some (.int (J 0))) h) ∧ (¬ ((hI h q1 (Int32.toNatClampNeg (J 0))) ≤ (J 0)) → (J 1 = J 0 ∨ J 1 = J 1) ∧ Q (some (.int (J 1))) h))
  try simp only [aI_wAL, fI_wAL, aL_wA, aL_wF, aI_wA_ne, aI_wF_ne, fI_wA_ne, fI_wF_ne, fI_wF_nk, aL_wAL_ne, J_sameA, J_sameF, aL_same, Nat.add_left_cancel_iff, Nat.add_eq_left, Nat.left_eq_add, not_false_eq_true, Nat.reduceEqDiff, Nat.reduceAdd, J_add, J_sub, J_mul, J_neg, J_and, J_or, J_xor, J_shl, J_shr, J_div, J_i2b, J_i2l, J_l2i, J_lcm, J_max, J_min, J_nab, J_nao, rdA, rdF, rdL, wA_fold, wF_fold, wL_fold, wC_fold]
  refine ⟨(ls256 C_h), _, (lr256_20 C_h), ?_⟩
  refine ⟨congrArg Prod.fst (ls266 C_h), ixs (ls266 C_h) (by decide) (by decide), ?_⟩
  refine ⟨fun c2 => ?_, fun c2 => ?_⟩
  · have t3 : aI h 266 0 ≤ 0 := ((Jle (rg_toInt _) (by decide)).mp c2)
    replace w := w.1 t3
    exact ⟨(Or.inl (by trivial)), w⟩
  · have t3 : ¬ aI h 266 0 ≤ 0 := (fun e => c2 ((Jle (rg_toInt _) (by decide)).mpr e))
    replace w := w.2 t3
    exact ⟨(Or.inr (by trivial)), w⟩
theorem m231 {X : Cst} {d : Nat} {h : AH} {Q : Post} (C : Lay h) (hd : 1 ≤ d) (k : Q (some (.int (J (bI (0 < aI h 266 0))))) h) : Ex X PG d 231 0 [some (.ref 256)] [] h Q := by
  obtain ⟨d, rfl⟩ : ∃ e, d = e + 1 := ⟨d - 1, by omega⟩
  refine r231_0 C ⟨fun c => ?_, fun c => ?_⟩
  · rw [bI_neg (by omega)] at k; exact k
  · rw [bI_pos (by omega)] at k; exact k
-- OutwardDoorsModel.isRule(I)Z at 0
set_option maxRecDepth 20000 in
set_option maxHeartbeats 4000000 in
theorem r211_0 {X : Cst} {d : Nat} {x1 : Int} {h : AH} {Q : Post} (C_h : Lay h)
  (w : (-2147483648 ≤ x1 ∧ x1 < 2147483648) ∧ ((x1 < 0 → Q (some (.int (J 0))) h) ∧ (¬ x1 < 0 → ((fI h 256 2 ≤ x1 → Q (some (.int (J 0))) h) ∧ (¬ fI h 256 2 ≤ x1 → Q (some (.int (J 1))) h))))) :
    Ex X PG (d + 1) 211 0 [some (.ref 256), some (.int (J x1))] [] h Q := by
  refine wpx_ok (cut := []) 9 d 211 0 _ _ _ _ ?_
  show (((J x1) < (J 0) → (J 0 = J 0 ∨ J 0 = J 1) ∧ Q (some (.int (J 0))) h) ∧ (¬ ((J x1) < (J 0)) → hs h 256 = (0, 11) ∧ (((hF h 256 2) ≤ (J x1) → (J 0 = J 0 ∨ J 0 = J 1) ∧ Q (some (.int (J 0))) h) ∧ (¬ ((hF h 256 2) ≤ (J x1)) → (J 1 = J 0 ∨ J 1 = J 1) ∧ Q (some (.int (J 1))) h))))
  try simp only [aI_wAL, fI_wAL, aL_wA, aL_wF, aI_wA_ne, aI_wF_ne, fI_wA_ne, fI_wF_ne, fI_wF_nk, aL_wAL_ne, J_sameA, J_sameF, aL_same, Nat.add_left_cancel_iff, Nat.add_eq_left, Nat.left_eq_add, not_false_eq_true, Nat.reduceEqDiff, Nat.reduceAdd, J_add, J_sub, J_mul, J_neg, J_and, J_or, J_xor, J_shl, J_shr, J_div, J_i2b, J_i2l, J_l2i, J_lcm, J_max, J_min, J_nab, J_nao, rdA, rdF, rdL, wA_fold, wF_fold, wL_fold, wC_fold]
  obtain ⟨k3, w⟩ := w
  refine ⟨fun c1 => ?_, fun c1 => ?_⟩
  · have t2 : x1 < 0 := ((Jlt k3 (by decide)).mp c1)
    replace w := w.1 t2
    exact ⟨(Or.inl (by trivial)), w⟩
  · have t2 : ¬ x1 < 0 := (fun e => c1 ((Jlt k3 (by decide)).mpr e))
    replace w := w.2 t2
    refine ⟨(ls256 C_h), ?_⟩
    refine ⟨fun c4 => ?_, fun c4 => ?_⟩
    · have t5 : fI h 256 2 ≤ x1 := ((Jle (rg_toInt _) k3).mp c4)
      replace w := w.1 t5
      exact ⟨(Or.inl (by trivial)), w⟩
    · have t5 : ¬ fI h 256 2 ≤ x1 := (fun e => c4 ((Jle (rg_toInt _) k3).mpr e))
      replace w := w.2 t5
      exact ⟨(Or.inr (by trivial)), w⟩
theorem m211 {X : Cst} {d : Nat} {x : Int} {h : AH} {Q : Post} (C : Lay h) (hd : 1 ≤ d) (g : -2147483648 ≤ x ∧ x < 2147483648) (k : Q (some (.int (J (bI (0 ≤ x ∧ x < fI h 256 2))))) h) : Ex X PG d 211 0 [some (.ref 256), some (.int (J x))] [] h Q := by
  obtain ⟨d, rfl⟩ : ∃ e, d = e + 1 := ⟨d - 1, by omega⟩
  refine r211_0 C ⟨g, fun c => ?_, fun c => ⟨fun c2 => ?_, fun c2 => ?_⟩⟩
  · rw [bI_neg (by omega)] at k; exact k
  · rw [bI_neg (by omega)] at k; exact k
  · rw [bI_pos (by omega)] at k; exact k
/-- answers -/
noncomputable def anPerson (S : Int → Int) (p w : Int) : Int :=
  if 0 ≤ p ∧ p < S 2 then (if w = 0 then pS S p 0 else if w = 1 then pS S p 1 else if w = 2 then pS S p 2 else if w = 3 then lft S (nightP S) (pS S p 0) (pS S p 1) else if w = 4 then stp S (nightP S) (pS S p 0) (pS S p 1) else if w = 5 then pS S p 3 else if w = 6 then pS S p 4 else if w = 7 then pS S p 5 else -2) else -2
-- OutwardDoorsModel.person(II)I at 0
set_option maxRecDepth 20000 in
set_option maxHeartbeats 4000000 in
theorem r212_0 {X : Cst} {d : Nat} {x1 : Int} {x2 : Int} {h : AH} {Q : Post} (C_h : Lay h) (hd : 6 ≤ d)
  (w : (-2147483648 ≤ x1 ∧ x1 < 2147483648) ∧ ((¬ (0 ≤ x1 ∧ x1 < aI h 266 2) → Q (some (.int (J (-2)))) h) ∧ ((0 ≤ x1 ∧ x1 < aI h 266 2) → (-2147483648 ≤ x2 ∧ x2 < 2147483648) ∧ (((0 ≤ x2 ∧ x2 ≤ 7) → ((3 ≤ x2 → ((¬ x2 = 3 → ((¬ x2 = 4 → (0 ≤ 10 + 6 * x1 + (x2 - 2) ∧ 10 + 6 * x1 + (x2 - 2) < 123) ∧ Q (some (.int (J (pS (aI h 266) x1 (x2 - 2))))) h) ∧ (x2 = 4 → (WF 999 (aI h 266)) ∧ (0 ≤ x1 ∧ x1 < aI h 266 2) ∧ (∀ h24, SH h h24 → (Fr (fun c _ => c = 267) h h24) → Q (some (.int (J (stp (aI h 266) (nightP (aI h 266)) (pS (aI h 266) x1 0) (pS (aI h 266) x1 1))))) h24)))) ∧ (x2 = 3 → (WF 999 (aI h 266)) ∧ (0 ≤ x1 ∧ x1 < aI h 266 2) ∧ (∀ h31, SH h h31 → (Fr (fun c _ => c = 267) h h31 ∧ ∀ r, 0 ≤ r → r < aI h 266 0 → aI h31 267 r = lft (aI h 266) (nightP (aI h 266)) r (pS (aI h 266) x1 1)) → Q (some (.int (J (lft (aI h 266) (nightP (aI h 266)) (pS (aI h 266) x1 0) (pS (aI h 266) x1 1))))) h31)))) ∧ (¬ 3 ≤ x2 → (0 ≤ 10 + 6 * x1 + x2 ∧ 10 + 6 * x1 + x2 < 123) ∧ Q (some (.int (J (pS (aI h 266) x1 x2)))) h))) ∧ (¬ (0 ≤ x2 ∧ x2 ≤ 7) → Q (some (.int (J (-2)))) h))))) :
    Ex X PG (d + 1) 212 0 [some (.ref 256), some (.int (J x1)), some (.int (J x2))] [] h Q := by
  refine wpx_ok (cut := []) 26 d 212 0 _ _ _ _ ?_
  show hs h 256 = (0, 11) ∧ Ex X PG d 213 0 [some (.ref 256), some (.int (J x1))] [] h (fun v1 h2 => ∃ r3, v1 = some (.int r3) ∧ ((r3 = (J 0) → Q (some (.int (J (-2)))) h2) ∧ (¬ (r3 = (J 0)) → Ex X PG d 186 0 [some (.long (Int32.toInt64 (J x2))), none, some (.long (0 : Int64)), none, some (.long (7 : Int64)), none] [] h2 (fun v7 h8 => ∃ r9, v7 = some (.int r9) ∧ ((¬ r9 = (J 0) → (((J 3) ≤ (J x2) → ((¬ (J x2) = (J 3) → ((¬ (J x2) = (J 4) → hs h8 256 = (0, 11) ∧ Ex X PG d 209 0 [some (.ref 256), some (.int (J x1)), some (.int ((J x2) - (J 2)))] [] h8 (fun v19 h20 => ∃ r21, v19 = some (.int r21) ∧ Q (some (.int r21)) h20)) ∧ (¬ (¬ (J x2) = (J 4)) → hs h8 256 = (0, 11) ∧ Ex X PG d 221 0 [some (.ref 256), some (.int (J x1)), none, none, none, none, none] [] h8 (fun v23 h24 => ∃ r25, v23 = some (.int r25) ∧ Q (some (.int r25)) h24)))) ∧ (¬ (¬ (J x2) = (J 3)) → hs h8 256 = (0, 11) ∧ Ex X PG d 214 0 [some (.ref 256), some (.int (J x1))] [] h8 (fun v30 h31 => ∃ r32, v30 = some (.int r32) ∧ Q (some (.int r32)) h31)))) ∧ (¬ ((J 3) ≤ (J x2)) → hs h8 256 = (0, 11) ∧ Ex X PG d 209 0 [some (.ref 256), some (.int (J x1)), some (.int (J x2))] [] h8 (fun v37 h38 => ∃ r39, v37 = some (.int r39) ∧ Q (some (.int r39)) h38)))) ∧ (¬ (¬ r9 = (J 0)) → Q (some (.int (J (-2)))) h8))))))
  try simp only [aI_wAL, fI_wAL, aL_wA, aL_wF, aI_wA_ne, aI_wF_ne, fI_wA_ne, fI_wF_ne, fI_wF_nk, aL_wAL_ne, J_sameA, J_sameF, aL_same, Nat.add_left_cancel_iff, Nat.add_eq_left, Nat.left_eq_add, not_false_eq_true, Nat.reduceEqDiff, Nat.reduceAdd, J_add, J_sub, J_mul, J_neg, J_and, J_or, J_xor, J_shl, J_shr, J_div, J_i2b, J_i2l, J_l2i, J_lcm, J_max, J_min, J_nab, J_nao, rdA, rdF, rdL, wA_fold, wF_fold, wL_fold, wC_fold]
  refine ⟨(ls256 C_h), ?_⟩
  obtain ⟨k4, w⟩ := w
  refine m213 (h := h) (x := x1) C_h (by omega) k4 ?_
  refine ⟨_, rfl, ?_⟩
  try simp only [aI_wAL, fI_wAL, aL_wA, aL_wF, aI_wA_ne, aI_wF_ne, fI_wA_ne, fI_wF_ne, fI_wF_nk, aL_wAL_ne, J_sameA, J_sameF, aL_same, Nat.add_left_cancel_iff, Nat.add_eq_left, Nat.left_eq_add, not_false_eq_true, Nat.reduceEqDiff, Nat.reduceAdd, J_add, J_sub, J_mul, J_neg, J_and, J_or, J_xor, J_shl, J_shr, J_div, J_i2b, J_i2l, J_l2i, J_lcm, J_max, J_min, J_nab, J_nao, rdA, rdF, rdL, wA_fold, wF_fold, wL_fold, wC_fold]
  refine ⟨fun c5 => ?_, fun c5 => ?_⟩
  · have t6 : ¬ (0 ≤ x1 ∧ x1 < aI h 266 2) := ((bI0 _).mp c5)
    replace w := w.1 t6
    exact w
  · have t6 : (0 ≤ x1 ∧ x1 < aI h 266 2) := (Classical.byContradiction fun n => c5 ((bI0 _).mpr n))
    replace w := w.2 t6
    obtain ⟨k10, w⟩ := w
    refine m186 (h := h) (v := x2) (lo := 0) (hi := 7) C_h (by omega) k10 (by decide) (by decide) ?_
    refine ⟨_, rfl, ?_⟩
    try simp only [aI_wAL, fI_wAL, aL_wA, aL_wF, aI_wA_ne, aI_wF_ne, fI_wA_ne, fI_wF_ne, fI_wF_nk, aL_wAL_ne, J_sameA, J_sameF, aL_same, Nat.add_left_cancel_iff, Nat.add_eq_left, Nat.left_eq_add, not_false_eq_true, Nat.reduceEqDiff, Nat.reduceAdd, J_add, J_sub, J_mul, J_neg, J_and, J_or, J_xor, J_shl, J_shr, J_div, J_i2b, J_i2l, J_l2i, J_lcm, J_max, J_min, J_nab, J_nao, rdA, rdF, rdL, wA_fold, wF_fold, wL_fold, wC_fold]
    refine ⟨fun c11 => ?_, fun c11 => ?_⟩
    · have t12 : (0 ≤ x2 ∧ x2 ≤ 7) := (Classical.byContradiction fun n => c11 ((bI0 _).mpr n))
      replace w := w.1 t12
      refine ⟨fun c13 => ?_, fun c13 => ?_⟩
      · have t14 : 3 ≤ x2 := ((Jle (by decide) k10).mp c13)
        replace w := w.1 t14
        refine ⟨fun c15 => ?_, fun c15 => ?_⟩
        · have t16 : ¬ x2 = 3 := (fun e => c15 ((Jeq k10 (by decide)).mpr e))
          replace w := w.1 t16
          refine ⟨fun c17 => ?_, fun c17 => ?_⟩
          · have t18 : ¬ x2 = 4 := (fun e => c17 ((Jeq k10 (by decide)).mpr e))
            replace w := w.1 t18
            refine ⟨(ls256 C_h), ?_⟩
            obtain ⟨k22, w⟩ := w
            refine m209 (h := h) (p := x1) (w := (x2 - 2)) C_h (by omega) k22 ?_
            refine ⟨_, rfl, ?_⟩
            try simp only [aI_wAL, fI_wAL, aL_wA, aL_wF, aI_wA_ne, aI_wF_ne, fI_wA_ne, fI_wF_ne, fI_wF_nk, aL_wAL_ne, J_sameA, J_sameF, aL_same, Nat.add_left_cancel_iff, Nat.add_eq_left, Nat.left_eq_add, not_false_eq_true, Nat.reduceEqDiff, Nat.reduceAdd, J_add, J_sub, J_mul, J_neg, J_and, J_or, J_xor, J_shl, J_shr, J_div, J_i2b, J_i2l, J_l2i, J_lcm, J_max, J_min, J_nab, J_nao, rdA, rdF, rdL, wA_fold, wF_fold, wL_fold, wC_fold]
            exact w
          · have t18 : x2 = 4 := ((Jeq k10 (by decide)).mp (Classical.byContradiction c17))
            replace w := w.2 t18
            refine ⟨(ls256 C_h), ?_⟩
            obtain ⟨k26, w⟩ := w
            obtain ⟨k27, w⟩ := w
            refine m221 (h := h) (p := x1) C_h (by omega) k26 k27 ?_
            intro h24 s28 p29
            replace w := w h24 s28 p29
            refine ⟨_, rfl, ?_⟩
            have C_h24 := Lay_SH s28 C_h
            try simp only [aI_wAL, fI_wAL, aL_wA, aL_wF, aI_wA_ne, aI_wF_ne, fI_wA_ne, fI_wF_ne, fI_wF_nk, aL_wAL_ne, J_sameA, J_sameF, aL_same, Nat.add_left_cancel_iff, Nat.add_eq_left, Nat.left_eq_add, not_false_eq_true, Nat.reduceEqDiff, Nat.reduceAdd, J_add, J_sub, J_mul, J_neg, J_and, J_or, J_xor, J_shl, J_shr, J_div, J_i2b, J_i2l, J_l2i, J_lcm, J_max, J_min, J_nab, J_nao, rdA, rdF, rdL, wA_fold, wF_fold, wL_fold, wC_fold]
            exact w
        · have t16 : x2 = 3 := ((Jeq k10 (by decide)).mp (Classical.byContradiction c15))
          replace w := w.2 t16
          refine ⟨(ls256 C_h), ?_⟩
          obtain ⟨k33, w⟩ := w
          obtain ⟨k34, w⟩ := w
          refine m214 (h := h) (p := x1) C_h (by omega) k33 k34 ?_
          intro h31 s35 p36
          replace w := w h31 s35 p36
          refine ⟨_, rfl, ?_⟩
          have C_h31 := Lay_SH s35 C_h
          try simp only [aI_wAL, fI_wAL, aL_wA, aL_wF, aI_wA_ne, aI_wF_ne, fI_wA_ne, fI_wF_ne, fI_wF_nk, aL_wAL_ne, J_sameA, J_sameF, aL_same, Nat.add_left_cancel_iff, Nat.add_eq_left, Nat.left_eq_add, not_false_eq_true, Nat.reduceEqDiff, Nat.reduceAdd, J_add, J_sub, J_mul, J_neg, J_and, J_or, J_xor, J_shl, J_shr, J_div, J_i2b, J_i2l, J_l2i, J_lcm, J_max, J_min, J_nab, J_nao, rdA, rdF, rdL, wA_fold, wF_fold, wL_fold, wC_fold]
          exact w
      · have t14 : ¬ 3 ≤ x2 := (fun e => c13 ((Jle (by decide) k10).mpr e))
        replace w := w.2 t14
        refine ⟨(ls256 C_h), ?_⟩
        obtain ⟨k40, w⟩ := w
        refine m209 (h := h) (p := x1) (w := x2) C_h (by omega) k40 ?_
        refine ⟨_, rfl, ?_⟩
        try simp only [aI_wAL, fI_wAL, aL_wA, aL_wF, aI_wA_ne, aI_wF_ne, fI_wA_ne, fI_wF_ne, fI_wF_nk, aL_wAL_ne, J_sameA, J_sameF, aL_same, Nat.add_left_cancel_iff, Nat.add_eq_left, Nat.left_eq_add, not_false_eq_true, Nat.reduceEqDiff, Nat.reduceAdd, J_add, J_sub, J_mul, J_neg, J_and, J_or, J_xor, J_shl, J_shr, J_div, J_i2b, J_i2l, J_l2i, J_lcm, J_max, J_min, J_nab, J_nao, rdA, rdF, rdL, wA_fold, wF_fold, wL_fold, wC_fold]
        exact w
    · have t12 : ¬ (0 ≤ x2 ∧ x2 ≤ 7) := ((bI0 _).mp (Classical.byContradiction fun n => c11 n))
      replace w := w.2 t12
      exact w
theorem m212 {X : Cst} {d : Nat} {p w : Int} {h : AH} {Q : Post} (C : Lay h) (hd : 7 ≤ d) (W : WF 999 (aI h 266)) (g1 : -2147483648 ≤ p ∧ p < 2147483648) (g2 : -2147483648 ≤ w ∧ w < 2147483648) (k : ∀ h', Fr TR h h' → Q (some (.int (J (anPerson (aI h 266) p w)))) h') : Ex X PG d 212 0 [some (.ref 256), some (.int (J p)), some (.int (J w))] [] h Q := by
  obtain ⟨d, rfl⟩ : ∃ e, d = e + 1 := ⟨d - 1, by omega⟩
  have b := W.1
  unfold WFb at b
  have fin : ∀ h' v, Fr TR h h' → v = anPerson (aI h 266) p w → Q (some (.int (J v))) h' := fun h' v F e => by rw [e]; exact k h' F
  unfold anPerson at fin
  refine r212_0 C (by omega) ⟨g1, fun c => ?_, fun c => ⟨g2, fun c2 => ⟨fun c3 => ⟨fun c4 => ⟨fun c5 => ⟨by omega, ?_⟩, fun c5 => ⟨W, c, fun h' s F => ?_⟩⟩, fun c4 => ⟨W, c, fun h' s F => ?_⟩⟩, fun c3 => ⟨by omega, ?_⟩⟩, fun c2 => ?_⟩⟩
  · exact fin h _ Fr.rf (by rw [if_neg c])
  · refine fin h _ Fr.rf ?_
    rw [if_pos c, if_neg (by omega), if_neg (by omega), if_neg (by omega), if_neg c4, if_neg c5]
    by_cases e5 : w = 5
    · rw [if_pos e5, e5]; rfl
    · rw [if_neg e5]
      by_cases e6 : w = 6
      · rw [if_pos e6, e6]; rfl
      · rw [if_neg e6, if_pos (by omega), show w = 7 by omega]; rfl
  · exact fin h' _ (F.mo fun c k z => Or.inr (Or.inl (by omega))) (by rw [if_pos c, if_neg (by omega), if_neg (by omega), if_neg (by omega), if_neg c4, if_pos c5])
  · exact fin h' _ (F.1.mo fun c k z => Or.inr (Or.inl (by omega))) (by rw [if_pos c, if_neg (by omega), if_neg (by omega), if_neg (by omega), if_pos c4])
  · refine fin h _ Fr.rf ?_
    rw [if_pos c]
    by_cases e5 : w = 0
    · rw [if_pos e5, e5]
    · rw [if_neg e5]
      by_cases e6 : w = 1
      · rw [if_pos e6, e6]
      · rw [if_neg e6, if_pos (by omega), show w = 2 by omega]
  · refine fin h _ Fr.rf ?_
    rw [if_pos c, if_neg (by omega), if_neg (by omega), if_neg (by omega), if_neg (by omega), if_neg (by omega), if_neg (by omega), if_neg (by omega), if_neg (by omega)]
noncomputable def anRoom (S : Int → Int) (r w : Int) : Int :=
  if 0 ≤ r ∧ r < S 0 then (if w = 0 then S (34 + r) else if w = 1 then pIn S r else if w = 2 then outw S (nightP S) r else -1) else -1
-- OutwardDoorsModel.room(II)I at 0
set_option maxRecDepth 20000 in
set_option maxHeartbeats 4000000 in
theorem r222_0 {X : Cst} {d : Nat} {x1 : Int} {x2 : Int} {h : AH} {Q : Post} (C_h : Lay h) (hd : 3 ≤ d)
  (w : (-2147483648 ≤ x1 ∧ x1 < 2147483648) ∧ ((¬ (0 ≤ x1 ∧ x1 < aI h 266 0) → Q (some (.int (J (-1)))) h) ∧ ((0 ≤ x1 ∧ x1 < aI h 266 0) → (-2147483648 ≤ x2 ∧ x2 < 2147483648) ∧ (((0 ≤ x2 ∧ x2 ≤ 2) → ((¬ x2 = 0 → ((¬ x2 = 1 → (WF 999 (aI h 266)) ∧ (0 ≤ x1 ∧ x1 < 8) ∧ Q (some (.int (J (outw (aI h 266) (nightP (aI h 266)) x1)))) h) ∧ (x2 = 1 → (WF 999 (aI h 266)) ∧ Q (some (.int (J (pIn (aI h 266) x1)))) h))) ∧ (x2 = 0 → (0 ≤ 34 + x1 ∧ 34 + x1 < 123) ∧ Q (some (.int (J (aI h 266 (34 + x1))))) h))) ∧ (¬ (0 ≤ x2 ∧ x2 ≤ 2) → Q (some (.int (J (-1)))) h))))) :
    Ex X PG (d + 1) 222 0 [some (.ref 256), some (.int (J x1)), some (.int (J x2))] [] h Q := by
  refine wpx_ok (cut := []) 20 d 222 0 _ _ _ _ ?_
  show hs h 256 = (0, 11) ∧ Ex X PG d 223 0 [some (.ref 256), some (.int (J x1))] [] h (fun v1 h2 => ∃ r3, v1 = some (.int r3) ∧ ((r3 = (J 0) → Q (some (.int (J (-1)))) h2) ∧ (¬ (r3 = (J 0)) → Ex X PG d 186 0 [some (.long (Int32.toInt64 (J x2))), none, some (.long (0 : Int64)), none, some (.long (2 : Int64)), none] [] h2 (fun v7 h8 => ∃ r9, v7 = some (.int r9) ∧ ((¬ r9 = (J 0) → ((¬ (J x2) = (J 0) → ((¬ (J x2) = (J 1) → hs h8 256 = (0, 11) ∧ Ex X PG d 225 0 [some (.ref 256), some (.int (J x1)), none, none, none] [] h8 (fun v17 h18 => ∃ r19, v17 = some (.int r19) ∧ Q (some (.int r19)) h18)) ∧ (¬ (¬ (J x2) = (J 1)) → hs h8 256 = (0, 11) ∧ Ex X PG d 224 0 [some (.ref 256), some (.int (J x1)), none, none] [] h8 (fun v22 h23 => ∃ r24, v22 = some (.int r24) ∧ Q (some (.int r24)) h23)))) ∧ (¬ (¬ (J x2) = (J 0)) → hs h8 256 = (0, 11) ∧ ∃ q26, hR h8 256 20 = some q26 ∧ (hs h8 q26).1 = 1 ∧ ix ((J 34) + (J x1)) (hs h8 q26).2 ∧ Q (some (.int (hI h8 q26 (Int32.toNatClampNeg ((J 34) + (J x1)))))) h8))) ∧ (¬ (¬ r9 = (J 0)) → Q (some (.int (J (-1)))) h8))))))
  try simp only [aI_wAL, fI_wAL, aL_wA, aL_wF, aI_wA_ne, aI_wF_ne, fI_wA_ne, fI_wF_ne, fI_wF_nk, aL_wAL_ne, J_sameA, J_sameF, aL_same, Nat.add_left_cancel_iff, Nat.add_eq_left, Nat.left_eq_add, not_false_eq_true, Nat.reduceEqDiff, Nat.reduceAdd, J_add, J_sub, J_mul, J_neg, J_and, J_or, J_xor, J_shl, J_shr, J_div, J_i2b, J_i2l, J_l2i, J_lcm, J_max, J_min, J_nab, J_nao, rdA, rdF, rdL, wA_fold, wF_fold, wL_fold, wC_fold]
  refine ⟨(ls256 C_h), ?_⟩
  obtain ⟨k4, w⟩ := w
  refine m223 (h := h) (x := x1) C_h (by omega) k4 ?_
  refine ⟨_, rfl, ?_⟩
  try simp only [aI_wAL, fI_wAL, aL_wA, aL_wF, aI_wA_ne, aI_wF_ne, fI_wA_ne, fI_wF_ne, fI_wF_nk, aL_wAL_ne, J_sameA, J_sameF, aL_same, Nat.add_left_cancel_iff, Nat.add_eq_left, Nat.left_eq_add, not_false_eq_true, Nat.reduceEqDiff, Nat.reduceAdd, J_add, J_sub, J_mul, J_neg, J_and, J_or, J_xor, J_shl, J_shr, J_div, J_i2b, J_i2l, J_l2i, J_lcm, J_max, J_min, J_nab, J_nao, rdA, rdF, rdL, wA_fold, wF_fold, wL_fold, wC_fold]
  refine ⟨fun c5 => ?_, fun c5 => ?_⟩
  · have t6 : ¬ (0 ≤ x1 ∧ x1 < aI h 266 0) := ((bI0 _).mp c5)
    replace w := w.1 t6
    exact w
  · have t6 : (0 ≤ x1 ∧ x1 < aI h 266 0) := (Classical.byContradiction fun n => c5 ((bI0 _).mpr n))
    replace w := w.2 t6
    obtain ⟨k10, w⟩ := w
    refine m186 (h := h) (v := x2) (lo := 0) (hi := 2) C_h (by omega) k10 (by decide) (by decide) ?_
    refine ⟨_, rfl, ?_⟩
    try simp only [aI_wAL, fI_wAL, aL_wA, aL_wF, aI_wA_ne, aI_wF_ne, fI_wA_ne, fI_wF_ne, fI_wF_nk, aL_wAL_ne, J_sameA, J_sameF, aL_same, Nat.add_left_cancel_iff, Nat.add_eq_left, Nat.left_eq_add, not_false_eq_true, Nat.reduceEqDiff, Nat.reduceAdd, J_add, J_sub, J_mul, J_neg, J_and, J_or, J_xor, J_shl, J_shr, J_div, J_i2b, J_i2l, J_l2i, J_lcm, J_max, J_min, J_nab, J_nao, rdA, rdF, rdL, wA_fold, wF_fold, wL_fold, wC_fold]
    refine ⟨fun c11 => ?_, fun c11 => ?_⟩
    · have t12 : (0 ≤ x2 ∧ x2 ≤ 2) := (Classical.byContradiction fun n => c11 ((bI0 _).mpr n))
      replace w := w.1 t12
      refine ⟨fun c13 => ?_, fun c13 => ?_⟩
      · have t14 : ¬ x2 = 0 := (fun e => c13 ((Jeq k10 (by decide)).mpr e))
        replace w := w.1 t14
        refine ⟨fun c15 => ?_, fun c15 => ?_⟩
        · have t16 : ¬ x2 = 1 := (fun e => c15 ((Jeq k10 (by decide)).mpr e))
          replace w := w.1 t16
          refine ⟨(ls256 C_h), ?_⟩
          obtain ⟨k20, w⟩ := w
          obtain ⟨k21, w⟩ := w
          refine m225 (h := h) (r := x1) C_h (by omega) k20 k21 ?_
          refine ⟨_, rfl, ?_⟩
          try simp only [aI_wAL, fI_wAL, aL_wA, aL_wF, aI_wA_ne, aI_wF_ne, fI_wA_ne, fI_wF_ne, fI_wF_nk, aL_wAL_ne, J_sameA, J_sameF, aL_same, Nat.add_left_cancel_iff, Nat.add_eq_left, Nat.left_eq_add, not_false_eq_true, Nat.reduceEqDiff, Nat.reduceAdd, J_add, J_sub, J_mul, J_neg, J_and, J_or, J_xor, J_shl, J_shr, J_div, J_i2b, J_i2l, J_l2i, J_lcm, J_max, J_min, J_nab, J_nao, rdA, rdF, rdL, wA_fold, wF_fold, wL_fold, wC_fold]
          exact w
        · have t16 : x2 = 1 := ((Jeq k10 (by decide)).mp (Classical.byContradiction c15))
          replace w := w.2 t16
          refine ⟨(ls256 C_h), ?_⟩
          obtain ⟨k25, w⟩ := w
          refine m224 (h := h) (r := x1) C_h (by omega) k25 k4 ?_
          refine ⟨_, rfl, ?_⟩
          try simp only [aI_wAL, fI_wAL, aL_wA, aL_wF, aI_wA_ne, aI_wF_ne, fI_wA_ne, fI_wF_ne, fI_wF_nk, aL_wAL_ne, J_sameA, J_sameF, aL_same, Nat.add_left_cancel_iff, Nat.add_eq_left, Nat.left_eq_add, not_false_eq_true, Nat.reduceEqDiff, Nat.reduceAdd, J_add, J_sub, J_mul, J_neg, J_and, J_or, J_xor, J_shl, J_shr, J_div, J_i2b, J_i2l, J_l2i, J_lcm, J_max, J_min, J_nab, J_nao, rdA, rdF, rdL, wA_fold, wF_fold, wL_fold, wC_fold]
          exact w
      · have t14 : x2 = 0 := ((Jeq k10 (by decide)).mp (Classical.byContradiction c13))
        replace w := w.2 t14
        refine ⟨(ls256 C_h), _, (lr256_20 C_h), ?_⟩
        obtain ⟨k27, w⟩ := w
        refine ⟨congrArg Prod.fst (ls266 C_h), ixs (ls266 C_h) k27 (by decide), ?_⟩
        exact w
    · have t12 : ¬ (0 ≤ x2 ∧ x2 ≤ 2) := ((bI0 _).mp (Classical.byContradiction fun n => c11 n))
      replace w := w.2 t12
      exact w
theorem m222 {X : Cst} {d : Nat} {p w : Int} {h : AH} {Q : Post} (C : Lay h) (hd : 4 ≤ d) (W : WF 999 (aI h 266)) (g1 : -2147483648 ≤ p ∧ p < 2147483648) (g2 : -2147483648 ≤ w ∧ w < 2147483648) (k : ∀ h', Fr TR h h' → Q (some (.int (J (anRoom (aI h 266) p w)))) h') : Ex X PG d 222 0 [some (.ref 256), some (.int (J p)), some (.int (J w))] [] h Q := by
  obtain ⟨d, rfl⟩ : ∃ e, d = e + 1 := ⟨d - 1, by omega⟩
  have b := W.1
  unfold WFb at b
  have fin : ∀ v, v = anRoom (aI h 266) p w → Q (some (.int (J v))) h := fun v e => by rw [e]; exact k h Fr.rf
  unfold anRoom at fin
  refine r222_0 C (by omega) ⟨g1, fun c => ?_, fun c => ⟨g2, fun c2 => ⟨fun c3 => ⟨fun c4 => ⟨W, by omega, ?_⟩, fun c4 => ⟨W, ?_⟩⟩, fun c3 => ⟨by omega, ?_⟩⟩, fun c2 => ?_⟩⟩
  · exact fin _ (by rw [if_neg c])
  · exact fin _ (by rw [if_pos c, if_neg c3, if_neg c4, if_pos (by omega)])
  · exact fin _ (by rw [if_pos c, if_neg c3, if_pos c4])
  · exact fin _ (by rw [if_pos c, if_pos c3])
  · exact fin _ (by rw [if_pos c, if_neg (by omega), if_neg (by omega), if_neg (by omega)])
noncomputable def anDoor (S : Int → Int) (d w : Int) : Int :=
  if 0 ≤ d ∧ d < S 1 then (if w = 0 then nr S d else if w = 1 then fr S d else if w = 2 then wn S d else if w = 3 then bI (opn S (nightP S) d) else -1) else -1
-- OutwardDoorsModel.door(II)I at 0
set_option maxRecDepth 20000 in
set_option maxHeartbeats 4000000 in
theorem r227_0 {X : Cst} {d : Nat} {x1 : Int} {x2 : Int} {h : AH} {Q : Post} (C_h : Lay h) (hd : 2 ≤ d)
  (w : (-2147483648 ≤ x1 ∧ x1 < 2147483648) ∧ ((¬ (0 ≤ x1 ∧ x1 < aI h 266 1) → Q (some (.int (J (-1)))) h) ∧ ((0 ≤ x1 ∧ x1 < aI h 266 1) → (-2147483648 ≤ x2 ∧ x2 < 2147483648) ∧ (((0 ≤ x2 ∧ x2 ≤ 3) → ((3 ≤ x2 → (WF 999 (aI h 266)) ∧ (0 ≤ x1 ∧ x1 < aI h 266 1) ∧ ((¬ (opn (aI h 266) (nightP (aI h 266)) x1) → Q (some (.int (J 0))) h) ∧ ((opn (aI h 266) (nightP (aI h 266)) x1) → Q (some (.int (J 1))) h))) ∧ (¬ 3 ≤ x2 → (0 ≤ (42 + (3 * x1)) + x2 ∧ (42 + (3 * x1)) + x2 < 123) ∧ Q (some (.int (J (aI h 266 ((42 + (3 * x1)) + x2))))) h))) ∧ (¬ (0 ≤ x2 ∧ x2 ≤ 3) → Q (some (.int (J (-1)))) h))))) :
    Ex X PG (d + 1) 227 0 [some (.ref 256), some (.int (J x1)), some (.int (J x2))] [] h Q := by
  refine wpx_ok (cut := []) 25 d 227 0 _ _ _ _ ?_
  show hs h 256 = (0, 11) ∧ Ex X PG d 228 0 [some (.ref 256), some (.int (J x1))] [] h (fun v1 h2 => ∃ r3, v1 = some (.int r3) ∧ ((r3 = (J 0) → Q (some (.int (J (-1)))) h2) ∧ (¬ (r3 = (J 0)) → Ex X PG d 186 0 [some (.long (Int32.toInt64 (J x2))), none, some (.long (0 : Int64)), none, some (.long (3 : Int64)), none] [] h2 (fun v7 h8 => ∃ r9, v7 = some (.int r9) ∧ ((¬ r9 = (J 0) → (((J 3) ≤ (J x2) → hs h8 256 = (0, 11) ∧ Ex X PG d 217 0 [some (.ref 256), some (.int (J x1))] [] h8 (fun v15 h16 => ∃ r17, v15 = some (.int r17) ∧ ((r17 = (J 0) → Q (some (.int (J 0))) h16) ∧ (¬ (r17 = (J 0)) → Q (some (.int (J 1))) h16)))) ∧ (¬ ((J 3) ≤ (J x2)) → hs h8 256 = (0, 11) ∧ ∃ q22, hR h8 256 20 = some q22 ∧ (hs h8 q22).1 = 1 ∧ ix (((J 42) + ((J 3) * (J x1))) + (J x2)) (hs h8 q22).2 ∧ Q (some (.int (hI h8 q22 (Int32.toNatClampNeg (((J 42) + ((J 3) * (J x1))) + (J x2)))))) h8))) ∧ (¬ (¬ r9 = (J 0)) → Q (some (.int (J (-1)))) h8))))))
  try simp only [aI_wAL, fI_wAL, aL_wA, aL_wF, aI_wA_ne, aI_wF_ne, fI_wA_ne, fI_wF_ne, fI_wF_nk, aL_wAL_ne, J_sameA, J_sameF, aL_same, Nat.add_left_cancel_iff, Nat.add_eq_left, Nat.left_eq_add, not_false_eq_true, Nat.reduceEqDiff, Nat.reduceAdd, J_add, J_sub, J_mul, J_neg, J_and, J_or, J_xor, J_shl, J_shr, J_div, J_i2b, J_i2l, J_l2i, J_lcm, J_max, J_min, J_nab, J_nao, rdA, rdF, rdL, wA_fold, wF_fold, wL_fold, wC_fold]
  refine ⟨(ls256 C_h), ?_⟩
  obtain ⟨k4, w⟩ := w
  refine m228 (h := h) (x := x1) C_h (by omega) k4 ?_
  refine ⟨_, rfl, ?_⟩
  try simp only [aI_wAL, fI_wAL, aL_wA, aL_wF, aI_wA_ne, aI_wF_ne, fI_wA_ne, fI_wF_ne, fI_wF_nk, aL_wAL_ne, J_sameA, J_sameF, aL_same, Nat.add_left_cancel_iff, Nat.add_eq_left, Nat.left_eq_add, not_false_eq_true, Nat.reduceEqDiff, Nat.reduceAdd, J_add, J_sub, J_mul, J_neg, J_and, J_or, J_xor, J_shl, J_shr, J_div, J_i2b, J_i2l, J_l2i, J_lcm, J_max, J_min, J_nab, J_nao, rdA, rdF, rdL, wA_fold, wF_fold, wL_fold, wC_fold]
  refine ⟨fun c5 => ?_, fun c5 => ?_⟩
  · have t6 : ¬ (0 ≤ x1 ∧ x1 < aI h 266 1) := ((bI0 _).mp c5)
    replace w := w.1 t6
    exact w
  · have t6 : (0 ≤ x1 ∧ x1 < aI h 266 1) := (Classical.byContradiction fun n => c5 ((bI0 _).mpr n))
    replace w := w.2 t6
    obtain ⟨k10, w⟩ := w
    refine m186 (h := h) (v := x2) (lo := 0) (hi := 3) C_h (by omega) k10 (by decide) (by decide) ?_
    refine ⟨_, rfl, ?_⟩
    try simp only [aI_wAL, fI_wAL, aL_wA, aL_wF, aI_wA_ne, aI_wF_ne, fI_wA_ne, fI_wF_ne, fI_wF_nk, aL_wAL_ne, J_sameA, J_sameF, aL_same, Nat.add_left_cancel_iff, Nat.add_eq_left, Nat.left_eq_add, not_false_eq_true, Nat.reduceEqDiff, Nat.reduceAdd, J_add, J_sub, J_mul, J_neg, J_and, J_or, J_xor, J_shl, J_shr, J_div, J_i2b, J_i2l, J_l2i, J_lcm, J_max, J_min, J_nab, J_nao, rdA, rdF, rdL, wA_fold, wF_fold, wL_fold, wC_fold]
    refine ⟨fun c11 => ?_, fun c11 => ?_⟩
    · have t12 : (0 ≤ x2 ∧ x2 ≤ 3) := (Classical.byContradiction fun n => c11 ((bI0 _).mpr n))
      replace w := w.1 t12
      refine ⟨fun c13 => ?_, fun c13 => ?_⟩
      · have t14 : 3 ≤ x2 := ((Jle (by decide) k10).mp c13)
        replace w := w.1 t14
        refine ⟨(ls256 C_h), ?_⟩
        obtain ⟨k18, w⟩ := w
        obtain ⟨k19, w⟩ := w
        refine m217 (h := h) (x := x1) C_h (by omega) k18 k19 ?_
        refine ⟨_, rfl, ?_⟩
        try simp only [aI_wAL, fI_wAL, aL_wA, aL_wF, aI_wA_ne, aI_wF_ne, fI_wA_ne, fI_wF_ne, fI_wF_nk, aL_wAL_ne, J_sameA, J_sameF, aL_same, Nat.add_left_cancel_iff, Nat.add_eq_left, Nat.left_eq_add, not_false_eq_true, Nat.reduceEqDiff, Nat.reduceAdd, J_add, J_sub, J_mul, J_neg, J_and, J_or, J_xor, J_shl, J_shr, J_div, J_i2b, J_i2l, J_l2i, J_lcm, J_max, J_min, J_nab, J_nao, rdA, rdF, rdL, wA_fold, wF_fold, wL_fold, wC_fold]
        refine ⟨fun c20 => ?_, fun c20 => ?_⟩
        · have t21 : ¬ (opn (aI h 266) (nightP (aI h 266)) x1) := ((bI0 _).mp c20)
          replace w := w.1 t21
          exact w
        · have t21 : (opn (aI h 266) (nightP (aI h 266)) x1) := (Classical.byContradiction fun n => c20 ((bI0 _).mpr n))
          replace w := w.2 t21
          exact w
      · have t14 : ¬ 3 ≤ x2 := (fun e => c13 ((Jle (by decide) k10).mpr e))
        replace w := w.2 t14
        refine ⟨(ls256 C_h), _, (lr256_20 C_h), ?_⟩
        obtain ⟨k23, w⟩ := w
        refine ⟨congrArg Prod.fst (ls266 C_h), ixs (ls266 C_h) k23 (by decide), ?_⟩
        exact w
    · have t12 : ¬ (0 ≤ x2 ∧ x2 ≤ 3) := ((bI0 _).mp (Classical.byContradiction fun n => c11 n))
      replace w := w.2 t12
      exact w
theorem m227 {X : Cst} {d : Nat} {p w : Int} {h : AH} {Q : Post} (C : Lay h) (hd : 4 ≤ d) (W : WF 999 (aI h 266)) (g1 : -2147483648 ≤ p ∧ p < 2147483648) (g2 : -2147483648 ≤ w ∧ w < 2147483648) (k : ∀ h', Fr TR h h' → Q (some (.int (J (anDoor (aI h 266) p w)))) h') : Ex X PG d 227 0 [some (.ref 256), some (.int (J p)), some (.int (J w))] [] h Q := by
  obtain ⟨d, rfl⟩ : ∃ e, d = e + 1 := ⟨d - 1, by omega⟩
  have b := W.1
  unfold WFb at b
  have fin : ∀ v, v = anDoor (aI h 266) p w → Q (some (.int (J v))) h := fun v e => by rw [e]; exact k h Fr.rf
  unfold anDoor at fin
  refine r227_0 C (by omega) ⟨g1, fun c => ?_, fun c => ⟨g2, fun c2 => ⟨fun c3 => ⟨W, c, fun c4 => ?_, fun c4 => ?_⟩, fun c3 => ⟨by omega, ?_⟩⟩, fun c2 => ?_⟩⟩
  · exact fin _ (by rw [if_neg c])
  · exact fin _ (by rw [if_pos c, if_neg (by omega), if_neg (by omega), if_neg (by omega), if_pos (by omega), bI_neg c4])
  · exact fin _ (by rw [if_pos c, if_neg (by omega), if_neg (by omega), if_neg (by omega), if_pos (by omega), bI_pos c4])
  · refine fin _ ?_
    rw [if_pos c]
    by_cases e5 : w = 0
    · rw [if_pos e5, e5, Int.add_zero]; rfl
    · rw [if_neg e5]
      by_cases e6 : w = 1
      · rw [if_pos e6, e6]; rfl
      · rw [if_neg e6, if_pos (by omega), show w = 2 by omega]; rfl
  · exact fin _ (by rw [if_pos c, if_neg (by omega), if_neg (by omega), if_neg (by omega), if_neg (by omega)])
