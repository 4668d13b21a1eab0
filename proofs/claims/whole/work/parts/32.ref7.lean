/-! RULES: what a code reckons. -/
-- OutwardDoorsModel.push(J)V at 0
set_option maxRecDepth 20000 in
set_option maxHeartbeats 4000000 in
theorem r240_0 {X : Cst} {d : Nat} {x1 : Int64} {h : AH} {Q : Post} (C_h : Lay h)
  (w : (0 ≤ fI h 256 18 ∧ fI h 256 18 < 64) ∧ Q none (wF (wAL h 264 (fI h 256 18) x1) 256 18 ((fI h 256 18) + 1))) :
    Ex X PG (d + 1) 240 0 [some (.ref 256), some (.long x1), none] [] h Q := by
  refine wpx_ok (cut := []) 13 d 240 0 _ _ _ _ ?_
  show hs h 256 = (0, 11) ∧ ∃ q1, hR h 256 17 = some q1 ∧ hs h 256 = (0, 11) ∧ (hs h q1).1 = 2 ∧ ix (hF h 256 18) (hs h q1).2 ∧ hs (wL h q1 (Int32.toNatClampNeg (hF h 256 18)) x1) 256 = (0, 11) ∧ hs (wL h q1 (Int32.toNatClampNeg (hF h 256 18)) x1) 256 = (0, 11) ∧ Q none (wG (wL h q1 (Int32.toNatClampNeg (hF h 256 18)) x1) 256 18 ((hF (wL h q1 (Int32.toNatClampNeg (hF h 256 18)) x1) 256 18) + (J 1)))
  try simp only [aI_wAL, fI_wAL, aL_wA, aL_wF, aI_wA_ne, aI_wF_ne, fI_wA_ne, fI_wF_ne, fI_wF_nk, aL_wAL_ne, J_sameA, J_sameF, aL_same, not_false_eq_true, Nat.reduceEqDiff, Nat.reduceAdd, J_add, J_sub, J_mul, J_neg, J_and, J_or, J_xor, J_shl, J_shr, J_div, J_i2b, J_i2l, J_l2i, J_lcm, J_max, J_min, J_nab, J_nao, rdA, rdF, rdL, wA_fold, wF_fold, wL_fold, wC_fold]
  refine ⟨(ls256 C_h), _, (lr256_17 C_h), ?_⟩
  refine ⟨(ls256 C_h), ?_⟩
  obtain ⟨k2, w⟩ := w
  refine ⟨congrArg Prod.fst (ls264 C_h), ixs (ls264 C_h) k2 (by decide), ?_⟩
  refine ⟨(ls256 C_h), ?_⟩
  refine ⟨(ls256 C_h), ?_⟩
  exact w
theorem m240 {X : Cst} {d : Nat} {v : Int64} {h : AH} {Q : Post} (C : Lay h) (hd : 1 ≤ d) (c : 0 ≤ fI h 256 18 ∧ fI h 256 18 < 64) (k : Q none (wF (wAL h 264 (fI h 256 18) v) 256 18 (fI h 256 18 + 1))) : Ex X PG d 240 0 [some (.ref 256), some (.long v), none] [] h Q := by
  obtain ⟨d, rfl⟩ : ∃ e, d = e + 1 := ⟨d - 1, by omega⟩
  exact r240_0 C ⟨c, k⟩
-- OutwardDoorsModel.pop()J at 0
set_option maxRecDepth 20000 in
set_option maxHeartbeats 4000000 in
theorem r241_0 {X : Cst} {d : Nat}  {h : AH} {Q : Post} (C_h : Lay h)
  (w : (0 ≤ (fI h 256 18) - 1 ∧ (fI h 256 18) - 1 < 64) ∧ Q (some (.long (aL h 264 ((fI h 256 18) - 1)))) (wF h 256 18 ((fI h 256 18) - 1))) :
    Ex X PG (d + 1) 241 0 [some (.ref 256)] [] h Q := by
  refine wpx_ok (cut := []) 12 d 241 0 _ _ _ _ ?_
  show hs h 256 = (0, 11) ∧ hs h 256 = (0, 11) ∧ hs (wG h 256 18 ((hF h 256 18) - (J 1))) 256 = (0, 11) ∧ ∃ q1, hR (wG h 256 18 ((hF h 256 18) - (J 1))) 256 17 = some q1 ∧ hs (wG h 256 18 ((hF h 256 18) - (J 1))) 256 = (0, 11) ∧ (hs (wG h 256 18 ((hF h 256 18) - (J 1))) q1).1 = 2 ∧ ix (hF (wG h 256 18 ((hF h 256 18) - (J 1))) 256 18) (hs (wG h 256 18 ((hF h 256 18) - (J 1))) q1).2 ∧ Q (some (.long (hL (wG h 256 18 ((hF h 256 18) - (J 1))) q1 (Int32.toNatClampNeg (hF (wG h 256 18 ((hF h 256 18) - (J 1))) 256 18))))) (wG h 256 18 ((hF h 256 18) - (J 1)))
  try simp only [aI_wAL, fI_wAL, aL_wA, aL_wF, aI_wA_ne, aI_wF_ne, fI_wA_ne, fI_wF_ne, fI_wF_nk, aL_wAL_ne, J_sameA, J_sameF, aL_same, not_false_eq_true, Nat.reduceEqDiff, Nat.reduceAdd, J_add, J_sub, J_mul, J_neg, J_and, J_or, J_xor, J_shl, J_shr, J_div, J_i2b, J_i2l, J_l2i, J_lcm, J_max, J_min, J_nab, J_nao, rdA, rdF, rdL, wA_fold, wF_fold, wL_fold, wC_fold]
  refine ⟨(ls256 C_h), ?_⟩
  refine ⟨(ls256 C_h), ?_⟩
  refine ⟨(ls256 C_h), _, (lr256_17 C_h), ?_⟩
  refine ⟨(ls256 C_h), ?_⟩
  obtain ⟨k2, w⟩ := w
  refine ⟨congrArg Prod.fst (ls264 C_h), ixs (ls264 C_h) k2 (by decide), ?_⟩
  try simp only [aI_wAL, fI_wAL, aL_wA, aL_wF, aI_wA_ne, aI_wF_ne, fI_wA_ne, fI_wF_ne, fI_wF_nk, aL_wAL_ne, J_sameA, J_sameF, aL_same, not_false_eq_true, Nat.reduceEqDiff, Nat.reduceAdd]
  exact w
theorem m241 {X : Cst} {d : Nat} {h : AH} {Q : Post} (C : Lay h) (hd : 1 ≤ d) (c : 0 ≤ fI h 256 18 - 1 ∧ fI h 256 18 - 1 < 64) (k : Q (some (.long (aL h 264 (fI h 256 18 - 1)))) (wF h 256 18 (fI h 256 18 - 1))) : Ex X PG d 241 0 [some (.ref 256)] [] h Q := by
  obtain ⟨d, rfl⟩ : ∃ e, d = e + 1 := ⟨d - 1, by omega⟩
  exact r241_0 C ⟨c, k⟩
