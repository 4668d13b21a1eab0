/-! RULES as the reference reads them: terms, sums, comparisons. -/
theorem mrk_see {tp : Int → Int} {L j c : Int} (B : BT tp) (h0 : 0 ≤ j) (hL : L ≤ 400) (hc : 0 ≤ c ∧ c < 128) : seeV tp L j = c ↔ mrk tp L j c := (seeV_is (tp := tp) (L := L) (j := j) B h0 hL).1 c hc.1 hc.2
/-- the token behind a mark of one byte -/
theorem nx_mk {tp : Int → Int} {L j c : Int} (m : mrk tp L j c) (nd : ¬ dgP c) (nl : ¬ leP c) (nw : ¬ wdn tp L j) : nx tp L j = skp tp L (j + 1) := by
  unfold nx tkS
  rw [pI_neg (by have := m.1; omega), m.2, pI_neg nd, pI_neg nl, pI_neg nw]
theorem nx_mk2 {tp : Int → Int} {L j c : Int} (m : mrk tp L j c) (nd : ¬ dgP c) (nl : ¬ leP c) (nw : wdn tp L j) : nx tp L j = skp tp L (j + 2) := by
  unfold nx tkS
  rw [pI_neg (by have := m.1; omega), m.2, pI_neg nd, pI_neg nl, pI_pos nw]
theorem RP.st {h : AH} {tp : Int → Int} {L j p i : Int} {c : Cd} {t : Nat} (R : RP h tp L j p c t) (ht : t < 6) (hc : c.length ≤ 400) (hi : 0 ≤ i ∧ i ≤ L) : RP (wF h 256 8 i) tp L (skp tp L i) p c t := by
  have kj := R.1.j
  have F : Fr TNx h (wF h 256 8 i) := Fr.rf.wF (by unfold TNx; omega)
  exact R.nx ht hc F (R.1.nx F (fI_wF_eq (by omega)) hi)
-- OutwardDoorsModel.term()Z at 0
set_option maxRecDepth 20000 in
set_option maxHeartbeats 4000000 in
theorem r193_0 {X : Cst} {d : Nat}  {h : AH} {Q : Post} (C_h : Lay h)
  (w : Ex X PG d 194 0 [some (.ref 256), none, none] [] h (fun v1 h2 => ∃ r3 : Int, (-2147483648 ≤ r3 ∧ r3 < 2147483648) ∧ v1 = some (.int (J r3)) ∧ SH h h2 ∧ ((¬ r3 = 0 → Ex X PG (d + 1) 193 9 [some (.ref 256), none] [] h2 Q) ∧ (r3 = 0 → Q (some (.int (J 0))) h2)))) :
    Ex X PG (d + 1) 193 0 [some (.ref 256), none] [] h Q := by
  refine wpx_ok (cut := [9, 36, 75]) 5 d 193 0 _ _ _ _ ?_
  show hs h 256 = (0, 11) ∧ Ex X PG d 194 0 [some (.ref 256), none, none] [] h (fun v1 h2 => ∃ r3, v1 = some (.int r3) ∧ ((¬ r3 = (J 0) → Ex X PG (d + 1) 193 9 [some (.ref 256), none] [] h2 Q) ∧ (¬ (¬ r3 = (J 0)) → (J 0 = J 0 ∨ J 0 = J 1) ∧ Q (some (.int (J 0))) h2)))
  try simp only [aI_wAL, fI_wAL, aL_wA, aL_wF, aI_wA_ne, aI_wF_ne, fI_wA_ne, fI_wF_ne, fI_wF_nk, aL_wAL_ne, J_sameA, J_sameF, aL_same, Nat.add_left_cancel_iff, Nat.add_eq_left, Nat.left_eq_add, not_false_eq_true, Nat.reduceEqDiff, Nat.reduceAdd, J_add, J_sub, J_mul, J_neg, J_and, J_or, J_xor, J_shl, J_shr, J_div, J_i2b, J_i2l, J_l2i, J_lcm, J_max, J_min, J_nab, J_nao, rdA, rdF, rdL, wA_fold, wF_fold, wL_fold, wC_fold]
  refine ⟨(ls256 C_h), ?_⟩
  refine Ex.mono w (Nat.le_refl _) ?_
  rintro v1 h2 ⟨r3, gr3, rfl, s6, w⟩
  refine ⟨_, rfl, ?_⟩
  have C_h2 := Lay_SH s6 C_h
  try simp only [aI_wAL, fI_wAL, aL_wA, aL_wF, aI_wA_ne, aI_wF_ne, fI_wA_ne, fI_wF_ne, fI_wF_nk, aL_wAL_ne, J_sameA, J_sameF, aL_same, Nat.add_left_cancel_iff, Nat.add_eq_left, Nat.left_eq_add, not_false_eq_true, Nat.reduceEqDiff, Nat.reduceAdd, J_add, J_sub, J_mul, J_neg, J_and, J_or, J_xor, J_shl, J_shr, J_div, J_i2b, J_i2l, J_l2i, J_lcm, J_max, J_min, J_nab, J_nao, rdA, rdF, rdL, wA_fold, wF_fold, wL_fold, wC_fold]
  refine ⟨fun c4 => ?_, fun c4 => ?_⟩
  · have t5 : ¬ r3 = 0 := (fun e => c4 ((Jeq gr3 (by decide)).mpr e))
    replace w := w.1 t5
    exact w
  · have t5 : r3 = 0 := ((Jeq gr3 (by decide)).mp (Classical.byContradiction c4))
    replace w := w.2 t5
    exact ⟨(Or.inl (by trivial)), w⟩
-- OutwardDoorsModel.term()Z at 9
set_option maxRecDepth 20000 in
set_option maxHeartbeats 4000000 in
theorem r193_9 {X : Cst} {d : Nat} {l1 : Option Value} {h : AH} {Q : Post} (C_h : Lay h)
  (w : Ex X PG d 175 0 [some (.ref 256)] [] h (fun v1 h2 => ∃ r3 : Int, (-2147483648 ≤ r3 ∧ r3 < 2147483648) ∧ v1 = some (.int (J r3)) ∧ SH h h2 ∧ ((r3 = 42 → Ex X PG (d + 1) 193 36 [some (.ref 256), l1] [] h2 Q) ∧ (¬ r3 = 42 → Ex X PG d 175 0 [some (.ref 256)] [] h2 (fun v6 h7 => ∃ r8 : Int, (-2147483648 ≤ r8 ∧ r8 < 2147483648) ∧ v6 = some (.int (J r8)) ∧ SH h2 h7 ∧ ((r8 = 47 → Ex X PG (d + 1) 193 36 [some (.ref 256), l1] [] h7 Q) ∧ (¬ r8 = 47 → Ex X PG d 175 0 [some (.ref 256)] [] h7 (fun v11 h12 => ∃ r13 : Int, (-2147483648 ≤ r13 ∧ r13 < 2147483648) ∧ v11 = some (.int (J r13)) ∧ SH h7 h12 ∧ ((¬ r13 = 37 → Q (some (.int (J 1))) h12) ∧ (r13 = 37 → Ex X PG (d + 1) 193 36 [some (.ref 256), l1] [] h12 Q)))))))))) :
    Ex X PG (d + 1) 193 9 [some (.ref 256), l1] [] h Q := by
  refine wpx_ok (cut := [9, 36, 75]) 14 d 193 9 _ _ _ _ ?_
  show hs h 256 = (0, 11) ∧ Ex X PG d 175 0 [some (.ref 256)] [] h (fun v1 h2 => ∃ r3, v1 = some (.int r3) ∧ ((r3 = (J 42) → Ex X PG (d + 1) 193 36 [some (.ref 256), l1] [] h2 Q) ∧ (¬ (r3 = (J 42)) → hs h2 256 = (0, 11) ∧ Ex X PG d 175 0 [some (.ref 256)] [] h2 (fun v6 h7 => ∃ r8, v6 = some (.int r8) ∧ ((r8 = (J 47) → Ex X PG (d + 1) 193 36 [some (.ref 256), l1] [] h7 Q) ∧ (¬ (r8 = (J 47)) → hs h7 256 = (0, 11) ∧ Ex X PG d 175 0 [some (.ref 256)] [] h7 (fun v11 h12 => ∃ r13, v11 = some (.int r13) ∧ ((¬ r13 = (J 37) → (J 1 = J 0 ∨ J 1 = J 1) ∧ Q (some (.int (J 1))) h12) ∧ (¬ (¬ r13 = (J 37)) → Ex X PG (d + 1) 193 36 [some (.ref 256), l1] [] h12 Q)))))))))
  try simp only [aI_wAL, fI_wAL, aL_wA, aL_wF, aI_wA_ne, aI_wF_ne, fI_wA_ne, fI_wF_ne, fI_wF_nk, aL_wAL_ne, J_sameA, J_sameF, aL_same, Nat.add_left_cancel_iff, Nat.add_eq_left, Nat.left_eq_add, not_false_eq_true, Nat.reduceEqDiff, Nat.reduceAdd, J_add, J_sub, J_mul, J_neg, J_and, J_or, J_xor, J_shl, J_shr, J_div, J_i2b, J_i2l, J_l2i, J_lcm, J_max, J_min, J_nab, J_nao, rdA, rdF, rdL, wA_fold, wF_fold, wL_fold, wC_fold]
  refine ⟨(ls256 C_h), ?_⟩
  refine Ex.mono w (Nat.le_refl _) ?_
  rintro v1 h2 ⟨r3, gr3, rfl, s18, w⟩
  refine ⟨_, rfl, ?_⟩
  have C_h2 := Lay_SH s18 C_h
  try simp only [aI_wAL, fI_wAL, aL_wA, aL_wF, aI_wA_ne, aI_wF_ne, fI_wA_ne, fI_wF_ne, fI_wF_nk, aL_wAL_ne, J_sameA, J_sameF, aL_same, Nat.add_left_cancel_iff, Nat.add_eq_left, Nat.left_eq_add, not_false_eq_true, Nat.reduceEqDiff, Nat.reduceAdd, J_add, J_sub, J_mul, J_neg, J_and, J_or, J_xor, J_shl, J_shr, J_div, J_i2b, J_i2l, J_l2i, J_lcm, J_max, J_min, J_nab, J_nao, rdA, rdF, rdL, wA_fold, wF_fold, wL_fold, wC_fold]
  refine ⟨fun c4 => ?_, fun c4 => ?_⟩
  · have t5 : r3 = 42 := ((Jeq gr3 (by decide)).mp c4)
    replace w := w.1 t5
    exact w
  · have t5 : ¬ r3 = 42 := (fun e => c4 ((Jeq gr3 (by decide)).mpr e))
    replace w := w.2 t5
    refine ⟨(ls256 C_h2), ?_⟩
    refine Ex.mono w (Nat.le_refl _) ?_
    rintro v6 h7 ⟨r8, gr8, rfl, s17, w⟩
    refine ⟨_, rfl, ?_⟩
    have C_h7 := Lay_SH s17 C_h2
    try simp only [aI_wAL, fI_wAL, aL_wA, aL_wF, aI_wA_ne, aI_wF_ne, fI_wA_ne, fI_wF_ne, fI_wF_nk, aL_wAL_ne, J_sameA, J_sameF, aL_same, Nat.add_left_cancel_iff, Nat.add_eq_left, Nat.left_eq_add, not_false_eq_true, Nat.reduceEqDiff, Nat.reduceAdd, J_add, J_sub, J_mul, J_neg, J_and, J_or, J_xor, J_shl, J_shr, J_div, J_i2b, J_i2l, J_l2i, J_lcm, J_max, J_min, J_nab, J_nao, rdA, rdF, rdL, wA_fold, wF_fold, wL_fold, wC_fold]
    refine ⟨fun c9 => ?_, fun c9 => ?_⟩
    · have t10 : r8 = 47 := ((Jeq gr8 (by decide)).mp c9)
      replace w := w.1 t10
      exact w
    · have t10 : ¬ r8 = 47 := (fun e => c9 ((Jeq gr8 (by decide)).mpr e))
      replace w := w.2 t10
      refine ⟨(ls256 C_h7), ?_⟩
      refine Ex.mono w (Nat.le_refl _) ?_
      rintro v11 h12 ⟨r13, gr13, rfl, s16, w⟩
      refine ⟨_, rfl, ?_⟩
      have C_h12 := Lay_SH s16 C_h7
      try simp only [aI_wAL, fI_wAL, aL_wA, aL_wF, aI_wA_ne, aI_wF_ne, fI_wA_ne, fI_wF_ne, fI_wF_nk, aL_wAL_ne, J_sameA, J_sameF, aL_same, Nat.add_left_cancel_iff, Nat.add_eq_left, Nat.left_eq_add, not_false_eq_true, Nat.reduceEqDiff, Nat.reduceAdd, J_add, J_sub, J_mul, J_neg, J_and, J_or, J_xor, J_shl, J_shr, J_div, J_i2b, J_i2l, J_l2i, J_lcm, J_max, J_min, J_nab, J_nao, rdA, rdF, rdL, wA_fold, wF_fold, wL_fold, wC_fold]
      refine ⟨fun c14 => ?_, fun c14 => ?_⟩
      · have t15 : ¬ r13 = 37 := (fun e => c14 ((Jeq gr13 (by decide)).mpr e))
        replace w := w.1 t15
        exact ⟨(Or.inr (by trivial)), w⟩
      · have t15 : r13 = 37 := ((Jeq gr13 (by decide)).mp (Classical.byContradiction c14))
        replace w := w.2 t15
        exact w
-- OutwardDoorsModel.term()Z at 36
set_option maxRecDepth 20000 in
set_option maxHeartbeats 4000000 in
theorem r193_36 {X : Cst} {d : Nat} {l1 : Option Value} {h : AH} {Q : Post} (C_h : Lay h)
  (w : (0 ≤ fI h 256 8 ∧ fI h 256 8 < 400) ∧ ((¬ aI h 257 (fI h 256 8) = 42 → ((¬ aI h 257 (fI h 256 8) = 47 → Ex X PG (d + 1) 193 75 [some (.ref 256), some (.int (J 14))] [] h Q) ∧ (aI h 257 (fI h 256 8) = 47 → Ex X PG (d + 1) 193 75 [some (.ref 256), some (.int (J 5))] [] h Q))) ∧ (aI h 257 (fI h 256 8) = 42 → Ex X PG (d + 1) 193 75 [some (.ref 256), some (.int (J 4))] [] h Q))) :
    Ex X PG (d + 1) 193 36 [some (.ref 256), l1] [] h Q := by
  refine wpx_ok (cut := [9, 36, 75]) 17 d 193 36 _ _ _ _ ?_
  show hs h 256 = (0, 11) ∧ ∃ q1, hR h 256 0 = some q1 ∧ hs h 256 = (0, 11) ∧ ((hs h q1).1 = 3 ∨ (hs h q1).1 = 4) ∧ ix (hF h 256 8) (hs h q1).2 ∧ ((¬ (hI h q1 (Int32.toNatClampNeg (hF h 256 8))) = (J 42) → hs h 256 = (0, 11) ∧ ∃ q5, hR h 256 0 = some q5 ∧ hs h 256 = (0, 11) ∧ ((hs h q5).1 = 3 ∨ (hs h q5).1 = 4) ∧ ix (hF h 256 8) (hs h q5).2 ∧ ((¬ (hI h q5 (Int32.toNatClampNeg (hF h 256 8))) = (J 47) → Ex X PG (d + 1) 193 75 [some (.ref 256), some (.int (J 14))] [] h Q) ∧ (¬ (¬ (hI h q5 (Int32.toNatClampNeg (hF h 256 8))) = (J 47)) → Ex X PG (d + 1) 193 75 [some (.ref 256), some (.int (J 5))] [] h Q))) ∧ (¬ (¬ (hI h q1 (Int32.toNatClampNeg (hF h 256 8))) = (J 42)) → Ex X PG (d + 1) 193 75 [some (.ref 256), some (.int (J 4))] [] h Q))
  try simp only [aI_wAL, fI_wAL, aL_wA, aL_wF, aI_wA_ne, aI_wF_ne, fI_wA_ne, fI_wF_ne, fI_wF_nk, aL_wAL_ne, J_sameA, J_sameF, aL_same, Nat.add_left_cancel_iff, Nat.add_eq_left, Nat.left_eq_add, not_false_eq_true, Nat.reduceEqDiff, Nat.reduceAdd, J_add, J_sub, J_mul, J_neg, J_and, J_or, J_xor, J_shl, J_shr, J_div, J_i2b, J_i2l, J_l2i, J_lcm, J_max, J_min, J_nab, J_nao, rdA, rdF, rdL, wA_fold, wF_fold, wL_fold, wC_fold]
  refine ⟨(ls256 C_h), _, (lr256_0 C_h), ?_⟩
  refine ⟨(ls256 C_h), ?_⟩
  obtain ⟨k2, w⟩ := w
  refine ⟨Or.inl (congrArg Prod.fst (ls257 C_h)), ixs (ls257 C_h) k2 (by decide), ?_⟩
  refine ⟨fun c3 => ?_, fun c3 => ?_⟩
  · have t4 : ¬ aI h 257 (fI h 256 8) = 42 := (fun e => c3 ((Jeq (rg_toInt _) (by decide)).mpr e))
    replace w := w.1 t4
    refine ⟨(ls256 C_h), _, (lr256_0 C_h), ?_⟩
    refine ⟨(ls256 C_h), ?_⟩
    refine ⟨Or.inl (congrArg Prod.fst (ls257 C_h)), ixs (ls257 C_h) k2 (by decide), ?_⟩
    refine ⟨fun c6 => ?_, fun c6 => ?_⟩
    · have t7 : ¬ aI h 257 (fI h 256 8) = 47 := (fun e => c6 ((Jeq (rg_toInt _) (by decide)).mpr e))
      replace w := w.1 t7
      exact w
    · have t7 : aI h 257 (fI h 256 8) = 47 := ((Jeq (rg_toInt _) (by decide)).mp (Classical.byContradiction c6))
      replace w := w.2 t7
      exact w
  · have t4 : aI h 257 (fI h 256 8) = 42 := ((Jeq (rg_toInt _) (by decide)).mp (Classical.byContradiction c3))
    replace w := w.2 t4
    exact w
-- OutwardDoorsModel.term()Z at 75
set_option maxRecDepth 20000 in
set_option maxHeartbeats 4000000 in
theorem r193_75 {X : Cst} {d : Nat} {x1 : Int} {h : AH} {Q : Post} (C_h : Lay h)
  (w : Ex X PG d 194 0 [some (.ref 256), none, none] [] (wF h 256 8 ((fI h 256 8) + 1)) (fun v1 h2 => ∃ r3 : Int, (-2147483648 ≤ r3 ∧ r3 < 2147483648) ∧ v1 = some (.int (J r3)) ∧ SH (wF h 256 8 ((fI h 256 8) + 1)) h2 ∧ ((¬ r3 = 0 → Ex X PG d 196 0 [some (.ref 256), some (.int (J x1)), some (.int (J 0))] [] h2 (fun v6 h7 => v6 = none ∧ SH h2 h7 ∧ Ex X PG (d + 1) 193 9 [some (.ref 256), some (.int (J x1))] [] h7 Q)) ∧ (r3 = 0 → Q (some (.int (J 0))) h2)))) :
    Ex X PG (d + 1) 193 75 [some (.ref 256), some (.int (J x1))] [] h Q := by
  refine wpx_ok (cut := [9, 36, 75]) 14 d 193 75 _ _ _ _ ?_
  show hs h 256 = (0, 11) ∧ hs h 256 = (0, 11) ∧ hs (wG h 256 8 ((hF h 256 8) + (J 1))) 256 = (0, 11) ∧ Ex X PG d 194 0 [some (.ref 256), none, none] [] (wG h 256 8 ((hF h 256 8) + (J 1))) (fun v1 h2 => ∃ r3, v1 = some (.int r3) ∧ ((¬ r3 = (J 0) → hs h2 256 = (0, 11) ∧ Ex X PG d 196 0 [some (.ref 256), some (.int (J x1)), some (.int (J 0))] [] h2 (fun v6 h7 => v6 = none ∧ Ex X PG (d + 1) 193 9 [some (.ref 256), some (.int (J x1))] [] h7 Q)) ∧ (¬ (¬ r3 = (J 0)) → (J 0 = J 0 ∨ J 0 = J 1) ∧ Q (some (.int (J 0))) h2)))
  try simp only [aI_wAL, fI_wAL, aL_wA, aL_wF, aI_wA_ne, aI_wF_ne, fI_wA_ne, fI_wF_ne, fI_wF_nk, aL_wAL_ne, J_sameA, J_sameF, aL_same, Nat.add_left_cancel_iff, Nat.add_eq_left, Nat.left_eq_add, not_false_eq_true, Nat.reduceEqDiff, Nat.reduceAdd, J_add, J_sub, J_mul, J_neg, J_and, J_or, J_xor, J_shl, J_shr, J_div, J_i2b, J_i2l, J_l2i, J_lcm, J_max, J_min, J_nab, J_nao, rdA, rdF, rdL, wA_fold, wF_fold, wL_fold, wC_fold]
  refine ⟨(ls256 C_h), ?_⟩
  refine ⟨(ls256 C_h), ?_⟩
  refine ⟨(ls256 C_h), ?_⟩
  refine Ex.mono w (Nat.le_refl _) ?_
  rintro v1 h2 ⟨r3, gr3, rfl, s9, w⟩
  refine ⟨_, rfl, ?_⟩
  have C_h2 := Lay_SH s9 C_h
  try simp only [aI_wAL, fI_wAL, aL_wA, aL_wF, aI_wA_ne, aI_wF_ne, fI_wA_ne, fI_wF_ne, fI_wF_nk, aL_wAL_ne, J_sameA, J_sameF, aL_same, Nat.add_left_cancel_iff, Nat.add_eq_left, Nat.left_eq_add, not_false_eq_true, Nat.reduceEqDiff, Nat.reduceAdd, J_add, J_sub, J_mul, J_neg, J_and, J_or, J_xor, J_shl, J_shr, J_div, J_i2b, J_i2l, J_l2i, J_lcm, J_max, J_min, J_nab, J_nao, rdA, rdF, rdL, wA_fold, wF_fold, wL_fold, wC_fold]
  refine ⟨fun c4 => ?_, fun c4 => ?_⟩
  · have t5 : ¬ r3 = 0 := (fun e => c4 ((Jeq gr3 (by decide)).mpr e))
    replace w := w.1 t5
    refine ⟨(ls256 C_h2), ?_⟩
    refine Ex.mono w (Nat.le_refl _) ?_
    rintro v6 h7 ⟨rfl, s8, w⟩
    refine ⟨rfl, ?_⟩
    have C_h7 := Lay_SH s8 C_h2
    try simp only [aI_wAL, fI_wAL, aL_wA, aL_wF, aI_wA_ne, aI_wF_ne, fI_wA_ne, fI_wF_ne, fI_wF_nk, aL_wAL_ne, J_sameA, J_sameF, aL_same, Nat.add_left_cancel_iff, Nat.add_eq_left, Nat.left_eq_add, not_false_eq_true, Nat.reduceEqDiff, Nat.reduceAdd, J_add, J_sub, J_mul, J_neg, J_and, J_or, J_xor, J_shl, J_shr, J_div, J_i2b, J_i2l, J_l2i, J_lcm, J_max, J_min, J_nab, J_nao, rdA, rdF, rdL, wA_fold, wF_fold, wL_fold, wC_fold]
    exact w
  · have t5 : r3 = 0 := ((Jeq gr3 (by decide)).mp (Classical.byContradiction c4))
    replace w := w.2 t5
    exact ⟨(Or.inl (by trivial)), w⟩
theorem q193 {X : Cst} {d t : Nat} {L : Int} {tp : Int → Int} {h : AH} {Q : Post} (C : Lay h) (hd : 4 ≤ d) (B : BT tp) (ht : t < 6) :
    ∀ (n : Nat) (j p : Int) (c : Cd) (l : Option Value) (h' : AH), 61 ≤ n + p → 0 ≤ p ∧ p ≤ 60 → Fr (TRz t) h h' → RP h' tp L j p c t → (c.length : Int) ≤ j → RQs h tp L t (tmR tp L n j p c) Q → Ex X PG (d + 1) 193 9 [some (.ref 256), l] [] h' Q := by
  intro n
  induction n with
  | zero => intro j p c l h' hn hp; omega
  | succ n ih =>
    intro j p c l h' hn hp F R hc k
    have kj := R.1.j
    have C' := F.C C
    have sv := (seeV_is (tp := tp) (L := L) (j := j) B kj.1 kj.2.2.1).2.2
    have nb := nx_b (tp := tp) (L := L) (j := j) kj.1 kj.2.1
    have i42 := mrk_see (c := 42) B kj.1 kj.2.2.1 (by omega)
    have i47 := mrk_see (c := 47) B kj.1 kj.2.2.1 (by omega)
    have i37 := mrk_see (c := 37) B kj.1 kj.2.2.1 (by omega)
    have k : RQs h tp L t (pI (tmO tp L j = 0) (0, j, p, c) (bn (vl tp L (nx tp L j) p c) fun j1 p1 c1 => tmR tp L n j1 p1 (c1 ++ [(tmO tp L j, 0)]))) Q := k
    -- the mark o, and what follows it
    have go : ∀ (m o : Int) (h2 : AH), Fr (TRz t) h h2 → RP h2 tp L j p c t → fI h2 256 8 = j → mrk tp L j m → (m = 42 ∨ m = 47 ∨ m = 37) → tmO tp L j = o → ¬ o = 0 → Ex X PG (d + 1) 193 75 [some (.ref 256), some (.int (J o))] [] h2 Q := by
      intro m o h2 F2 R2 e8 mm hm eo no
      have ob := (tmO_b (tp := tp) (L := L) (j := j)).2
      rw [eo] at k ob
      rw [pI_neg no] at k
      have C2 := F2.C C
      refine r193_75 C2 ?_
      rw [e8]
      have lt := mm.1
      have R3 := R2.st (i := j + 1) ht (by omega) (by omega)
      rw [← nx_mk mm (by unfold dgP; omega) (by unfold leP; omega) (by unfold wdn; rw [mm.2]; omega)] at R3
      have F3 : Fr (TRz t) h (wF h2 256 8 (j + 1)) := F2.wF (by unfold TRz TRp; omega)
      refine m194 (Lay_SH SH.rf.wF C2) (by omega) B ht R3 (by omega) hp ⟨fun e h4 F4 R4 => ⟨1, by omega, rfl, F4.1, fun _ => ?_, fun z => absurd z (by decide)⟩, fun e h4 F4 e9 => ⟨0, by omega, rfl, F4.1, fun z => absurd rfl z, fun _ => ?_⟩⟩
      · rw [bn_pos e] at k
        have g := Gd_vl (tp := tp) (c := c) (by omega) nb.2.1 hp.2 e
        obtain ⟨g1, g2, dd, g3, g4, -⟩ := g
        generalize (vl tp L (nx tp L j) p c).2.1 = j1 at *
        generalize (vl tp L (nx tp L j) p c).2.2.1 = p1 at *
        generalize (vl tp L (nx tp L j) p c).2.2.2 = c1 at *
        have cl : (c1.length : Int) + 1 ≤ j1 := by rw [g3, List.length_append]; omega
        have F4a := F3.tr F4
        refine m196 (c := c1) (F4a.C C) (by omega) ht R4.2.2.1 R4.2.2.2 (by omega) (by omega) (fun h5 F5 G5 => ⟨rfl, F5.1, ?_⟩)
        exact ih j1 p1 _ _ h5 (by omega) (by omega) (F4a.tr (F5.mo (fun _ _ z => Or.inr z))) (R4.put F5 G5) (by rw [len_ap]; omega) k
      · rw [bn_neg e] at k
        exact k.bad e (F3.tr F4) e9
    -- which mark
    have wh : ∀ (h2 : AH), Fr (TRz t) h h2 → RP h2 tp L j p c t → fI h2 256 8 = j → (mrk tp L j 42 ∨ mrk tp L j 47 ∨ mrk tp L j 37) → Ex X PG (d + 1) 193 36 [some (.ref 256), l] [] h2 Q := by
      intro h2 F2 R2 e8 mm
      have lt : j < L := by rcases mm with z | z | z <;> exact z.1
      refine r193_36 (F2.C C) ?_
      rw [e8, R2.1.1]
      refine ⟨by omega, fun c1 => ⟨fun c2 => ?_, fun c2 => ?_⟩, fun c1 => ?_⟩
      · have m37 : mrk tp L j 37 := by rcases mm with z | z | z; exact absurd z.2 c1; exact absurd z.2 c2; exact z
        refine go 37 14 h2 F2 R2 e8 m37 (by omega) ?_ (by omega)
        unfold tmO; rw [pI_neg (fun z => c1 z.2), pI_neg (fun z => c2 z.2), pI_pos m37]
      · refine go 47 5 h2 F2 R2 e8 ⟨lt, c2⟩ (by omega) ?_ (by omega)
        unfold tmO; rw [pI_neg (fun z => c1 z.2), pI_pos ⟨lt, c2⟩]
      · refine go 42 4 h2 F2 R2 e8 ⟨lt, c1⟩ (by omega) ?_ (by omega)
        unfold tmO; rw [pI_pos ⟨lt, c1⟩]
    refine r193_9 C' ?_
    refine m175 C' (by omega) R.1 (fun h2 F2 K2 e2 => ⟨_, by omega, rfl, F2.1, fun c1 => ?_, fun c1 => ?_⟩)
    · exact wh h2 (F.tr (F2.mo (fun _ _ => TNx_s))) (R.nx ht (by omega) F2 K2) e2 (Or.inl (i42.mp c1))
    have R2 := R.nx ht (by omega) F2 K2
    have G2 := F.tr (F2.mo (fun _ _ => TNx_s))
    refine m175 (G2.C C) (by omega) K2 (fun h3 F3 K3 e3 => ⟨_, by omega, rfl, F3.1, fun c2 => ?_, fun c2 => ?_⟩)
    · exact wh h3 (G2.tr (F3.mo (fun _ _ => TNx_s))) (R2.nx ht (by omega) F3 K3) e3 (Or.inr (Or.inl (i47.mp c2)))
    have R3 := R2.nx ht (by omega) F3 K3
    have G3 := G2.tr (F3.mo (fun _ _ => TNx_s))
    refine m175 (G3.C C) (by omega) K3 (fun h4 F4 K4 e4 => ⟨_, by omega, rfl, F4.1, fun c3 => ?_, fun c3 => ?_⟩)
    · have z : tmO tp L j = 0 := by unfold tmO; rw [pI_neg (fun z => c1 (i42.mpr z)), pI_neg (fun z => c2 (i47.mpr z)), pI_neg (fun z => c3 (i37.mpr z))]
      rw [pI_pos z] at k
      exact k.1 rfl h4 (G3.tr (F4.mo (fun _ _ => TNx_s))) (R3.nx ht (by omega) F4 K4)
    · exact wh h4 (G3.tr (F4.mo (fun _ _ => TNx_s))) (R3.nx ht (by omega) F4 K4) e4 (Or.inr (Or.inr (i37.mp c3)))
theorem m193 {X : Cst} {d t : Nat} {L j p : Int} {tp : Int → Int} {c : Cd} {h : AH} {Q : Post} (C : Lay h) (hd : 5 ≤ d) (B : BT tp) (ht : t < 6) (R : RP h tp L j p c t) (hc : (c.length : Int) ≤ j) (hp : 0 ≤ p ∧ p ≤ 60) (k : RQs h tp L t (tm tp L j p c) Q) : Ex X PG d 193 0 [some (.ref 256), none] [] h Q := by
  obtain ⟨d, rfl⟩ : ∃ e, d = e + 1 := ⟨d - 1, by omega⟩
  have kj := R.1.j
  unfold tm at k
  refine r193_0 C ?_
  refine m194 C (by omega) B ht R hc hp ⟨fun e h4 F4 R4 => ⟨1, by omega, rfl, F4.1, fun _ => ?_, fun z => absurd z (by decide)⟩, fun e h4 F4 e9 => ⟨0, by omega, rfl, F4.1, fun z => absurd rfl z, fun _ => ?_⟩⟩
  · rw [bn_pos e] at k
    obtain ⟨g1, g2, dd, g3, g4, -⟩ := Gd_vl (tp := tp) (c := c) kj.1 kj.2.1 hp.2 e
    exact q193 C (by omega) B ht 61 _ _ _ _ h4 (by omega) (by omega) F4 R4 (by rw [g3, List.length_append]; omega) k
  · rw [bn_neg e] at k
    exact k.bad e F4 e9
-- OutwardDoorsModel.sum()Z at 0
set_option maxRecDepth 20000 in
set_option maxHeartbeats 4000000 in
theorem r192_0 {X : Cst} {d : Nat}  {h : AH} {Q : Post} (C_h : Lay h)
  (w : Ex X PG d 193 0 [some (.ref 256), none] [] h (fun v1 h2 => ∃ r3 : Int, (-2147483648 ≤ r3 ∧ r3 < 2147483648) ∧ v1 = some (.int (J r3)) ∧ SH h h2 ∧ ((¬ r3 = 0 → Ex X PG (d + 1) 192 9 [some (.ref 256), none] [] h2 Q) ∧ (r3 = 0 → Q (some (.int (J 0))) h2)))) :
    Ex X PG (d + 1) 192 0 [some (.ref 256), none] [] h Q := by
  refine wpx_ok (cut := [9, 27, 47]) 5 d 192 0 _ _ _ _ ?_
  show hs h 256 = (0, 11) ∧ Ex X PG d 193 0 [some (.ref 256), none] [] h (fun v1 h2 => ∃ r3, v1 = some (.int r3) ∧ ((¬ r3 = (J 0) → Ex X PG (d + 1) 192 9 [some (.ref 256), none] [] h2 Q) ∧ (¬ (¬ r3 = (J 0)) → (J 0 = J 0 ∨ J 0 = J 1) ∧ Q (some (.int (J 0))) h2)))
  try simp only [aI_wAL, fI_wAL, aL_wA, aL_wF, aI_wA_ne, aI_wF_ne, fI_wA_ne, fI_wF_ne, fI_wF_nk, aL_wAL_ne, J_sameA, J_sameF, aL_same, Nat.add_left_cancel_iff, Nat.add_eq_left, Nat.left_eq_add, not_false_eq_true, Nat.reduceEqDiff, Nat.reduceAdd, J_add, J_sub, J_mul, J_neg, J_and, J_or, J_xor, J_shl, J_shr, J_div, J_i2b, J_i2l, J_l2i, J_lcm, J_max, J_min, J_nab, J_nao, rdA, rdF, rdL, wA_fold, wF_fold, wL_fold, wC_fold]
  refine ⟨(ls256 C_h), ?_⟩
  refine Ex.mono w (Nat.le_refl _) ?_
  rintro v1 h2 ⟨r3, gr3, rfl, s6, w⟩
  refine ⟨_, rfl, ?_⟩
  have C_h2 := Lay_SH s6 C_h
  try simp only [aI_wAL, fI_wAL, aL_wA, aL_wF, aI_wA_ne, aI_wF_ne, fI_wA_ne, fI_wF_ne, fI_wF_nk, aL_wAL_ne, J_sameA, J_sameF, aL_same, Nat.add_left_cancel_iff, Nat.add_eq_left, Nat.left_eq_add, not_false_eq_true, Nat.reduceEqDiff, Nat.reduceAdd, J_add, J_sub, J_mul, J_neg, J_and, J_or, J_xor, J_shl, J_shr, J_div, J_i2b, J_i2l, J_l2i, J_lcm, J_max, J_min, J_nab, J_nao, rdA, rdF, rdL, wA_fold, wF_fold, wL_fold, wC_fold]
  refine ⟨fun c4 => ?_, fun c4 => ?_⟩
  · have t5 : ¬ r3 = 0 := (fun e => c4 ((Jeq gr3 (by decide)).mpr e))
    replace w := w.1 t5
    exact w
  · have t5 : r3 = 0 := ((Jeq gr3 (by decide)).mp (Classical.byContradiction c4))
    replace w := w.2 t5
    exact ⟨(Or.inl (by trivial)), w⟩
-- OutwardDoorsModel.sum()Z at 9
set_option maxRecDepth 20000 in
set_option maxHeartbeats 4000000 in
theorem r192_9 {X : Cst} {d : Nat} {l1 : Option Value} {h : AH} {Q : Post} (C_h : Lay h)
  (w : Ex X PG d 175 0 [some (.ref 256)] [] h (fun v1 h2 => ∃ r3 : Int, (-2147483648 ≤ r3 ∧ r3 < 2147483648) ∧ v1 = some (.int (J r3)) ∧ SH h h2 ∧ ((r3 = 43 → Ex X PG (d + 1) 192 27 [some (.ref 256), l1] [] h2 Q) ∧ (¬ r3 = 43 → Ex X PG d 175 0 [some (.ref 256)] [] h2 (fun v6 h7 => ∃ r8 : Int, (-2147483648 ≤ r8 ∧ r8 < 2147483648) ∧ v6 = some (.int (J r8)) ∧ SH h2 h7 ∧ ((¬ r8 = 45 → Q (some (.int (J 1))) h7) ∧ (r8 = 45 → Ex X PG (d + 1) 192 27 [some (.ref 256), l1] [] h7 Q))))))) :
    Ex X PG (d + 1) 192 9 [some (.ref 256), l1] [] h Q := by
  refine wpx_ok (cut := [9, 27, 47]) 10 d 192 9 _ _ _ _ ?_
  show hs h 256 = (0, 11) ∧ Ex X PG d 175 0 [some (.ref 256)] [] h (fun v1 h2 => ∃ r3, v1 = some (.int r3) ∧ ((r3 = (J 43) → Ex X PG (d + 1) 192 27 [some (.ref 256), l1] [] h2 Q) ∧ (¬ (r3 = (J 43)) → hs h2 256 = (0, 11) ∧ Ex X PG d 175 0 [some (.ref 256)] [] h2 (fun v6 h7 => ∃ r8, v6 = some (.int r8) ∧ ((¬ r8 = (J 45) → (J 1 = J 0 ∨ J 1 = J 1) ∧ Q (some (.int (J 1))) h7) ∧ (¬ (¬ r8 = (J 45)) → Ex X PG (d + 1) 192 27 [some (.ref 256), l1] [] h7 Q))))))
  try simp only [aI_wAL, fI_wAL, aL_wA, aL_wF, aI_wA_ne, aI_wF_ne, fI_wA_ne, fI_wF_ne, fI_wF_nk, aL_wAL_ne, J_sameA, J_sameF, aL_same, Nat.add_left_cancel_iff, Nat.add_eq_left, Nat.left_eq_add, not_false_eq_true, Nat.reduceEqDiff, Nat.reduceAdd, J_add, J_sub, J_mul, J_neg, J_and, J_or, J_xor, J_shl, J_shr, J_div, J_i2b, J_i2l, J_l2i, J_lcm, J_max, J_min, J_nab, J_nao, rdA, rdF, rdL, wA_fold, wF_fold, wL_fold, wC_fold]
  refine ⟨(ls256 C_h), ?_⟩
  refine Ex.mono w (Nat.le_refl _) ?_
  rintro v1 h2 ⟨r3, gr3, rfl, s12, w⟩
  refine ⟨_, rfl, ?_⟩
  have C_h2 := Lay_SH s12 C_h
  try simp only [aI_wAL, fI_wAL, aL_wA, aL_wF, aI_wA_ne, aI_wF_ne, fI_wA_ne, fI_wF_ne, fI_wF_nk, aL_wAL_ne, J_sameA, J_sameF, aL_same, Nat.add_left_cancel_iff, Nat.add_eq_left, Nat.left_eq_add, not_false_eq_true, Nat.reduceEqDiff, Nat.reduceAdd, J_add, J_sub, J_mul, J_neg, J_and, J_or, J_xor, J_shl, J_shr, J_div, J_i2b, J_i2l, J_l2i, J_lcm, J_max, J_min, J_nab, J_nao, rdA, rdF, rdL, wA_fold, wF_fold, wL_fold, wC_fold]
  refine ⟨fun c4 => ?_, fun c4 => ?_⟩
  · have t5 : r3 = 43 := ((Jeq gr3 (by decide)).mp c4)
    replace w := w.1 t5
    exact w
  · have t5 : ¬ r3 = 43 := (fun e => c4 ((Jeq gr3 (by decide)).mpr e))
    replace w := w.2 t5
    refine ⟨(ls256 C_h2), ?_⟩
    refine Ex.mono w (Nat.le_refl _) ?_
    rintro v6 h7 ⟨r8, gr8, rfl, s11, w⟩
    refine ⟨_, rfl, ?_⟩
    have C_h7 := Lay_SH s11 C_h2
    try simp only [aI_wAL, fI_wAL, aL_wA, aL_wF, aI_wA_ne, aI_wF_ne, fI_wA_ne, fI_wF_ne, fI_wF_nk, aL_wAL_ne, J_sameA, J_sameF, aL_same, Nat.add_left_cancel_iff, Nat.add_eq_left, Nat.left_eq_add, not_false_eq_true, Nat.reduceEqDiff, Nat.reduceAdd, J_add, J_sub, J_mul, J_neg, J_and, J_or, J_xor, J_shl, J_shr, J_div, J_i2b, J_i2l, J_l2i, J_lcm, J_max, J_min, J_nab, J_nao, rdA, rdF, rdL, wA_fold, wF_fold, wL_fold, wC_fold]
    refine ⟨fun c9 => ?_, fun c9 => ?_⟩
    · have t10 : ¬ r8 = 45 := (fun e => c9 ((Jeq gr8 (by decide)).mpr e))
      replace w := w.1 t10
      exact ⟨(Or.inr (by trivial)), w⟩
    · have t10 : r8 = 45 := ((Jeq gr8 (by decide)).mp (Classical.byContradiction c9))
      replace w := w.2 t10
      exact w
-- OutwardDoorsModel.sum()Z at 27
set_option maxRecDepth 20000 in
set_option maxHeartbeats 4000000 in
theorem r192_27 {X : Cst} {d : Nat} {l1 : Option Value} {h : AH} {Q : Post} (C_h : Lay h)
  (w : (0 ≤ fI h 256 8 ∧ fI h 256 8 < 400) ∧ ((¬ aI h 257 (fI h 256 8) = 43 → Ex X PG (d + 1) 192 47 [some (.ref 256), some (.int (J 3))] [] h Q) ∧ (aI h 257 (fI h 256 8) = 43 → Ex X PG (d + 1) 192 47 [some (.ref 256), some (.int (J 2))] [] h Q))) :
    Ex X PG (d + 1) 192 27 [some (.ref 256), l1] [] h Q := by
  refine wpx_ok (cut := [9, 27, 47]) 10 d 192 27 _ _ _ _ ?_
  show hs h 256 = (0, 11) ∧ ∃ q1, hR h 256 0 = some q1 ∧ hs h 256 = (0, 11) ∧ ((hs h q1).1 = 3 ∨ (hs h q1).1 = 4) ∧ ix (hF h 256 8) (hs h q1).2 ∧ ((¬ (hI h q1 (Int32.toNatClampNeg (hF h 256 8))) = (J 43) → Ex X PG (d + 1) 192 47 [some (.ref 256), some (.int (J 3))] [] h Q) ∧ (¬ (¬ (hI h q1 (Int32.toNatClampNeg (hF h 256 8))) = (J 43)) → Ex X PG (d + 1) 192 47 [some (.ref 256), some (.int (J 2))] [] h Q))
  try simp only [aI_wAL, fI_wAL, aL_wA, aL_wF, aI_wA_ne, aI_wF_ne, fI_wA_ne, fI_wF_ne, fI_wF_nk, aL_wAL_ne, J_sameA, J_sameF, aL_same, Nat.add_left_cancel_iff, Nat.add_eq_left, Nat.left_eq_add, not_false_eq_true, Nat.reduceEqDiff, Nat.reduceAdd, J_add, J_sub, J_mul, J_neg, J_and, J_or, J_xor, J_shl, J_shr, J_div, J_i2b, J_i2l, J_l2i, J_lcm, J_max, J_min, J_nab, J_nao, rdA, rdF, rdL, wA_fold, wF_fold, wL_fold, wC_fold]
  refine ⟨(ls256 C_h), _, (lr256_0 C_h), ?_⟩
  refine ⟨(ls256 C_h), ?_⟩
  obtain ⟨k2, w⟩ := w
  refine ⟨Or.inl (congrArg Prod.fst (ls257 C_h)), ixs (ls257 C_h) k2 (by decide), ?_⟩
  refine ⟨fun c3 => ?_, fun c3 => ?_⟩
  · have t4 : ¬ aI h 257 (fI h 256 8) = 43 := (fun e => c3 ((Jeq (rg_toInt _) (by decide)).mpr e))
    replace w := w.1 t4
    exact w
  · have t4 : aI h 257 (fI h 256 8) = 43 := ((Jeq (rg_toInt _) (by decide)).mp (Classical.byContradiction c3))
    replace w := w.2 t4
    exact w
-- OutwardDoorsModel.sum()Z at 47
set_option maxRecDepth 20000 in
set_option maxHeartbeats 4000000 in
theorem r192_47 {X : Cst} {d : Nat} {x1 : Int} {h : AH} {Q : Post} (C_h : Lay h)
  (w : Ex X PG d 193 0 [some (.ref 256), none] [] (wF h 256 8 ((fI h 256 8) + 1)) (fun v1 h2 => ∃ r3 : Int, (-2147483648 ≤ r3 ∧ r3 < 2147483648) ∧ v1 = some (.int (J r3)) ∧ SH (wF h 256 8 ((fI h 256 8) + 1)) h2 ∧ ((¬ r3 = 0 → Ex X PG d 196 0 [some (.ref 256), some (.int (J x1)), some (.int (J 0))] [] h2 (fun v6 h7 => v6 = none ∧ SH h2 h7 ∧ Ex X PG (d + 1) 192 9 [some (.ref 256), some (.int (J x1))] [] h7 Q)) ∧ (r3 = 0 → Q (some (.int (J 0))) h2)))) :
    Ex X PG (d + 1) 192 47 [some (.ref 256), some (.int (J x1))] [] h Q := by
  refine wpx_ok (cut := [9, 27, 47]) 14 d 192 47 _ _ _ _ ?_
  show hs h 256 = (0, 11) ∧ hs h 256 = (0, 11) ∧ hs (wG h 256 8 ((hF h 256 8) + (J 1))) 256 = (0, 11) ∧ Ex X PG d 193 0 [some (.ref 256), none] [] (wG h 256 8 ((hF h 256 8) + (J 1))) (fun v1 h2 => ∃ r3, v1 = some (.int r3) ∧ ((¬ r3 = (J 0) → hs h2 256 = (0, 11) ∧ Ex X PG d 196 0 [some (.ref 256), some (.int (J x1)), some (.int (J 0))] [] h2 (fun v6 h7 => v6 = none ∧ Ex X PG (d + 1) 192 9 [some (.ref 256), some (.int (J x1))] [] h7 Q)) ∧ (¬ (¬ r3 = (J 0)) → (J 0 = J 0 ∨ J 0 = J 1) ∧ Q (some (.int (J 0))) h2)))
  try simp only [aI_wAL, fI_wAL, aL_wA, aL_wF, aI_wA_ne, aI_wF_ne, fI_wA_ne, fI_wF_ne, fI_wF_nk, aL_wAL_ne, J_sameA, J_sameF, aL_same, Nat.add_left_cancel_iff, Nat.add_eq_left, Nat.left_eq_add, not_false_eq_true, Nat.reduceEqDiff, Nat.reduceAdd, J_add, J_sub, J_mul, J_neg, J_and, J_or, J_xor, J_shl, J_shr, J_div, J_i2b, J_i2l, J_l2i, J_lcm, J_max, J_min, J_nab, J_nao, rdA, rdF, rdL, wA_fold, wF_fold, wL_fold, wC_fold]
  refine ⟨(ls256 C_h), ?_⟩
  refine ⟨(ls256 C_h), ?_⟩
  refine ⟨(ls256 C_h), ?_⟩
  refine Ex.mono w (Nat.le_refl _) ?_
  rintro v1 h2 ⟨r3, gr3, rfl, s9, w⟩
  refine ⟨_, rfl, ?_⟩
  have C_h2 := Lay_SH s9 C_h
  try simp only [aI_wAL, fI_wAL, aL_wA, aL_wF, aI_wA_ne, aI_wF_ne, fI_wA_ne, fI_wF_ne, fI_wF_nk, aL_wAL_ne, J_sameA, J_sameF, aL_same, Nat.add_left_cancel_iff, Nat.add_eq_left, Nat.left_eq_add, not_false_eq_true, Nat.reduceEqDiff, Nat.reduceAdd, J_add, J_sub, J_mul, J_neg, J_and, J_or, J_xor, J_shl, J_shr, J_div, J_i2b, J_i2l, J_l2i, J_lcm, J_max, J_min, J_nab, J_nao, rdA, rdF, rdL, wA_fold, wF_fold, wL_fold, wC_fold]
  refine ⟨fun c4 => ?_, fun c4 => ?_⟩
  · have t5 : ¬ r3 = 0 := (fun e => c4 ((Jeq gr3 (by decide)).mpr e))
    replace w := w.1 t5
    refine ⟨(ls256 C_h2), ?_⟩
    refine Ex.mono w (Nat.le_refl _) ?_
    rintro v6 h7 ⟨rfl, s8, w⟩
    refine ⟨rfl, ?_⟩
    have C_h7 := Lay_SH s8 C_h2
    try simp only [aI_wAL, fI_wAL, aL_wA, aL_wF, aI_wA_ne, aI_wF_ne, fI_wA_ne, fI_wF_ne, fI_wF_nk, aL_wAL_ne, J_sameA, J_sameF, aL_same, Nat.add_left_cancel_iff, Nat.add_eq_left, Nat.left_eq_add, not_false_eq_true, Nat.reduceEqDiff, Nat.reduceAdd, J_add, J_sub, J_mul, J_neg, J_and, J_or, J_xor, J_shl, J_shr, J_div, J_i2b, J_i2l, J_l2i, J_lcm, J_max, J_min, J_nab, J_nao, rdA, rdF, rdL, wA_fold, wF_fold, wL_fold, wC_fold]
    exact w
  · have t5 : r3 = 0 := ((Jeq gr3 (by decide)).mp (Classical.byContradiction c4))
    replace w := w.2 t5
    exact ⟨(Or.inl (by trivial)), w⟩
theorem q192 {X : Cst} {d t : Nat} {L : Int} {tp : Int → Int} {h : AH} {Q : Post} (C : Lay h) (hd : 5 ≤ d) (B : BT tp) (ht : t < 6) :
    ∀ (n : Nat) (j p : Int) (c : Cd) (l : Option Value) (h' : AH), 61 ≤ n + p → 0 ≤ p ∧ p ≤ 60 → Fr (TRz t) h h' → RP h' tp L j p c t → (c.length : Int) ≤ j → RQs h tp L t (smR tp L n j p c) Q → Ex X PG (d + 1) 192 9 [some (.ref 256), l] [] h' Q := by
  intro n
  induction n with
  | zero => intro j p c l h' hn hp; omega
  | succ n ih =>
    intro j p c l h' hn hp F R hc k
    have kj := R.1.j
    have C' := F.C C
    have sv := (seeV_is (tp := tp) (L := L) (j := j) B kj.1 kj.2.2.1).2.2
    have nb := nx_b (tp := tp) (L := L) (j := j) kj.1 kj.2.1
    have i43 := mrk_see (c := 43) B kj.1 kj.2.2.1 (by omega)
    have i45 := mrk_see (c := 45) B kj.1 kj.2.2.1 (by omega)
    have k : RQs h tp L t (pI (smO tp L j = 0) (0, j, p, c) (bn (tm tp L (nx tp L j) p c) fun j1 p1 c1 => smR tp L n j1 p1 (c1 ++ [(smO tp L j, 0)]))) Q := k
    have go : ∀ (m o : Int) (h2 : AH), Fr (TRz t) h h2 → RP h2 tp L j p c t → fI h2 256 8 = j → mrk tp L j m → (m = 43 ∨ m = 45) → smO tp L j = o → ¬ o = 0 → Ex X PG (d + 1) 192 47 [some (.ref 256), some (.int (J o))] [] h2 Q := by
      intro m o h2 F2 R2 e8 mm hm eo no
      have ob := (smO_b (tp := tp) (L := L) (j := j)).2
      rw [eo] at k ob
      rw [pI_neg no] at k
      have C2 := F2.C C
      refine r192_47 C2 ?_
      rw [e8]
      have lt := mm.1
      have R3 := R2.st (i := j + 1) ht (by omega) (by omega)
      rw [← nx_mk mm (by unfold dgP; omega) (by unfold leP; omega) (by unfold wdn; rw [mm.2]; omega)] at R3
      have F3 : Fr (TRz t) h (wF h2 256 8 (j + 1)) := F2.wF (by unfold TRz TRp; omega)
      refine m193 (Lay_SH SH.rf.wF C2) (by omega) B ht R3 (by omega) hp ⟨fun e h4 F4 R4 => ⟨1, by omega, rfl, F4.1, fun _ => ?_, fun z => absurd z (by decide)⟩, fun e h4 F4 e9 => ⟨0, by omega, rfl, F4.1, fun z => absurd rfl z, fun _ => ?_⟩⟩
      · rw [bn_pos e] at k
        have g := Gd_tm (tp := tp) (c := c) (by omega) nb.2.1 hp.2 e
        obtain ⟨g1, g2, dd, g3, g4, -⟩ := g
        generalize (tm tp L (nx tp L j) p c).2.1 = j1 at *
        generalize (tm tp L (nx tp L j) p c).2.2.1 = p1 at *
        generalize (tm tp L (nx tp L j) p c).2.2.2 = c1 at *
        have cl : (c1.length : Int) + 1 ≤ j1 := by rw [g3, List.length_append]; omega
        have F4a := F3.tr F4
        refine m196 (c := c1) (F4a.C C) (by omega) ht R4.2.2.1 R4.2.2.2 (by omega) (by omega) (fun h5 F5 G5 => ⟨rfl, F5.1, ?_⟩)
        exact ih j1 p1 _ _ h5 (by omega) (by omega) (F4a.tr (F5.mo (fun _ _ z => Or.inr z))) (R4.put F5 G5) (by rw [len_ap]; omega) k
      · rw [bn_neg e] at k
        exact k.bad e (F3.tr F4) e9
    have wh : ∀ (h2 : AH), Fr (TRz t) h h2 → RP h2 tp L j p c t → fI h2 256 8 = j → (mrk tp L j 43 ∨ mrk tp L j 45) → Ex X PG (d + 1) 192 27 [some (.ref 256), l] [] h2 Q := by
      intro h2 F2 R2 e8 mm
      have lt : j < L := by rcases mm with z | z <;> exact z.1
      refine r192_27 (F2.C C) ?_
      rw [e8, R2.1.1]
      refine ⟨by omega, fun c1 => ?_, fun c1 => ?_⟩
      · have m45' : mrk tp L j 45 := by rcases mm with z | z; exact absurd z.2 c1; exact z
        refine go 45 3 h2 F2 R2 e8 m45' (by omega) ?_ (by omega)
        unfold smO; rw [pI_neg (fun z => c1 z.2), pI_pos m45']
      · refine go 43 2 h2 F2 R2 e8 ⟨lt, c1⟩ (by omega) ?_ (by omega)
        unfold smO; rw [pI_pos ⟨lt, c1⟩]
    refine r192_9 C' ?_
    refine m175 C' (by omega) R.1 (fun h2 F2 K2 e2 => ⟨_, by omega, rfl, F2.1, fun c1 => ?_, fun c1 => ?_⟩)
    · exact wh h2 (F.tr (F2.mo (fun _ _ => TNx_s))) (R.nx ht (by omega) F2 K2) e2 (Or.inl (i43.mp c1))
    have R2 := R.nx ht (by omega) F2 K2
    have G2 := F.tr (F2.mo (fun _ _ => TNx_s))
    refine m175 (G2.C C) (by omega) K2 (fun h4 F4 K4 e4 => ⟨_, by omega, rfl, F4.1, fun c3 => ?_, fun c3 => ?_⟩)
    · have z : smO tp L j = 0 := by unfold smO; rw [pI_neg (fun z => c1 (i43.mpr z)), pI_neg (fun z => c3 (i45.mpr z))]
      rw [pI_pos z] at k
      exact k.1 rfl h4 (G2.tr (F4.mo (fun _ _ => TNx_s))) (R2.nx ht (by omega) F4 K4)
    · exact wh h4 (G2.tr (F4.mo (fun _ _ => TNx_s))) (R2.nx ht (by omega) F4 K4) e4 (Or.inr (i45.mp c3))
theorem m192 {X : Cst} {d t : Nat} {L j p : Int} {tp : Int → Int} {c : Cd} {h : AH} {Q : Post} (C : Lay h) (hd : 6 ≤ d) (B : BT tp) (ht : t < 6) (R : RP h tp L j p c t) (hc : (c.length : Int) ≤ j) (hp : 0 ≤ p ∧ p ≤ 60) (k : RQs h tp L t (sm tp L j p c) Q) : Ex X PG d 192 0 [some (.ref 256), none] [] h Q := by
  obtain ⟨d, rfl⟩ : ∃ e, d = e + 1 := ⟨d - 1, by omega⟩
  have kj := R.1.j
  unfold sm at k
  refine r192_0 C ?_
  refine m193 C (by omega) B ht R hc hp ⟨fun e h4 F4 R4 => ⟨1, by omega, rfl, F4.1, fun _ => ?_, fun z => absurd z (by decide)⟩, fun e h4 F4 e9 => ⟨0, by omega, rfl, F4.1, fun z => absurd rfl z, fun _ => ?_⟩⟩
  · rw [bn_pos e] at k
    obtain ⟨g1, g2, dd, g3, g4, -⟩ := Gd_tm (tp := tp) (c := c) kj.1 kj.2.1 hp.2 e
    exact q192 C (by omega) B ht 61 _ _ _ _ h4 (by omega) (by omega) F4 R4 (by rw [g3, List.length_append]; omega) k
  · rw [bn_neg e] at k
    exact k.bad e F4 e9
-- OutwardDoorsModel.compare()Z at 0
set_option maxRecDepth 20000 in
set_option maxHeartbeats 4000000 in
theorem r202_0 {X : Cst} {d : Nat}  {h : AH} {Q : Post} (C_h : Lay h)
  (w : Ex X PG d 192 0 [some (.ref 256), none] [] h (fun v1 h2 => ∃ r3 : Int, (-2147483648 ≤ r3 ∧ r3 < 2147483648) ∧ v1 = some (.int (J r3)) ∧ SH h h2 ∧ ((¬ r3 = 0 → Ex X PG d 175 0 [some (.ref 256)] [] h2 (fun v6 h7 => ∃ r8 : Int, (-2147483648 ≤ r8 ∧ r8 < 2147483648) ∧ v6 = some (.int (J r8)) ∧ SH h2 h7 ∧ ((r8 = 60 → Ex X PG (d + 1) 202 44 [some (.ref 256), some (.int (J r8)), some (.int (J (fI h7 256 8))), none, none] [] h7 Q) ∧ (¬ r8 = 60 → ((r8 = 61 → Ex X PG (d + 1) 202 44 [some (.ref 256), some (.int (J r8)), some (.int (J (fI h7 256 8))), none, none] [] h7 Q) ∧ (¬ r8 = 61 → ((r8 = 62 → Ex X PG (d + 1) 202 44 [some (.ref 256), some (.int (J r8)), some (.int (J (fI h7 256 8))), none, none] [] h7 Q) ∧ (¬ r8 = 62 → Ex X PG d 179 0 [some (.ref 256), some (.int (J 0)), some (.int (J (fI h7 256 8)))] [] h7 (fun v15 h16 => ∃ r17 : Int, (-2147483648 ≤ r17 ∧ r17 < 2147483648) ∧ v15 = some (.int (J r17)) ∧ SH h7 h16 ∧ (r17 = 0 ∨ r17 = 1) ∧ Q (some (.int (J r17))) h16))))))))) ∧ (r3 = 0 → Q (some (.int (J 0))) h2)))) :
    Ex X PG (d + 1) 202 0 [some (.ref 256), none, none, none, none] [] h Q := by
  refine wpx_ok (cut := [44, 91, 105, 154]) 23 d 202 0 _ _ _ _ ?_
  show hs h 256 = (0, 11) ∧ Ex X PG d 192 0 [some (.ref 256), none] [] h (fun v1 h2 => ∃ r3, v1 = some (.int r3) ∧ ((¬ r3 = (J 0) → hs h2 256 = (0, 11) ∧ Ex X PG d 175 0 [some (.ref 256)] [] h2 (fun v6 h7 => ∃ r8, v6 = some (.int r8) ∧ hs h7 256 = (0, 11) ∧ ((r8 = (J 60) → Ex X PG (d + 1) 202 44 [some (.ref 256), some (.int r8), some (.int (hF h7 256 8)), none, none] [] h7 Q) ∧ (¬ (r8 = (J 60)) → ((r8 = (J 61) → Ex X PG (d + 1) 202 44 [some (.ref 256), some (.int r8), some (.int (hF h7 256 8)), none, none] [] h7 Q) ∧ (¬ (r8 = (J 61)) → ((r8 = (J 62) → Ex X PG (d + 1) 202 44 [some (.ref 256), some (.int r8), some (.int (hF h7 256 8)), none, none] [] h7 Q) ∧ (¬ (r8 = (J 62)) → hs h7 256 = (0, 11) ∧ Ex X PG d 179 0 [some (.ref 256), some (.int (J 0)), some (.int (hF h7 256 8))] [] h7 (fun v15 h16 => ∃ r17, v15 = some (.int r17) ∧ (r17 = J 0 ∨ r17 = J 1) ∧ Q (some (.int r17)) h16))))))))) ∧ (¬ (¬ r3 = (J 0)) → (J 0 = J 0 ∨ J 0 = J 1) ∧ Q (some (.int (J 0))) h2)))
  try simp only [aI_wAL, fI_wAL, aL_wA, aL_wF, aI_wA_ne, aI_wF_ne, fI_wA_ne, fI_wF_ne, fI_wF_nk, aL_wAL_ne, J_sameA, J_sameF, aL_same, Nat.add_left_cancel_iff, Nat.add_eq_left, Nat.left_eq_add, not_false_eq_true, Nat.reduceEqDiff, Nat.reduceAdd, J_add, J_sub, J_mul, J_neg, J_and, J_or, J_xor, J_shl, J_shr, J_div, J_i2b, J_i2l, J_l2i, J_lcm, J_max, J_min, J_nab, J_nao, rdA, rdF, rdL, wA_fold, wF_fold, wL_fold, wC_fold]
  refine ⟨(ls256 C_h), ?_⟩
  refine Ex.mono w (Nat.le_refl _) ?_
  rintro v1 h2 ⟨r3, gr3, rfl, s21, w⟩
  refine ⟨_, rfl, ?_⟩
  have C_h2 := Lay_SH s21 C_h
  try simp only [aI_wAL, fI_wAL, aL_wA, aL_wF, aI_wA_ne, aI_wF_ne, fI_wA_ne, fI_wF_ne, fI_wF_nk, aL_wAL_ne, J_sameA, J_sameF, aL_same, Nat.add_left_cancel_iff, Nat.add_eq_left, Nat.left_eq_add, not_false_eq_true, Nat.reduceEqDiff, Nat.reduceAdd, J_add, J_sub, J_mul, J_neg, J_and, J_or, J_xor, J_shl, J_shr, J_div, J_i2b, J_i2l, J_l2i, J_lcm, J_max, J_min, J_nab, J_nao, rdA, rdF, rdL, wA_fold, wF_fold, wL_fold, wC_fold]
  refine ⟨fun c4 => ?_, fun c4 => ?_⟩
  · have t5 : ¬ r3 = 0 := (fun e => c4 ((Jeq gr3 (by decide)).mpr e))
    replace w := w.1 t5
    refine ⟨(ls256 C_h2), ?_⟩
    refine Ex.mono w (Nat.le_refl _) ?_
    rintro v6 h7 ⟨r8, gr8, rfl, s20, w⟩
    refine ⟨_, rfl, ?_⟩
    have C_h7 := Lay_SH s20 C_h2
    try simp only [aI_wAL, fI_wAL, aL_wA, aL_wF, aI_wA_ne, aI_wF_ne, fI_wA_ne, fI_wF_ne, fI_wF_nk, aL_wAL_ne, J_sameA, J_sameF, aL_same, Nat.add_left_cancel_iff, Nat.add_eq_left, Nat.left_eq_add, not_false_eq_true, Nat.reduceEqDiff, Nat.reduceAdd, J_add, J_sub, J_mul, J_neg, J_and, J_or, J_xor, J_shl, J_shr, J_div, J_i2b, J_i2l, J_l2i, J_lcm, J_max, J_min, J_nab, J_nao, rdA, rdF, rdL, wA_fold, wF_fold, wL_fold, wC_fold]
    refine ⟨(ls256 C_h7), ?_⟩
    refine ⟨fun c9 => ?_, fun c9 => ?_⟩
    · have t10 : r8 = 60 := ((Jeq gr8 (by decide)).mp c9)
      replace w := w.1 t10
      exact w
    · have t10 : ¬ r8 = 60 := (fun e => c9 ((Jeq gr8 (by decide)).mpr e))
      replace w := w.2 t10
      refine ⟨fun c11 => ?_, fun c11 => ?_⟩
      · have t12 : r8 = 61 := ((Jeq gr8 (by decide)).mp c11)
        replace w := w.1 t12
        exact w
      · have t12 : ¬ r8 = 61 := (fun e => c11 ((Jeq gr8 (by decide)).mpr e))
        replace w := w.2 t12
        refine ⟨fun c13 => ?_, fun c13 => ?_⟩
        · have t14 : r8 = 62 := ((Jeq gr8 (by decide)).mp c13)
          replace w := w.1 t14
          exact w
        · have t14 : ¬ r8 = 62 := (fun e => c13 ((Jeq gr8 (by decide)).mpr e))
          replace w := w.2 t14
          refine ⟨(ls256 C_h7), ?_⟩
          refine Ex.mono w (Nat.le_refl _) ?_
          rintro v15 h16 ⟨r17, gr17, rfl, s19, w⟩
          refine ⟨_, rfl, ?_⟩
          have C_h16 := Lay_SH s19 C_h7
          try simp only [aI_wAL, fI_wAL, aL_wA, aL_wF, aI_wA_ne, aI_wF_ne, fI_wA_ne, fI_wF_ne, fI_wF_nk, aL_wAL_ne, J_sameA, J_sameF, aL_same, Nat.add_left_cancel_iff, Nat.add_eq_left, Nat.left_eq_add, not_false_eq_true, Nat.reduceEqDiff, Nat.reduceAdd, J_add, J_sub, J_mul, J_neg, J_and, J_or, J_xor, J_shl, J_shr, J_div, J_i2b, J_i2l, J_l2i, J_lcm, J_max, J_min, J_nab, J_nao, rdA, rdF, rdL, wA_fold, wF_fold, wL_fold, wC_fold]
          obtain ⟨k18, w⟩ := w
          exact ⟨(k18.imp (congrArg J) (congrArg J)), w⟩
  · have t5 : r3 = 0 := ((Jeq gr3 (by decide)).mp (Classical.byContradiction c4))
    replace w := w.2 t5
    exact ⟨(Or.inl (by trivial)), w⟩
-- OutwardDoorsModel.compare()Z at 44
set_option maxRecDepth 20000 in
set_option maxHeartbeats 4000000 in
theorem r202_44 {X : Cst} {d : Nat} {x1 : Int} {x2 : Int} {l3 : Option Value} {l4 : Option Value} {h : AH} {Q : Post} (C_h : Lay h)
  (w : (-2147483648 ≤ x1 ∧ x1 < 2147483648) ∧ ((x1 = 61 → Ex X PG (d + 1) 202 91 [some (.ref 256), some (.int (J x1)), some (.int (J x2)), some (.int (J 0)), l4] [] (wF h 256 8 ((fI h 256 8) + 1)) Q) ∧ (¬ x1 = 61 → (-2147483648 ≤ (fI h 256 8) + 1 ∧ (fI h 256 8) + 1 < 2147483648) ∧ ((fI h 256 1 ≤ (fI h 256 8) + 1 → Ex X PG (d + 1) 202 91 [some (.ref 256), some (.int (J x1)), some (.int (J x2)), some (.int (J 0)), l4] [] (wF h 256 8 ((fI h 256 8) + 1)) Q) ∧ (¬ fI h 256 1 ≤ (fI h 256 8) + 1 → (0 ≤ (fI h 256 8) + 1 ∧ (fI h 256 8) + 1 < 400) ∧ ((¬ aI h 257 ((fI h 256 8) + 1) = 61 → Ex X PG (d + 1) 202 91 [some (.ref 256), some (.int (J x1)), some (.int (J x2)), some (.int (J 0)), l4] [] (wF h 256 8 ((fI h 256 8) + 1)) Q) ∧ (aI h 257 ((fI h 256 8) + 1) = 61 → Ex X PG (d + 1) 202 91 [some (.ref 256), some (.int (J x1)), some (.int (J x2)), some (.int (J 1)), l4] [] (wF h 256 8 ((fI h 256 8) + 1)) Q))))))) :
    Ex X PG (d + 1) 202 44 [some (.ref 256), some (.int (J x1)), some (.int (J x2)), l3, l4] [] h Q := by
  refine wpx_ok (cut := [44, 91, 105, 154]) 24 d 202 44 _ _ _ _ ?_
  show hs h 256 = (0, 11) ∧ hs h 256 = (0, 11) ∧ (((J x1) = (J 61) → Ex X PG (d + 1) 202 91 [some (.ref 256), some (.int (J x1)), some (.int (J x2)), some (.int (J 0)), l4] [] (wG h 256 8 ((hF h 256 8) + (J 1))) Q) ∧ (¬ ((J x1) = (J 61)) → hs (wG h 256 8 ((hF h 256 8) + (J 1))) 256 = (0, 11) ∧ hs (wG h 256 8 ((hF h 256 8) + (J 1))) 256 = (0, 11) ∧ (((hF (wG h 256 8 ((hF h 256 8) + (J 1))) 256 1) ≤ (hF (wG h 256 8 ((hF h 256 8) + (J 1))) 256 8) → Ex X PG (d + 1) 202 91 [some (.ref 256), some (.int (J x1)), some (.int (J x2)), some (.int (J 0)), l4] [] (wG h 256 8 ((hF h 256 8) + (J 1))) Q) ∧ (¬ ((hF (wG h 256 8 ((hF h 256 8) + (J 1))) 256 1) ≤ (hF (wG h 256 8 ((hF h 256 8) + (J 1))) 256 8)) → hs (wG h 256 8 ((hF h 256 8) + (J 1))) 256 = (0, 11) ∧ ∃ q7, hR (wG h 256 8 ((hF h 256 8) + (J 1))) 256 0 = some q7 ∧ hs (wG h 256 8 ((hF h 256 8) + (J 1))) 256 = (0, 11) ∧ ((hs (wG h 256 8 ((hF h 256 8) + (J 1))) q7).1 = 3 ∨ (hs (wG h 256 8 ((hF h 256 8) + (J 1))) q7).1 = 4) ∧ ix (hF (wG h 256 8 ((hF h 256 8) + (J 1))) 256 8) (hs (wG h 256 8 ((hF h 256 8) + (J 1))) q7).2 ∧ ((¬ (hI (wG h 256 8 ((hF h 256 8) + (J 1))) q7 (Int32.toNatClampNeg (hF (wG h 256 8 ((hF h 256 8) + (J 1))) 256 8))) = (J 61) → Ex X PG (d + 1) 202 91 [some (.ref 256), some (.int (J x1)), some (.int (J x2)), some (.int (J 0)), l4] [] (wG h 256 8 ((hF h 256 8) + (J 1))) Q) ∧ (¬ (¬ (hI (wG h 256 8 ((hF h 256 8) + (J 1))) q7 (Int32.toNatClampNeg (hF (wG h 256 8 ((hF h 256 8) + (J 1))) 256 8))) = (J 61)) → Ex X PG (d + 1) 202 91 [some (.ref 256), some (.int (J x1)), some (.int (J x2)), some (.int (J 1)), l4] [] (wG h 256 8 ((hF h 256 8) + (J 1))) Q))))))
  try simp only [aI_wAL, fI_wAL, aL_wA, aL_wF, aI_wA_ne, aI_wF_ne, fI_wA_ne, fI_wF_ne, fI_wF_nk, aL_wAL_ne, J_sameA, J_sameF, aL_same, Nat.add_left_cancel_iff, Nat.add_eq_left, Nat.left_eq_add, not_false_eq_true, Nat.reduceEqDiff, Nat.reduceAdd, J_add, J_sub, J_mul, J_neg, J_and, J_or, J_xor, J_shl, J_shr, J_div, J_i2b, J_i2l, J_l2i, J_lcm, J_max, J_min, J_nab, J_nao, rdA, rdF, rdL, wA_fold, wF_fold, wL_fold, wC_fold]
  refine ⟨(ls256 C_h), ?_⟩
  refine ⟨(ls256 C_h), ?_⟩
  obtain ⟨k3, w⟩ := w
  refine ⟨fun c1 => ?_, fun c1 => ?_⟩
  · have t2 : x1 = 61 := ((Jeq k3 (by decide)).mp c1)
    replace w := w.1 t2
    exact w
  · have t2 : ¬ x1 = 61 := (fun e => c1 ((Jeq k3 (by decide)).mpr e))
    replace w := w.2 t2
    refine ⟨(ls256 C_h), ?_⟩
    refine ⟨(ls256 C_h), ?_⟩
    obtain ⟨k6, w⟩ := w
    refine ⟨fun c4 => ?_, fun c4 => ?_⟩
    · have t5 : fI h 256 1 ≤ (fI h 256 8) + 1 := ((Jle (rg_toInt _) k6).mp c4)
      replace w := w.1 t5
      exact w
    · have t5 : ¬ fI h 256 1 ≤ (fI h 256 8) + 1 := (fun e => c4 ((Jle (rg_toInt _) k6).mpr e))
      replace w := w.2 t5
      refine ⟨(ls256 C_h), _, (lr256_0 C_h), ?_⟩
      refine ⟨(ls256 C_h), ?_⟩
      obtain ⟨k8, w⟩ := w
      refine ⟨Or.inl (congrArg Prod.fst (ls257 C_h)), ixs (ls257 C_h) k8 (by decide), ?_⟩
      try simp only [aI_wAL, fI_wAL, aL_wA, aL_wF, aI_wA_ne, aI_wF_ne, fI_wA_ne, fI_wF_ne, fI_wF_nk, aL_wAL_ne, J_sameA, J_sameF, aL_same, Nat.add_left_cancel_iff, Nat.add_eq_left, Nat.left_eq_add, not_false_eq_true, Nat.reduceEqDiff, Nat.reduceAdd]
      refine ⟨fun c9 => ?_, fun c9 => ?_⟩
      · have t10 : ¬ aI h 257 ((fI h 256 8) + 1) = 61 := (fun e => c9 ((Jeq (rg_toInt _) (by decide)).mpr e))
        replace w := w.1 t10
        exact w
      · have t10 : aI h 257 ((fI h 256 8) + 1) = 61 := ((Jeq (rg_toInt _) (by decide)).mp (Classical.byContradiction c9))
        replace w := w.2 t10
        exact w
-- OutwardDoorsModel.compare()Z at 91
set_option maxRecDepth 20000 in
set_option maxHeartbeats 4000000 in
theorem r202_91 {X : Cst} {d : Nat} {x1 : Int} {x2 : Int} {x3 : Int} {l4 : Option Value} {h : AH} {Q : Post} (C_h : Lay h)
  (w : (-2147483648 ≤ x3 ∧ x3 < 2147483648) ∧ ((x3 = 0 → Ex X PG (d + 1) 202 105 [some (.ref 256), some (.int (J x1)), some (.int (J x2)), some (.int (J x3)), l4] [] h Q) ∧ (¬ x3 = 0 → Ex X PG (d + 1) 202 105 [some (.ref 256), some (.int (J x1)), some (.int (J x2)), some (.int (J x3)), l4] [] (wF h 256 8 ((fI h 256 8) + 1)) Q))) :
    Ex X PG (d + 1) 202 91 [some (.ref 256), some (.int (J x1)), some (.int (J x2)), some (.int (J x3)), l4] [] h Q := by
  refine wpx_ok (cut := [44, 91, 105, 154]) 8 d 202 91 _ _ _ _ ?_
  show (((J x3) = (J 0) → Ex X PG (d + 1) 202 105 [some (.ref 256), some (.int (J x1)), some (.int (J x2)), some (.int (J x3)), l4] [] h Q) ∧ (¬ ((J x3) = (J 0)) → hs h 256 = (0, 11) ∧ hs h 256 = (0, 11) ∧ Ex X PG (d + 1) 202 105 [some (.ref 256), some (.int (J x1)), some (.int (J x2)), some (.int (J x3)), l4] [] (wG h 256 8 ((hF h 256 8) + (J 1))) Q))
  try simp only [aI_wAL, fI_wAL, aL_wA, aL_wF, aI_wA_ne, aI_wF_ne, fI_wA_ne, fI_wF_ne, fI_wF_nk, aL_wAL_ne, J_sameA, J_sameF, aL_same, Nat.add_left_cancel_iff, Nat.add_eq_left, Nat.left_eq_add, not_false_eq_true, Nat.reduceEqDiff, Nat.reduceAdd, J_add, J_sub, J_mul, J_neg, J_and, J_or, J_xor, J_shl, J_shr, J_div, J_i2b, J_i2l, J_l2i, J_lcm, J_max, J_min, J_nab, J_nao, rdA, rdF, rdL, wA_fold, wF_fold, wL_fold, wC_fold]
  obtain ⟨k3, w⟩ := w
  refine ⟨fun c1 => ?_, fun c1 => ?_⟩
  · have t2 : x3 = 0 := ((Jeq k3 (by decide)).mp c1)
    replace w := w.1 t2
    exact w
  · have t2 : ¬ x3 = 0 := (fun e => c1 ((Jeq k3 (by decide)).mpr e))
    replace w := w.2 t2
    refine ⟨(ls256 C_h), ?_⟩
    refine ⟨(ls256 C_h), ?_⟩
    exact w
-- OutwardDoorsModel.compare()Z at 105
set_option maxRecDepth 20000 in
set_option maxHeartbeats 4000000 in
theorem r202_105 {X : Cst} {d : Nat} {x1 : Int} {x2 : Int} {x3 : Int} {l4 : Option Value} {h : AH} {Q : Post} (C_h : Lay h)
  (w : Ex X PG d 195 0 [some (.ref 256), some (.int (J x2))] [] h (fun v1 h2 => ∃ r3 : Int, (-2147483648 ≤ r3 ∧ r3 < 2147483648) ∧ v1 = some (.int (J r3)) ∧ SH h h2 ∧ ((¬ r3 = 0 → (-2147483648 ≤ x1 ∧ x1 < 2147483648) ∧ ((¬ x1 = 60 → ((¬ x1 = 61 → (-2147483648 ≤ x3 ∧ x3 < 2147483648) ∧ ((x3 = 0 → Ex X PG (d + 1) 202 154 [some (.ref 256), some (.int (J x1)), some (.int (J x2)), some (.int (J x3)), some (.int (J 4))] [] h2 Q) ∧ (¬ x3 = 0 → Ex X PG (d + 1) 202 154 [some (.ref 256), some (.int (J x1)), some (.int (J x2)), some (.int (J x3)), some (.int (J 3))] [] h2 Q))) ∧ (x1 = 61 → Ex X PG (d + 1) 202 154 [some (.ref 256), some (.int (J x1)), some (.int (J x2)), some (.int (J x3)), some (.int (J 2))] [] h2 Q))) ∧ (x1 = 60 → (-2147483648 ≤ x3 ∧ x3 < 2147483648) ∧ ((x3 = 0 → Ex X PG (d + 1) 202 154 [some (.ref 256), some (.int (J x1)), some (.int (J x2)), some (.int (J x3)), some (.int (J 0))] [] h2 Q) ∧ (¬ x3 = 0 → Ex X PG (d + 1) 202 154 [some (.ref 256), some (.int (J x1)), some (.int (J x2)), some (.int (J x3)), some (.int (J 1))] [] h2 Q))))) ∧ (r3 = 0 → Q (some (.int (J 0))) h2)))) :
    Ex X PG (d + 1) 202 105 [some (.ref 256), some (.int (J x1)), some (.int (J x2)), some (.int (J x3)), l4] [] h Q := by
  refine wpx_ok (cut := [44, 91, 105, 154]) 15 d 202 105 _ _ _ _ ?_
  show hs h 256 = (0, 11) ∧ Ex X PG d 195 0 [some (.ref 256), some (.int (J x2))] [] h (fun v1 h2 => ∃ r3, v1 = some (.int r3) ∧ ((¬ r3 = (J 0) → ((¬ (J x1) = (J 60) → ((¬ (J x1) = (J 61) → (((J x3) = (J 0) → Ex X PG (d + 1) 202 154 [some (.ref 256), some (.int (J x1)), some (.int (J x2)), some (.int (J x3)), some (.int (J 4))] [] h2 Q) ∧ (¬ ((J x3) = (J 0)) → Ex X PG (d + 1) 202 154 [some (.ref 256), some (.int (J x1)), some (.int (J x2)), some (.int (J x3)), some (.int (J 3))] [] h2 Q))) ∧ (¬ (¬ (J x1) = (J 61)) → Ex X PG (d + 1) 202 154 [some (.ref 256), some (.int (J x1)), some (.int (J x2)), some (.int (J x3)), some (.int (J 2))] [] h2 Q))) ∧ (¬ (¬ (J x1) = (J 60)) → (((J x3) = (J 0) → Ex X PG (d + 1) 202 154 [some (.ref 256), some (.int (J x1)), some (.int (J x2)), some (.int (J x3)), some (.int (J 0))] [] h2 Q) ∧ (¬ ((J x3) = (J 0)) → Ex X PG (d + 1) 202 154 [some (.ref 256), some (.int (J x1)), some (.int (J x2)), some (.int (J x3)), some (.int (J 1))] [] h2 Q))))) ∧ (¬ (¬ r3 = (J 0)) → (J 0 = J 0 ∨ J 0 = J 1) ∧ Q (some (.int (J 0))) h2)))
  try simp only [aI_wAL, fI_wAL, aL_wA, aL_wF, aI_wA_ne, aI_wF_ne, fI_wA_ne, fI_wF_ne, fI_wF_nk, aL_wAL_ne, J_sameA, J_sameF, aL_same, Nat.add_left_cancel_iff, Nat.add_eq_left, Nat.left_eq_add, not_false_eq_true, Nat.reduceEqDiff, Nat.reduceAdd, J_add, J_sub, J_mul, J_neg, J_and, J_or, J_xor, J_shl, J_shr, J_div, J_i2b, J_i2l, J_l2i, J_lcm, J_max, J_min, J_nab, J_nao, rdA, rdF, rdL, wA_fold, wF_fold, wL_fold, wC_fold]
  refine ⟨(ls256 C_h), ?_⟩
  refine Ex.mono w (Nat.le_refl _) ?_
  rintro v1 h2 ⟨r3, gr3, rfl, s17, w⟩
  refine ⟨_, rfl, ?_⟩
  have C_h2 := Lay_SH s17 C_h
  try simp only [aI_wAL, fI_wAL, aL_wA, aL_wF, aI_wA_ne, aI_wF_ne, fI_wA_ne, fI_wF_ne, fI_wF_nk, aL_wAL_ne, J_sameA, J_sameF, aL_same, Nat.add_left_cancel_iff, Nat.add_eq_left, Nat.left_eq_add, not_false_eq_true, Nat.reduceEqDiff, Nat.reduceAdd, J_add, J_sub, J_mul, J_neg, J_and, J_or, J_xor, J_shl, J_shr, J_div, J_i2b, J_i2l, J_l2i, J_lcm, J_max, J_min, J_nab, J_nao, rdA, rdF, rdL, wA_fold, wF_fold, wL_fold, wC_fold]
  refine ⟨fun c4 => ?_, fun c4 => ?_⟩
  · have t5 : ¬ r3 = 0 := (fun e => c4 ((Jeq gr3 (by decide)).mpr e))
    replace w := w.1 t5
    obtain ⟨k8, w⟩ := w
    refine ⟨fun c6 => ?_, fun c6 => ?_⟩
    · have t7 : ¬ x1 = 60 := (fun e => c6 ((Jeq k8 (by decide)).mpr e))
      replace w := w.1 t7
      refine ⟨fun c9 => ?_, fun c9 => ?_⟩
      · have t10 : ¬ x1 = 61 := (fun e => c9 ((Jeq k8 (by decide)).mpr e))
        replace w := w.1 t10
        obtain ⟨k13, w⟩ := w
        refine ⟨fun c11 => ?_, fun c11 => ?_⟩
        · have t12 : x3 = 0 := ((Jeq k13 (by decide)).mp c11)
          replace w := w.1 t12
          exact w
        · have t12 : ¬ x3 = 0 := (fun e => c11 ((Jeq k13 (by decide)).mpr e))
          replace w := w.2 t12
          exact w
      · have t10 : x1 = 61 := ((Jeq k8 (by decide)).mp (Classical.byContradiction c9))
        replace w := w.2 t10
        exact w
    · have t7 : x1 = 60 := ((Jeq k8 (by decide)).mp (Classical.byContradiction c6))
      replace w := w.2 t7
      obtain ⟨k16, w⟩ := w
      refine ⟨fun c14 => ?_, fun c14 => ?_⟩
      · have t15 : x3 = 0 := ((Jeq k16 (by decide)).mp c14)
        replace w := w.1 t15
        exact w
      · have t15 : ¬ x3 = 0 := (fun e => c14 ((Jeq k16 (by decide)).mpr e))
        replace w := w.2 t15
        exact w
  · have t5 : r3 = 0 := ((Jeq gr3 (by decide)).mp (Classical.byContradiction c4))
    replace w := w.2 t5
    exact ⟨(Or.inl (by trivial)), w⟩
-- OutwardDoorsModel.compare()Z at 154
set_option maxRecDepth 20000 in
set_option maxHeartbeats 4000000 in
theorem r202_154 {X : Cst} {d : Nat} {x1 : Int} {x2 : Int} {x3 : Int} {x4 : Int} {h : AH} {Q : Post} (C_h : Lay h)
  (w : Ex X PG d 192 0 [some (.ref 256), none] [] h (fun v1 h2 => ∃ r3 : Int, (-2147483648 ≤ r3 ∧ r3 < 2147483648) ∧ v1 = some (.int (J r3)) ∧ SH h h2 ∧ ((¬ r3 = 0 → Ex X PG d 196 0 [some (.ref 256), some (.int (J (6 + x4))), some (.int (J 0))] [] h2 (fun v6 h7 => v6 = none ∧ SH h2 h7 ∧ Q (some (.int (J 1))) h7)) ∧ (r3 = 0 → Q (some (.int (J 0))) h2)))) :
    Ex X PG (d + 1) 202 154 [some (.ref 256), some (.int (J x1)), some (.int (J x2)), some (.int (J x3)), some (.int (J x4))] [] h Q := by
  refine wpx_ok (cut := [44, 91, 105, 154]) 11 d 202 154 _ _ _ _ ?_
  show hs h 256 = (0, 11) ∧ Ex X PG d 192 0 [some (.ref 256), none] [] h (fun v1 h2 => ∃ r3, v1 = some (.int r3) ∧ ((¬ r3 = (J 0) → hs h2 256 = (0, 11) ∧ Ex X PG d 196 0 [some (.ref 256), some (.int ((J 6) + (J x4))), some (.int (J 0))] [] h2 (fun v6 h7 => v6 = none ∧ (J 1 = J 0 ∨ J 1 = J 1) ∧ Q (some (.int (J 1))) h7)) ∧ (¬ (¬ r3 = (J 0)) → (J 0 = J 0 ∨ J 0 = J 1) ∧ Q (some (.int (J 0))) h2)))
  try simp only [aI_wAL, fI_wAL, aL_wA, aL_wF, aI_wA_ne, aI_wF_ne, fI_wA_ne, fI_wF_ne, fI_wF_nk, aL_wAL_ne, J_sameA, J_sameF, aL_same, Nat.add_left_cancel_iff, Nat.add_eq_left, Nat.left_eq_add, not_false_eq_true, Nat.reduceEqDiff, Nat.reduceAdd, J_add, J_sub, J_mul, J_neg, J_and, J_or, J_xor, J_shl, J_shr, J_div, J_i2b, J_i2l, J_l2i, J_lcm, J_max, J_min, J_nab, J_nao, rdA, rdF, rdL, wA_fold, wF_fold, wL_fold, wC_fold]
  refine ⟨(ls256 C_h), ?_⟩
  refine Ex.mono w (Nat.le_refl _) ?_
  rintro v1 h2 ⟨r3, gr3, rfl, s9, w⟩
  refine ⟨_, rfl, ?_⟩
  have C_h2 := Lay_SH s9 C_h
  try simp only [aI_wAL, fI_wAL, aL_wA, aL_wF, aI_wA_ne, aI_wF_ne, fI_wA_ne, fI_wF_ne, fI_wF_nk, aL_wAL_ne, J_sameA, J_sameF, aL_same, Nat.add_left_cancel_iff, Nat.add_eq_left, Nat.left_eq_add, not_false_eq_true, Nat.reduceEqDiff, Nat.reduceAdd, J_add, J_sub, J_mul, J_neg, J_and, J_or, J_xor, J_shl, J_shr, J_div, J_i2b, J_i2l, J_l2i, J_lcm, J_max, J_min, J_nab, J_nao, rdA, rdF, rdL, wA_fold, wF_fold, wL_fold, wC_fold]
  refine ⟨fun c4 => ?_, fun c4 => ?_⟩
  · have t5 : ¬ r3 = 0 := (fun e => c4 ((Jeq gr3 (by decide)).mpr e))
    replace w := w.1 t5
    refine ⟨(ls256 C_h2), ?_⟩
    refine Ex.mono w (Nat.le_refl _) ?_
    rintro v6 h7 ⟨rfl, s8, w⟩
    refine ⟨rfl, ?_⟩
    have C_h7 := Lay_SH s8 C_h2
    try simp only [aI_wAL, fI_wAL, aL_wA, aL_wF, aI_wA_ne, aI_wF_ne, fI_wA_ne, fI_wF_ne, fI_wF_nk, aL_wAL_ne, J_sameA, J_sameF, aL_same, Nat.add_left_cancel_iff, Nat.add_eq_left, Nat.left_eq_add, not_false_eq_true, Nat.reduceEqDiff, Nat.reduceAdd, J_add, J_sub, J_mul, J_neg, J_and, J_or, J_xor, J_shl, J_shr, J_div, J_i2b, J_i2l, J_l2i, J_lcm, J_max, J_min, J_nab, J_nao, rdA, rdF, rdL, wA_fold, wF_fold, wL_fold, wC_fold]
    exact ⟨(Or.inr (by trivial)), w⟩
  · have t5 : r3 = 0 := ((Jeq gr3 (by decide)).mp (Classical.byContradiction c4))
    replace w := w.2 t5
    exact ⟨(Or.inl (by trivial)), w⟩
theorem m202 {X : Cst} {d t : Nat} {L j p : Int} {tp : Int → Int} {c : Cd} {h : AH} {Q : Post} (C : Lay h) (hd : 7 ≤ d) (B : BT tp) (ht : t < 6) (R : RP h tp L j p c t) (hc : (c.length : Int) ≤ j) (hp : 0 ≤ p ∧ p ≤ 60) (k : RQs h tp L t (cp tp L j p c) Q) : Ex X PG d 202 0 [some (.ref 256), none, none, none, none] [] h Q := by
  obtain ⟨d, rfl⟩ : ∃ e, d = e + 1 := ⟨d - 1, by omega⟩
  have kj := R.1.j
  unfold cp at k
  refine r202_0 C ?_
  refine m192 C (by omega) B ht R hc hp ⟨fun e h2 F2 R2 => ⟨1, by omega, rfl, F2.1, fun _ => ?_, fun z => absurd z (by decide)⟩, fun e h2 F2 e9 => ⟨0, by omega, rfl, F2.1, fun z => absurd rfl z, fun _ => ?_⟩⟩
  rotate_left
  · rw [bn_neg e] at k
    exact k.bad e F2 e9
  rw [bn_pos e] at k
  obtain ⟨g1, g2, dd, g3, g4, -⟩ := Gd_sm (tp := tp) (c := c) kj.1 kj.2.1 hp.2 e
  generalize (sm tp L j p c).2.1 = j1 at *
  generalize (sm tp L j p c).2.2.1 = p1 at *
  generalize (sm tp L j p c).2.2.2 = c1 at *
  have cl : (c1.length : Int) ≤ j1 := by rw [g3, List.length_append]; omega
  have C2 := F2.C C
  have sv := (seeV_is (tp := tp) (L := L) (j := j1) B (by omega) kj.2.2.1).2.2
  have nb := nx_b (tp := tp) (L := L) (j := j1) (by omega) g1.2
  have i60 := mrk_see (tp := tp) (L := L) (j := j1) (c := 60) B (by omega) kj.2.2.1 (by omega)
  have i61 := mrk_see (tp := tp) (L := L) (j := j1) (c := 61) B (by omega) kj.2.2.1 (by omega)
  have i62 := mrk_see (tp := tp) (L := L) (j := j1) (c := 62) B (by omega) kj.2.2.1 (by omega)
  -- behind the sign o
  have rest : ∀ (q x3 : Int) (l4 : Option Value) (h3 : AH), Fr (TRz t) h h3 → RP h3 tp L (nx tp L j1) p1 c1 t → j1 < L → (q = 60 ∧ x3 = 0 ∧ sgO tp L j1 = 6 ∨ q = 60 ∧ x3 = 1 ∧ sgO tp L j1 = 7 ∨ q = 61 ∧ x3 = 0 ∧ sgO tp L j1 = 8 ∨ q = 62 ∧ x3 = 1 ∧ sgO tp L j1 = 9 ∨ q = 62 ∧ x3 = 0 ∧ sgO tp L j1 = 10) →
      Ex X PG (d + 1) 202 105 [some (.ref 256), some (.int (J q)), some (.int (J j1)), some (.int (J x3)), l4] [] h3 Q := by
    intro q x3 l4 h3 F3 R3 lt cs
    have C3 := F3.C C
    have ns : ¬ sgO tp L j1 = 0 := by omega
    rw [pI_neg ns] at k
    have fin : ∀ (s : Int) (h4 : AH), Fr (TRz t) h h4 → RP h4 tp L (nx tp L j1) (p1 + 1) c1 t → ¬ p1 = 60 → sgO tp L j1 = 6 + s → Ex X PG (d + 1) 202 154 [some (.ref 256), some (.int (J q)), some (.int (J j1)), some (.int (J x3)), some (.int (J s))] [] h4 Q := by
      intro s h4 F4 R4 np es
      rw [pI_neg np] at k
      refine r202_154 (F4.C C) ?_
      refine m192 (F4.C C) (by omega) B ht R4 (by omega) (by omega) ⟨fun e h5 F5 R5 => ⟨1, by omega, rfl, F5.1, fun _ => ?_, fun z => absurd z (by decide)⟩, fun e h5 F5 e9 => ⟨0, by omega, rfl, F5.1, fun z => absurd rfl z, fun _ => ?_⟩⟩
      · rw [bn_pos e] at k
        obtain ⟨y1, y2, yd, y3, y4, -⟩ := Gd_sm (tp := tp) (c := c1) (by omega) nb.2.1 (by omega) e
        generalize (sm tp L (nx tp L j1) (p1 + 1) c1).2.1 = j2 at *
        generalize (sm tp L (nx tp L j1) (p1 + 1) c1).2.2.1 = p2 at *
        generalize (sm tp L (nx tp L j1) (p1 + 1) c1).2.2.2 = c2 at *
        have cl2 : (c2.length : Int) + 1 ≤ j2 := by rw [y3, List.length_append]; omega
        rw [← es]
        have F5a := F4.tr F5
        refine m196 (c := c2) (F5a.C C) (by omega) ht R5.2.2.1 R5.2.2.2 (by omega) (by omega) (fun h6 F6 G6 => ⟨rfl, F6.1, ?_⟩)
        exact k.1 rfl h6 (F5a.tr (F6.mo (fun _ _ z => Or.inr z))) (R5.put F6 G6)
      · rw [bn_neg e] at k
        exact k.bad e (F4.tr F5) e9
    refine r202_105 C3 ?_
    refine m195 (p := p1) C3 (by omega) R3.2.1 R3.1.2.2.2.2 (fun np => ⟨1, by omega, rfl, SH.rf.wF, fun _ => ?_, fun z => absurd z (by decide)⟩) (fun e => ⟨0, by omega, rfl, SH.rf.wF, fun z => absurd rfl z, fun _ => ?_⟩)
    · have R4 := R3.mk12 ht (by omega) (by omega)
      have F4 : Fr (TRz t) h (wF h3 256 12 (p1 + 1)) := F3.wF (by unfold TRz TRp; omega)
      refine ⟨by omega, fun d1 => ⟨fun d2 => ⟨by omega, fun d3 => ?_, fun d3 => ?_⟩, fun d2 => ?_⟩, fun d1 => ⟨by omega, fun d3 => ?_, fun d3 => ?_⟩⟩
      · exact fin 4 _ F4 R4 np (by omega)
      · exact fin 3 _ F4 R4 np (by omega)
      · exact fin 2 _ F4 R4 np (by omega)
      · exact fin 0 _ F4 R4 np (by omega)
      · exact fin 1 _ F4 R4 np (by omega)
    · rw [pI_pos e] at k
      exact k.bad (by omega) (F3.wF (by unfold TRz TRp; omega)) (fI_wF_eq (by omega))
  -- the sign itself
  have sign : ∀ (q : Int) (l3 l4 : Option Value) (h3 : AH), Fr (TRz t) h h3 → RP h3 tp L j1 p1 c1 t → fI h3 256 8 = j1 → mrk tp L j1 q → (q = 60 ∨ q = 61 ∨ q = 62) → Ex X PG (d + 1) 202 44 [some (.ref 256), some (.int (J q)), some (.int (J j1)), l3, l4] [] h3 Q := by
    intro q l3 l4 h3 F3 R3 e8 mm hq
    have lt := mm.1
    have C3 := F3.C C
    have sg : sgO tp L j1 = pI (q = 60) (pI (wdn tp L j1) 7 6) (pI (q = 61) 8 (pI (wdn tp L j1) 9 10)) := by
      unfold sgO
      rcases hq with rfl | rfl | rfl
      · rw [pI_pos mm, pI_pos rfl]
      · rw [pI_neg (fun z => by have := z.2; have := mm.2; omega), pI_pos mm, pI_neg (by decide), pI_pos rfl]
      · rw [pI_neg (fun z => by have := z.2; have := mm.2; omega), pI_neg (fun z => by have := z.2; have := mm.2; omega), pI_pos mm, pI_neg (show ¬ (62 : Int) = 60 by decide), pI_neg (show ¬ (62 : Int) = 61 by decide)]
    have one : ¬ wdn tp L j1 → ∀ l4, Ex X PG (d + 1) 202 91 [some (.ref 256), some (.int (J q)), some (.int (J j1)), some (.int (J 0)), l4] [] (wF h3 256 8 (j1 + 1)) Q := by
      intro nw l4
      have R4 := R3.st (i := j1 + 1) ht (by omega) (by omega)
      rw [← nx_mk mm (by unfold dgP; omega) (by unfold leP; omega) nw] at R4
      rw [pI_neg nw, pI_neg nw] at sg
      refine r202_91 (Lay_SH SH.rf.wF C3) ⟨by omega, fun _ => ?_, fun z => absurd rfl z⟩
      refine rest q 0 _ _ (F3.wF (by unfold TRz TRp; omega)) R4 lt ?_
      rcases hq with rfl | rfl | rfl
      · rw [pI_pos rfl] at sg; omega
      · rw [pI_neg (by decide), pI_pos rfl] at sg; omega
      · rw [pI_neg (by decide), pI_neg (by decide)] at sg; omega
    refine r202_44 C3 ?_
    rw [e8, R3.1.1, R3.1.2.1.1]
    refine ⟨by omega, fun d1 => one (by unfold wdn; rw [mm.2]; omega) _, fun d1 => ⟨by omega, fun d2 => one (by unfold wdn; omega) _, fun d2 => ⟨by omega, fun d3 => one (by unfold wdn; omega) _, fun d3 => ?_⟩⟩⟩
    have w : wdn tp L j1 := ⟨by rw [mm.2]; omega, by omega, d3⟩
    have R4 := R3.st (i := j1 + 2) ht (by omega) (by omega)
    rw [← nx_mk2 mm (by unfold dgP; omega) (by unfold leP; omega) w] at R4
    rw [pI_pos w, pI_pos w] at sg
    refine r202_91 (Lay_SH SH.rf.wF C3) ?_
    rw [fI_wF_eq (by omega)]
    refine ⟨by omega, fun z => absurd z (by decide), fun _ => ?_⟩
    have R5 : RP (wF (wF h3 256 8 (j1 + 1)) 256 8 (j1 + 1 + 1)) tp L (nx tp L j1) p1 c1 t := by
      have R4a := (R3.st (i := j1 + 1) ht (by omega) (by omega)).st (i := j1 + 1 + 1) ht (by omega) (by omega)
      rw [show j1 + 1 + 1 = j1 + 2 by omega] at R4a ⊢
      rw [nx_mk2 mm (by unfold dgP; omega) (by unfold leP; omega) w]
      exact R4a
    refine rest q 1 _ _ ((F3.wF (by unfold TRz TRp; omega)).wF (by unfold TRz TRp; omega)) R5 lt ?_
    rcases hq with rfl | rfl | rfl
    · rw [pI_pos rfl] at sg; omega
    · exact absurd rfl d1
    · rw [pI_neg (by decide), pI_neg (by decide)] at sg; omega
  refine m175 C2 (by omega) R2.1 (fun h3 F3 K3 e8 => ⟨_, by omega, rfl, F3.1, ?_⟩)
  have R3 := R2.nx ht (by omega) F3 K3
  have G3 := F2.tr (F3.mo (fun _ _ => TNx_s))
  rw [e8]
  refine ⟨fun a0 => ?_, fun a0 => ⟨fun a1 => ?_, fun a1 => ⟨fun a2 => ?_, fun a2 => ?_⟩⟩⟩
  · rw [a0]; exact sign 60 _ _ h3 G3 R3 e8 (i60.mp a0) (by omega)
  · rw [a1]; exact sign 61 _ _ h3 G3 R3 e8 (i61.mp a1) (by omega)
  · rw [a2]; exact sign 62 _ _ h3 G3 R3 e8 (i62.mp a2) (by omega)
  · have z : sgO tp L j1 = 0 := by unfold sgO; rw [pI_neg (fun z => a0 (i60.mpr z)), pI_neg (fun z => a1 (i61.mpr z)), pI_neg (fun z => a2 (i62.mpr z))]
    rw [pI_pos z] at k
    refine m179 (F3.C C2) (by omega) K3.2.2.2.2 ⟨0, by omega, rfl, SH.rf.wF, Or.inl rfl, ?_⟩
    exact k.bad (by omega) (G3.wF (by unfold TRz TRp; omega)) (by rw [fI_wF_eq (by omega)]; omega)
