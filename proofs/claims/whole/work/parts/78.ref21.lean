/-! THE REFERENCE: price. -/
-- OutwardDoorsModel.price(I)I at 0
set_option maxRecDepth 20000 in
set_option maxHeartbeats 4000000 in
theorem r270_0 {X : Cst} {d : Nat} {x1 : Int} {h : AH} {Q : Post} (C_h : Lay h) (hd : 1 ≤ d)
  (w : (-2147483648 ≤ x1 ∧ x1 < 2147483648) ∧ (((0 ≤ x1 ∧ x1 < aI h 266 2) → (0 ≤ (aI h 266 2) ∧ (aI h 266 2) ≤ 5) ∧ (0 < aI h 266 0 ∧ aI h 266 0 ≤ 8) ∧ Ex X PG (d + 1) 270 23 [some (.ref 256), some (.int (J x1)), some (.int (J (pwi (aI h 266 0) (aI h 266 2)))), some (.int (J 0)), none] [] h Q) ∧ (¬ (0 ≤ x1 ∧ x1 < aI h 266 2) → Q (some (.int (J (-1)))) h))) :
    Ex X PG (d + 1) 270 0 [some (.ref 256), some (.int (J x1)), none, none, none] [] h Q := by
  refine wpx_ok (cut := [23, 58, 67]) 13 d 270 0 _ _ _ _ ?_
  show hs h 256 = (0, 11) ∧ Ex X PG d 213 0 [some (.ref 256), some (.int (J x1))] [] h (fun v1 h2 => ∃ r3, v1 = some (.int r3) ∧ ((¬ r3 = (J 0) → hs h2 256 = (0, 11) ∧ ∃ q7, hR h2 256 20 = some q7 ∧ (hs h2 q7).1 = 1 ∧ ix (J 2) (hs h2 q7).2 ∧ hs h2 256 = (0, 11) ∧ Ex X PG d 258 0 [some (.ref 256), some (.int (hI h2 q7 (Int32.toNatClampNeg (J 2)))), none, none] [] h2 (fun v8 h9 => ∃ r10, v8 = some (.int r10) ∧ Ex X PG (d + 1) 270 23 [some (.ref 256), some (.int (J x1)), some (.int r10), some (.int (J 0)), none] [] h9 Q)) ∧ (¬ (¬ r3 = (J 0)) → Q (some (.int (J (-1)))) h2)))
  try simp only [aI_wAL, fI_wAL, aL_wA, aL_wF, aI_wA_ne, aI_wF_ne, fI_wA_ne, fI_wF_ne, fI_wF_nk, aL_wAL_ne, J_sameA, J_sameF, aL_same, Nat.add_left_cancel_iff, Nat.add_eq_left, Nat.left_eq_add, not_false_eq_true, Nat.reduceEqDiff, Nat.reduceAdd, J_add, J_sub, J_mul, J_neg, J_and, J_or, J_xor, J_shl, J_shr, J_div, J_i2b, J_i2l, J_l2i, J_lcm, J_max, J_min, J_nab, J_nao, rdA, rdF, rdL, wA_fold, wF_fold, wL_fold, wC_fold]
  refine ⟨(ls256 C_h), ?_⟩
  obtain ⟨k4, w⟩ := w
  refine m213 (h := h) (x := x1) C_h (by omega) k4 ?_
  refine ⟨_, rfl, ?_⟩
  try simp only [aI_wAL, fI_wAL, aL_wA, aL_wF, aI_wA_ne, aI_wF_ne, fI_wA_ne, fI_wF_ne, fI_wF_nk, aL_wAL_ne, J_sameA, J_sameF, aL_same, Nat.add_left_cancel_iff, Nat.add_eq_left, Nat.left_eq_add, not_false_eq_true, Nat.reduceEqDiff, Nat.reduceAdd, J_add, J_sub, J_mul, J_neg, J_and, J_or, J_xor, J_shl, J_shr, J_div, J_i2b, J_i2l, J_l2i, J_lcm, J_max, J_min, J_nab, J_nao, rdA, rdF, rdL, wA_fold, wF_fold, wL_fold, wC_fold]
  refine ⟨fun c5 => ?_, fun c5 => ?_⟩
  · have t6 : (0 ≤ x1 ∧ x1 < aI h 266 2) := (Classical.byContradiction fun n => c5 ((bI0 _).mpr n))
    replace w := w.1 t6
    refine ⟨(ls256 C_h), _, (lr256_20 C_h), ?_⟩
    refine ⟨congrArg Prod.fst (ls266 C_h), ixs (ls266 C_h) (by decide) (by decide), ?_⟩
    refine ⟨(ls256 C_h), ?_⟩
    obtain ⟨k11, w⟩ := w
    obtain ⟨k12, w⟩ := w
    refine m258 (h := h) (p := (aI h 266 2)) C_h (by omega) k11 k12 ?_
    refine ⟨_, rfl, ?_⟩
    try simp only [aI_wAL, fI_wAL, aL_wA, aL_wF, aI_wA_ne, aI_wF_ne, fI_wA_ne, fI_wF_ne, fI_wF_nk, aL_wAL_ne, J_sameA, J_sameF, aL_same, Nat.add_left_cancel_iff, Nat.add_eq_left, Nat.left_eq_add, not_false_eq_true, Nat.reduceEqDiff, Nat.reduceAdd, J_add, J_sub, J_mul, J_neg, J_and, J_or, J_xor, J_shl, J_shr, J_div, J_i2b, J_i2l, J_l2i, J_lcm, J_max, J_min, J_nab, J_nao, rdA, rdF, rdL, wA_fold, wF_fold, wL_fold, wC_fold]
    exact w
  · have t6 : ¬ (0 ≤ x1 ∧ x1 < aI h 266 2) := ((bI0 _).mp (Classical.byContradiction fun n => c5 n))
    replace w := w.2 t6
    exact w
-- OutwardDoorsModel.price(I)I at 23
set_option maxRecDepth 20000 in
set_option maxHeartbeats 4000000 in
theorem r270_23 {X : Cst} {d : Nat} {x1 : Int} {x2 : Int} {x3 : Int} {l4 : Option Value} {h : AH} {Q : Post} (C_h : Lay h) (hd : 3 ≤ d)
  (w : (-2147483648 ≤ x3 ∧ x3 < 2147483648) ∧ (-2147483648 ≤ x2 ∧ x2 < 2147483648) ∧ ((x2 ≤ x3 → Ex X PG (d + 1) 270 58 [some (.ref 256), some (.int (J x1)), some (.int (J x2)), some (.int (J 1)), l4] [] h Q) ∧ (¬ x2 ≤ x3 → (WF 999 (aI h 266)) ∧ (0 < aI h 266 0) ∧ (0 ≤ x3 ∧ x3 < 32768) ∧ (0 ≤ (shl 1 (iand x1 31)) ∧ (shl 1 (iand x1 31)) < 2147483648) ∧ ((¬ (∀ p, 0 ≤ p → p < aI h 266 2 → bt (shl 1 (iand x1 31)) p → dgt (aI h 266 0) x3 p = pS (aI h 266) p 1) → (0 ≤ x3 ∧ x3 < 4096) ∧ Ex X PG (d + 1) 270 23 [some (.ref 256), some (.int (J x1)), some (.int (J x2)), some (.int (J (x3 + 1))), l4] [] (wA h 274 x3 (-1)) Q) ∧ ((∀ p, 0 ≤ p → p < aI h 266 2 → bt (shl 1 (iand x1 31)) p → dgt (aI h 266 0) x3 p = pS (aI h 266) p 1) → (0 ≤ x3 ∧ x3 < 4096) ∧ Ex X PG (d + 1) 270 23 [some (.ref 256), some (.int (J x1)), some (.int (J x2)), some (.int (J (x3 + 1))), l4] [] (wA h 274 x3 0) Q))))) :
    Ex X PG (d + 1) 270 23 [some (.ref 256), some (.int (J x1)), some (.int (J x2)), some (.int (J x3)), l4] [] h Q := by
  refine wpx_ok (cut := [23, 58, 67]) 18 d 270 23 _ _ _ _ ?_
  show (((J x2) ≤ (J x3) → Ex X PG (d + 1) 270 58 [some (.ref 256), some (.int (J x1)), some (.int (J x2)), some (.int (J 1)), l4] [] h Q) ∧ (¬ ((J x2) ≤ (J x3)) → hs h 256 = (0, 11) ∧ ∃ q5, hR h 256 36 = some q5 ∧ hs h 256 = (0, 11) ∧ Ex X PG d 259 0 [some (.ref 256), some (.int (J x3)), some (.int ((J 1) <<< ((J x1) &&& J 31))), none] [] h (fun v6 h7 => ∃ r8, v6 = some (.int r8) ∧ ((r8 = (J 0) → (hs h7 q5).1 = 1 ∧ ix (J x3) (hs h7 q5).2 ∧ Ex X PG (d + 1) 270 23 [some (.ref 256), some (.int (J x1)), some (.int (J x2)), some (.int ((J x3) + (J 1))), l4] [] (wI h7 q5 (Int32.toNatClampNeg (J x3)) (J (-1))) Q) ∧ (¬ (r8 = (J 0)) → (hs h7 q5).1 = 1 ∧ ix (J x3) (hs h7 q5).2 ∧ Ex X PG (d + 1) 270 23 [some (.ref 256), some (.int (J x1)), some (.int (J x2)), some (.int ((J x3) + (J 1))), l4] [] (wI h7 q5 (Int32.toNatClampNeg (J x3)) (J 0)) Q)))))
  try simp only [aI_wAL, fI_wAL, aL_wA, aL_wF, aI_wA_ne, aI_wF_ne, fI_wA_ne, fI_wF_ne, fI_wF_nk, aL_wAL_ne, J_sameA, J_sameF, aL_same, Nat.add_left_cancel_iff, Nat.add_eq_left, Nat.left_eq_add, not_false_eq_true, Nat.reduceEqDiff, Nat.reduceAdd, J_add, J_sub, J_mul, J_neg, J_and, J_or, J_xor, J_shl, J_shr, J_div, J_i2b, J_i2l, J_l2i, J_lcm, J_max, J_min, J_nab, J_nao, rdA, rdF, rdL, wA_fold, wF_fold, wL_fold, wC_fold]
  obtain ⟨k3, w⟩ := w
  obtain ⟨k4, w⟩ := w
  refine ⟨fun c1 => ?_, fun c1 => ?_⟩
  · have t2 : x2 ≤ x3 := ((Jle k4 k3).mp c1)
    replace w := w.1 t2
    exact w
  · have t2 : ¬ x2 ≤ x3 := (fun e => c1 ((Jle k4 k3).mpr e))
    replace w := w.2 t2
    refine ⟨(ls256 C_h), _, (lr256_36 C_h), ?_⟩
    refine ⟨(ls256 C_h), ?_⟩
    obtain ⟨k9, w⟩ := w
    obtain ⟨k10, w⟩ := w
    obtain ⟨k11, w⟩ := w
    obtain ⟨k12, w⟩ := w
    refine m259 (h := h) (c := x3) (s := (shl 1 (iand x1 31))) C_h (by omega) k9 k10 k11 k12 ?_
    refine ⟨_, rfl, ?_⟩
    try simp only [aI_wAL, fI_wAL, aL_wA, aL_wF, aI_wA_ne, aI_wF_ne, fI_wA_ne, fI_wF_ne, fI_wF_nk, aL_wAL_ne, J_sameA, J_sameF, aL_same, Nat.add_left_cancel_iff, Nat.add_eq_left, Nat.left_eq_add, not_false_eq_true, Nat.reduceEqDiff, Nat.reduceAdd, J_add, J_sub, J_mul, J_neg, J_and, J_or, J_xor, J_shl, J_shr, J_div, J_i2b, J_i2l, J_l2i, J_lcm, J_max, J_min, J_nab, J_nao, rdA, rdF, rdL, wA_fold, wF_fold, wL_fold, wC_fold]
    refine ⟨fun c13 => ?_, fun c13 => ?_⟩
    · have t14 : ¬ (∀ p, 0 ≤ p → p < aI h 266 2 → bt (shl 1 (iand x1 31)) p → dgt (aI h 266 0) x3 p = pS (aI h 266) p 1) := ((bI0 _).mp c13)
      replace w := w.1 t14
      obtain ⟨k15, w⟩ := w
      refine ⟨congrArg Prod.fst (ls274 C_h), ixs (ls274 C_h) k15 (by decide), ?_⟩
      exact w
    · have t14 : (∀ p, 0 ≤ p → p < aI h 266 2 → bt (shl 1 (iand x1 31)) p → dgt (aI h 266 0) x3 p = pS (aI h 266) p 1) := (Classical.byContradiction fun n => c13 ((bI0 _).mpr n))
      replace w := w.2 t14
      obtain ⟨k16, w⟩ := w
      refine ⟨congrArg Prod.fst (ls274 C_h), ixs (ls274 C_h) k16 (by decide), ?_⟩
      exact w
-- OutwardDoorsModel.price(I)I at 58
set_option maxRecDepth 20000 in
set_option maxHeartbeats 4000000 in
theorem r270_58 {X : Cst} {d : Nat} {x1 : Int} {x2 : Int} {x3 : Int} {l4 : Option Value} {h : AH} {Q : Post} (C_h : Lay h) (hd : 2 ≤ d)
  (w : (-2147483648 ≤ x3 ∧ x3 < 2147483648) ∧ ((x3 = 0 → (WF 999 (aI h 266)) ∧ (0 < aI h 266 0) ∧ (0 ≤ enc (aI h 266 0) (aI h 266 2).toNat (nowF (aI h 266)) ∧ enc (aI h 266 0) (aI h 266 2).toNat (nowF (aI h 266)) < 4096) ∧ ((0 ≤ aI h 274 (enc (aI h 266 0) (aI h 266 2).toNat (nowF (aI h 266))) → Q (some (.int (J (aI h 274 (enc (aI h 266 0) (aI h 266 2).toNat (nowF (aI h 266))))))) h) ∧ (¬ 0 ≤ aI h 274 (enc (aI h 266 0) (aI h 266 2).toNat (nowF (aI h 266))) → Q (some (.int (J (-2)))) h))) ∧ (¬ x3 = 0 → Ex X PG (d + 1) 270 67 [some (.ref 256), some (.int (J x1)), some (.int (J x2)), some (.int (J 0)), some (.int (J 0))] [] h Q))) :
    Ex X PG (d + 1) 270 58 [some (.ref 256), some (.int (J x1)), some (.int (J x2)), some (.int (J x3)), l4] [] h Q := by
  refine wpx_ok (cut := [23, 58, 67]) 14 d 270 58 _ _ _ _ ?_
  show (((J x3) = (J 0) → hs h 256 = (0, 11) ∧ ∃ q4, hR h 256 36 = some q4 ∧ hs h 256 = (0, 11) ∧ Ex X PG d 265 0 [some (.ref 256), none, none] [] h (fun v5 h6 => ∃ r7, v5 = some (.int r7) ∧ (hs h6 q4).1 = 1 ∧ ix r7 (hs h6 q4).2 ∧ (((J 0) ≤ (hI h6 q4 (Int32.toNatClampNeg r7)) → hs h6 256 = (0, 11) ∧ ∃ q13, hR h6 256 36 = some q13 ∧ hs h6 256 = (0, 11) ∧ Ex X PG d 265 0 [some (.ref 256), none, none] [] h6 (fun v14 h15 => ∃ r16, v14 = some (.int r16) ∧ (hs h15 q13).1 = 1 ∧ ix r16 (hs h15 q13).2 ∧ Q (some (.int (hI h15 q13 (Int32.toNatClampNeg r16)))) h15)) ∧ (¬ ((J 0) ≤ (hI h6 q4 (Int32.toNatClampNeg r7))) → Q (some (.int (J (-2)))) h6)))) ∧ (¬ ((J x3) = (J 0)) → Ex X PG (d + 1) 270 67 [some (.ref 256), some (.int (J x1)), some (.int (J x2)), some (.int (J 0)), some (.int (J 0))] [] h Q))
  try simp only [aI_wAL, fI_wAL, aL_wA, aL_wF, aI_wA_ne, aI_wF_ne, fI_wA_ne, fI_wF_ne, fI_wF_nk, aL_wAL_ne, J_sameA, J_sameF, aL_same, Nat.add_left_cancel_iff, Nat.add_eq_left, Nat.left_eq_add, not_false_eq_true, Nat.reduceEqDiff, Nat.reduceAdd, J_add, J_sub, J_mul, J_neg, J_and, J_or, J_xor, J_shl, J_shr, J_div, J_i2b, J_i2l, J_l2i, J_lcm, J_max, J_min, J_nab, J_nao, rdA, rdF, rdL, wA_fold, wF_fold, wL_fold, wC_fold]
  obtain ⟨k3, w⟩ := w
  refine ⟨fun c1 => ?_, fun c1 => ?_⟩
  · have t2 : x3 = 0 := ((Jeq k3 (by decide)).mp c1)
    replace w := w.1 t2
    refine ⟨(ls256 C_h), _, (lr256_36 C_h), ?_⟩
    refine ⟨(ls256 C_h), ?_⟩
    obtain ⟨k8, w⟩ := w
    obtain ⟨k9, w⟩ := w
    refine m265 (h := h)  C_h (by omega) k8 k9 ?_
    refine ⟨_, rfl, ?_⟩
    try simp only [aI_wAL, fI_wAL, aL_wA, aL_wF, aI_wA_ne, aI_wF_ne, fI_wA_ne, fI_wF_ne, fI_wF_nk, aL_wAL_ne, J_sameA, J_sameF, aL_same, Nat.add_left_cancel_iff, Nat.add_eq_left, Nat.left_eq_add, not_false_eq_true, Nat.reduceEqDiff, Nat.reduceAdd, J_add, J_sub, J_mul, J_neg, J_and, J_or, J_xor, J_shl, J_shr, J_div, J_i2b, J_i2l, J_l2i, J_lcm, J_max, J_min, J_nab, J_nao, rdA, rdF, rdL, wA_fold, wF_fold, wL_fold, wC_fold]
    obtain ⟨k10, w⟩ := w
    refine ⟨congrArg Prod.fst (ls274 C_h), ixs (ls274 C_h) k10 (by decide), ?_⟩
    refine ⟨fun c11 => ?_, fun c11 => ?_⟩
    · have t12 : 0 ≤ aI h 274 (enc (aI h 266 0) (aI h 266 2).toNat (nowF (aI h 266))) := ((Jle (by decide) (rg_toInt _)).mp c11)
      replace w := w.1 t12
      refine ⟨(ls256 C_h), _, (lr256_36 C_h), ?_⟩
      refine ⟨(ls256 C_h), ?_⟩
      refine m265 (h := h)  C_h (by omega) k8 k9 ?_
      refine ⟨_, rfl, ?_⟩
      try simp only [aI_wAL, fI_wAL, aL_wA, aL_wF, aI_wA_ne, aI_wF_ne, fI_wA_ne, fI_wF_ne, fI_wF_nk, aL_wAL_ne, J_sameA, J_sameF, aL_same, Nat.add_left_cancel_iff, Nat.add_eq_left, Nat.left_eq_add, not_false_eq_true, Nat.reduceEqDiff, Nat.reduceAdd, J_add, J_sub, J_mul, J_neg, J_and, J_or, J_xor, J_shl, J_shr, J_div, J_i2b, J_i2l, J_l2i, J_lcm, J_max, J_min, J_nab, J_nao, rdA, rdF, rdL, wA_fold, wF_fold, wL_fold, wC_fold]
      refine ⟨congrArg Prod.fst (ls274 C_h), ixs (ls274 C_h) k10 (by decide), ?_⟩
      exact w
    · have t12 : ¬ 0 ≤ aI h 274 (enc (aI h 266 0) (aI h 266 2).toNat (nowF (aI h 266))) := (fun e => c11 ((Jle (by decide) (rg_toInt _)).mpr e))
      replace w := w.2 t12
      exact w
  · have t2 : ¬ x3 = 0 := (fun e => c1 ((Jeq k3 (by decide)).mpr e))
    replace w := w.2 t2
    exact w
-- OutwardDoorsModel.price(I)I at 67
set_option maxRecDepth 20000 in
set_option maxHeartbeats 4000000 in
theorem r270_67 {X : Cst} {d : Nat} {x1 : Int} {x2 : Int} {x3 : Int} {x4 : Int} {h : AH} {Q : Post} (C_h : Lay h)
  (w : (-2147483648 ≤ x4 ∧ x4 < 2147483648) ∧ (-2147483648 ≤ x2 ∧ x2 < 2147483648) ∧ ((x2 ≤ x4 → Ex X PG (d + 1) 270 58 [some (.ref 256), some (.int (J x1)), some (.int (J x2)), some (.int (J x3)), some (.int (J x4))] [] h Q) ∧ (¬ x2 ≤ x4 → (0 ≤ x4 ∧ x4 < 4096) ∧ ((aI h 274 x4 < 0 → Ex X PG (d + 1) 270 67 [some (.ref 256), some (.int (J x1)), some (.int (J x2)), some (.int (J x3)), some (.int (J (x4 + 1)))] [] h Q) ∧ (¬ aI h 274 x4 < 0 → Ex X PG d 271 0 [some (.ref 256), some (.int (J x4)), some (.int (J x1)), none, none, none, none, none, none, none] [] h (fun v9 h10 => ∃ r11 : Int, (-2147483648 ≤ r11 ∧ r11 < 2147483648) ∧ v9 = some (.int (J r11)) ∧ SH h h10 ∧ ((r11 = 0 → Ex X PG (d + 1) 270 67 [some (.ref 256), some (.int (J x1)), some (.int (J x2)), some (.int (J x3)), some (.int (J (x4 + 1)))] [] h10 Q) ∧ (¬ r11 = 0 → Ex X PG (d + 1) 270 67 [some (.ref 256), some (.int (J x1)), some (.int (J x2)), some (.int (J 1)), some (.int (J (x4 + 1)))] [] h10 Q)))))))) :
    Ex X PG (d + 1) 270 67 [some (.ref 256), some (.int (J x1)), some (.int (J x2)), some (.int (J x3)), some (.int (J x4))] [] h Q := by
  refine wpx_ok (cut := [23, 58, 67]) 17 d 270 67 _ _ _ _ ?_
  show (((J x2) ≤ (J x4) → Ex X PG (d + 1) 270 58 [some (.ref 256), some (.int (J x1)), some (.int (J x2)), some (.int (J x3)), some (.int (J x4))] [] h Q) ∧ (¬ ((J x2) ≤ (J x4)) → hs h 256 = (0, 11) ∧ ∃ q5, hR h 256 36 = some q5 ∧ (hs h q5).1 = 1 ∧ ix (J x4) (hs h q5).2 ∧ (((hI h q5 (Int32.toNatClampNeg (J x4))) < (J 0) → Ex X PG (d + 1) 270 67 [some (.ref 256), some (.int (J x1)), some (.int (J x2)), some (.int (J x3)), some (.int ((J x4) + (J 1)))] [] h Q) ∧ (¬ ((hI h q5 (Int32.toNatClampNeg (J x4))) < (J 0)) → hs h 256 = (0, 11) ∧ Ex X PG d 271 0 [some (.ref 256), some (.int (J x4)), some (.int (J x1)), none, none, none, none, none, none, none] [] h (fun v9 h10 => ∃ r11, v9 = some (.int r11) ∧ ((r11 = (J 0) → Ex X PG (d + 1) 270 67 [some (.ref 256), some (.int (J x1)), some (.int (J x2)), some (.int (J x3)), some (.int ((J x4) + (J 1)))] [] h10 Q) ∧ (¬ (r11 = (J 0)) → Ex X PG (d + 1) 270 67 [some (.ref 256), some (.int (J x1)), some (.int (J x2)), some (.int (J 1)), some (.int ((J x4) + (J 1)))] [] h10 Q)))))))
  try simp only [aI_wAL, fI_wAL, aL_wA, aL_wF, aI_wA_ne, aI_wF_ne, fI_wA_ne, fI_wF_ne, fI_wF_nk, aL_wAL_ne, J_sameA, J_sameF, aL_same, Nat.add_left_cancel_iff, Nat.add_eq_left, Nat.left_eq_add, not_false_eq_true, Nat.reduceEqDiff, Nat.reduceAdd, J_add, J_sub, J_mul, J_neg, J_and, J_or, J_xor, J_shl, J_shr, J_div, J_i2b, J_i2l, J_l2i, J_lcm, J_max, J_min, J_nab, J_nao, rdA, rdF, rdL, wA_fold, wF_fold, wL_fold, wC_fold]
  obtain ⟨k3, w⟩ := w
  obtain ⟨k4, w⟩ := w
  refine ⟨fun c1 => ?_, fun c1 => ?_⟩
  · have t2 : x2 ≤ x4 := ((Jle k4 k3).mp c1)
    replace w := w.1 t2
    exact w
  · have t2 : ¬ x2 ≤ x4 := (fun e => c1 ((Jle k4 k3).mpr e))
    replace w := w.2 t2
    refine ⟨(ls256 C_h), _, (lr256_36 C_h), ?_⟩
    obtain ⟨k6, w⟩ := w
    refine ⟨congrArg Prod.fst (ls274 C_h), ixs (ls274 C_h) k6 (by decide), ?_⟩
    refine ⟨fun c7 => ?_, fun c7 => ?_⟩
    · have t8 : aI h 274 x4 < 0 := ((Jlt (rg_toInt _) (by decide)).mp c7)
      replace w := w.1 t8
      exact w
    · have t8 : ¬ aI h 274 x4 < 0 := (fun e => c7 ((Jlt (rg_toInt _) (by decide)).mpr e))
      replace w := w.2 t8
      refine ⟨(ls256 C_h), ?_⟩
      refine Ex.mono w (Nat.le_refl _) ?_
      rintro v9 h10 ⟨r11, gr11, rfl, s14, w⟩
      refine ⟨_, rfl, ?_⟩
      have C_h10 := Lay_SH s14 C_h
      try simp only [aI_wAL, fI_wAL, aL_wA, aL_wF, aI_wA_ne, aI_wF_ne, fI_wA_ne, fI_wF_ne, fI_wF_nk, aL_wAL_ne, J_sameA, J_sameF, aL_same, Nat.add_left_cancel_iff, Nat.add_eq_left, Nat.left_eq_add, not_false_eq_true, Nat.reduceEqDiff, Nat.reduceAdd, J_add, J_sub, J_mul, J_neg, J_and, J_or, J_xor, J_shl, J_shr, J_div, J_i2b, J_i2l, J_l2i, J_lcm, J_max, J_min, J_nab, J_nao, rdA, rdF, rdL, wA_fold, wF_fold, wL_fold, wC_fold]
      refine ⟨fun c12 => ?_, fun c12 => ?_⟩
      · have t13 : r11 = 0 := ((Jeq gr11 (by decide)).mp c12)
        replace w := w.1 t13
        exact w
      · have t13 : ¬ r11 = 0 := (fun e => c12 ((Jeq gr11 (by decide)).mpr e))
        replace w := w.2 t13
        exact w
theorem m270 {X : Cst} {d : Nat} {p M : Int} {S : Int → Int} {h : AH} {Q : Post} (C : Lay h) (hd : 7 ≤ d) (eS : aI h 266 = S) (W : WF M S) (hM : M ≤ 999) (g1 : -2147483648 ≤ p ∧ p < 2147483648)
    (k0 : ¬ (0 ≤ p ∧ p < S 2) → Q (some (.int (J (-1)))) h)
    (k : (0 ≤ p ∧ p < S 2) → ∀ h' v, Fr TR h h' → IsP S (nightP S) (S 2).toNat p (fun f => f p = pS S p 1) (nowF S) v → Q (some (.int (J (if v < 0 then -2 else v)))) h') : Ex X PG d 270 0 [some (.ref 256), some (.int (J p)), none, none, none] [] h Q := by
  obtain ⟨d, rfl⟩ : ∃ e, d = e + 1 := ⟨d - 1, by omega⟩
  have b := W.1
  unfold WFb at b
  have W9 : WF 999 S := W.up hM
  by_cases hp : 0 ≤ p ∧ p < S 2
  case neg =>
    by_cases hn : 0 < S 0 ∧ S 0 ≤ 8
    · refine r270_0 C (by omega) ?_
      rw [eS]
      exact ⟨g1, fun c => absurd c hp, fun _ => k0 hp⟩
    · refine r270_0 C (by omega) ?_
      rw [eS]
      exact ⟨g1, fun c => absurd c hp, fun _ => k0 hp⟩
  have hn : 0 < S 0 := by have := W.2.1 p hp.1 hp.2; omega
  have hn8 : 0 < S 0 ∧ S 0 ≤ 8 := by omega
  have pw := pw_4k hn8.1 hn8.2 (m := (S 2).toNat) (by omega)
  have eb : ∀ g, Kf (S 2).toNat (S 0) g → 0 ≤ enc (S 0) (S 2).toNat g ∧ enc (S 0) (S 2).toNat g < S 0 ^ (S 2).toNat := fun g kg => enc_b hn _ g kg.1
  have kn := nowF_K W
  have ebn := eb _ kn
  have ks : ∀ h', Fr (fun c _ => c = 274) h h' → aI h' 266 = S := fun h' F => by rw [F.a 266 (fun k z => by omega)]; exact eS
  have b4 : (2 : Nat) ^ p.toNat ≤ 2 ^ 4 := Nat.pow_le_pow_right (by decide) (by omega)
  have s0 : (0 : Int) ≤ ((2 ^ p.toNat : Nat) : Int) := Int.natCast_nonneg _
  have s1 : ((2 ^ p.toNat : Nat) : Int) ≤ ((2 ^ 4 : Nat) : Int) := Int.ofNat_le.mpr b4
  -- the end
  have fin : ∀ (h' : AH) (l4 : Option Value), Fr (fun c _ => c = 274) h h' → PI S p (fun f => f p = pS S p 1) (aI h' 274) → (∀ f, Kf (S 2).toNat (S 0) f → 0 ≤ aI h' 274 (enc (S 0) (S 2).toNat f) → ∀ g p' d q, Lbl S (nightP S) (S 2).toNat (-1) g p' d q f → 0 ≤ aI h' 274 (enc (S 0) (S 2).toNat g) ∧ aI h' 274 (enc (S 0) (S 2).toNat g) ≤ aI h' 274 (enc (S 0) (S 2).toNat f) + wt S p p') → Ex X PG (d + 1) 270 58 [some (.ref 256), some (.int (J p)), some (.int (J (S 0 ^ (S 2).toNat))), some (.int (J 0)), l4] [] h' Q := by
    intro h' l4 F I rl
    refine r270_58 (F.C C) (by omega) ?_
    rw [ks h' F]
    have cpl : ∀ (n : Nat) (c : Int) (f : Int → Int), Kf (S 2).toNat (S 0) f → PK S (nightP S) (S 2).toNat p (fun f => f p = pS S p 1) n c f → 0 ≤ aI h' 274 (enc (S 0) (S 2).toNat f) ∧ aI h' 274 (enc (S 0) (S 2).toNat f) ≤ c := by
      intro n
      induction n with
      | zero => intro c f kf r; have := I.2.1 f kf r.2; have := r.1; omega
      | succ n ih =>
        intro c f kf r
        obtain ⟨p', d', q', g, hl, r⟩ := r
        have kg := Lbl_K W hl kf
        have ig := ih _ g kg r
        have := rl g kg ig.1 f p' d' q' hl
        omega
    have D : IsP S (nightP S) (S 2).toNat p (fun f => f p = pS S p 1) (nowF S) (aI h' 274 (enc (S 0) (S 2).toNat (nowF S))) := by
      by_cases c : 0 ≤ aI h' 274 (enc (S 0) (S 2).toNat (nowF S))
      · exact Or.inr ⟨c, I.1 _ kn c, fun x ⟨n, r⟩ => (cpl n x _ kn r).2⟩
      · have := (I.2.2 _ ebn.1 ebn.2).1
        exact Or.inl ⟨by omega, fun x ⟨n, r⟩ => c (cpl n x _ kn r).1⟩
    have q := k hp h' _ (F.mo fun c k z => by unfold TR; omega) D
    refine ⟨by decide, fun _ => ⟨W9, hn, by omega, fun c => ?_, fun c => ?_⟩, fun z => absurd rfl z⟩
    · rw [if_neg (by omega)] at q; exact q
    · rw [if_pos (by omega)] at q; exact q
  -- once more over all
  have lo : ∀ (z : Nat) (h' : AH) (l4 : Option Value), PM S (aI h' 274) ≤ z → Fr (fun c _ => c = 274) h h' → PI S p (fun f => f p = pS S p 1) (aI h' 274) → Ex X PG (d + 1) 270 58 [some (.ref 256), some (.int (J p)), some (.int (J (S 0 ^ (S 2).toNat))), some (.int (J 1)), l4] [] h' Q := by
    intro z
    induction z with
    | zero =>
      intro h' l4 pm F I
      refine r270_58 (F.C C) (by omega) ⟨by decide, fun z => absurd z (by decide), fun _ => ?_⟩
      have nn := PM_nn (S := S) (A := aI h' 274)
      have l1 : ∀ (y : Nat) (i : Int), S 0 ^ (S 2).toNat - i = y → 0 ≤ i → (∀ f, Kf (S 2).toNat (S 0) f → enc (S 0) (S 2).toNat f < i → 0 ≤ aI h' 274 (enc (S 0) (S 2).toNat f) → ∀ g p' d q, Lbl S (nightP S) (S 2).toNat (-1) g p' d q f → 0 ≤ aI h' 274 (enc (S 0) (S 2).toNat g) ∧ aI h' 274 (enc (S 0) (S 2).toNat g) ≤ aI h' 274 (enc (S 0) (S 2).toNat f) + wt S p p') → Ex X PG (d + 1) 270 67 [some (.ref 256), some (.int (J p)), some (.int (J (S 0 ^ (S 2).toNat))), some (.int (J 0)), some (.int (J i))] [] h' Q := by
        intro y
        induction y with
        | zero =>
          intro i y1 i0 a
          exact r270_67 (F.C C) ⟨by omega, by omega, fun _ => fin h' _ F I (fun f kf => a f kf (by have := eb f kf; omega)), fun y => absurd (by omega) y⟩
        | succ y ih =>
          intro i y1 i0 a
          have kd := dcd_K hn (S 2).toNat i
          have ed := enc_dcd hn (S 2).toNat i i0 (by omega)
          have nx : (0 ≤ aI h' 274 i → ∀ g p' d q, Lbl S (nightP S) (S 2).toNat (-1) g p' d q (dcd (S 0) (S 2).toNat i) → 0 ≤ aI h' 274 (enc (S 0) (S 2).toNat g) ∧ aI h' 274 (enc (S 0) (S 2).toNat g) ≤ aI h' 274 i + wt S p p') → Ex X PG (d + 1) 270 67 [some (.ref 256), some (.int (J p)), some (.int (J (S 0 ^ (S 2).toNat))), some (.int (J 0)), some (.int (J (i + 1)))] [] h' Q := by
            intro H
            refine ih (i + 1) (by omega) (by omega) (fun f kf fi pf => ?_)
            by_cases e : enc (S 0) (S 2).toNat f = i
            · have ff : f = dcd (S 0) (S 2).toNat i := enc_inj hn kf kd (by rw [ed]; exact e)
              rw [e] at pf ⊢
              rw [ff]
              exact H pf
            · exact a f kf (by omega) pf
          refine r270_67 (F.C C) ⟨by omega, by omega, fun y => absurd y (by omega), fun _ => ⟨by omega, fun c => nx (fun z => absurd z (by omega)), fun c => ?_⟩⟩
          refine m271 (b := p) (G := fun f => f p = pS S p 1) (f := dcd (S 0) (S 2).toNat i) (F.C C) (by omega) (ks h' F) W hM hn kd ed.symm I (by omega) hp (fun rl => ⟨0, by decide, rfl, SH.rf, fun _ => nx (fun _ => rl), fun z => absurd rfl z⟩) (fun h2 F2 I2 p2 => ?_)
          have := PM_nn (S := S) (A := aI h2 274)
          omega
      exact l1 (S 0 ^ (S 2).toNat).toNat 0 (by omega) (by omega) (fun f kf z => by have := eb f kf; omega)
    | succ z ihz =>
      intro h' l4 pm F I
      refine r270_58 (F.C C) (by omega) ⟨by decide, fun z => absurd z (by decide), fun _ => ?_⟩
      have l1 : ∀ (y : Nat) (i x : Int) (h2 : AH), S 0 ^ (S 2).toNat - i = y → 0 ≤ i → Fr (fun c _ => c = 274) h h2 → PI S p (fun f => f p = pS S p 1) (aI h2 274) → ((x = 0 ∧ h2 = h' ∧ ∀ f, Kf (S 2).toNat (S 0) f → enc (S 0) (S 2).toNat f < i → 0 ≤ aI h' 274 (enc (S 0) (S 2).toNat f) → ∀ g p' d q, Lbl S (nightP S) (S 2).toNat (-1) g p' d q f → 0 ≤ aI h' 274 (enc (S 0) (S 2).toNat g) ∧ aI h' 274 (enc (S 0) (S 2).toNat g) ≤ aI h' 274 (enc (S 0) (S 2).toNat f) + wt S p p') ∨ (x = 1 ∧ PM S (aI h2 274) ≤ z)) → Ex X PG (d + 1) 270 67 [some (.ref 256), some (.int (J p)), some (.int (J (S 0 ^ (S 2).toNat))), some (.int (J x)), some (.int (J i))] [] h2 Q := by
        intro y
        induction y with
        | zero =>
          intro i x h2 y1 i0 F2 I2 st
          refine r270_67 (F2.C C) ⟨by omega, by omega, fun _ => ?_, fun y => absurd (by omega) y⟩
          rcases st with ⟨rfl, rfl, a⟩ | ⟨rfl, st⟩
          · exact fin h2 _ F2 I2 (fun f kf => a f kf (by have := eb f kf; omega))
          · exact ihz h2 _ st F2 I2
        | succ y ih =>
          intro i x h2 y1 i0 F2 I2 st
          have kd := dcd_K hn (S 2).toNat i
          have ed := enc_dcd hn (S 2).toNat i i0 (by omega)
          have nx : (0 ≤ aI h2 274 i → ∀ g p' d q, Lbl S (nightP S) (S 2).toNat (-1) g p' d q (dcd (S 0) (S 2).toNat i) → 0 ≤ aI h2 274 (enc (S 0) (S 2).toNat g) ∧ aI h2 274 (enc (S 0) (S 2).toNat g) ≤ aI h2 274 i + wt S p p') → Ex X PG (d + 1) 270 67 [some (.ref 256), some (.int (J p)), some (.int (J (S 0 ^ (S 2).toNat))), some (.int (J x)), some (.int (J (i + 1)))] [] h2 Q := by
            intro H
            refine ih (i + 1) x h2 (by omega) (by omega) F2 I2 ?_
            rcases st with ⟨rfl, rfl, a⟩ | st
            · refine Or.inl ⟨rfl, rfl, fun f kf fi pf => ?_⟩
              by_cases e : enc (S 0) (S 2).toNat f = i
              · have ff : f = dcd (S 0) (S 2).toNat i := enc_inj hn kf kd (by rw [ed]; exact e)
                rw [e] at pf ⊢
                rw [ff]
                exact H pf
              · exact a f kf (by omega) pf
            · exact Or.inr st
          refine r270_67 (F2.C C) ⟨by omega, by omega, fun y => absurd y (by omega), fun _ => ⟨by omega, fun c => nx (fun z => absurd z (by omega)), fun c => ?_⟩⟩
          refine m271 (b := p) (G := fun f => f p = pS S p 1) (f := dcd (S 0) (S 2).toNat i) (F2.C C) (by omega) (ks h2 F2) W hM hn kd ed.symm I2 (by omega) hp (fun rl => ⟨0, by decide, rfl, SH.rf, fun _ => nx (fun _ => rl), fun z => absurd rfl z⟩) (fun h3 F3 I3 p3 => ⟨1, by decide, rfl, F3.1, fun z => absurd z (by decide), fun _ => ?_⟩)
          refine ih (i + 1) 1 h3 (by omega) (by omega) (F2.tr F3) I3 (Or.inr ⟨rfl, ?_⟩)
          rcases st with ⟨_, rfl, _⟩ | ⟨_, st⟩ <;> omega
      exact l1 (S 0 ^ (S 2).toNat).toNat 0 0 h' (by omega) (by omega) F I (Or.inl ⟨rfl, rfl, fun f kf z => by have := eb f kf; omega⟩)
  -- the begin
  have cg : ∀ f, atG S ((2 ^ p.toNat : Nat) : Int) f ↔ f p = pS S p 1 := fun f => atG_pow (by omega) hp
  have li : ∀ (y : Nat) (i : Int) (h' : AH) (l4 : Option Value), S 0 ^ (S 2).toNat - i = y → 0 ≤ i → Fr (fun c _ => c = 274) h h' → (∀ x, 0 ≤ x → x < i → (dcd (S 0) (S 2).toNat x p = pS S p 1 → aI h' 274 x = 0) ∧ (¬ dcd (S 0) (S 2).toNat x p = pS S p 1 → aI h' 274 x = -1)) → Ex X PG (d + 1) 270 23 [some (.ref 256), some (.int (J p)), some (.int (J (S 0 ^ (S 2).toNat))), some (.int (J i)), l4] [] h' Q := by
    intro y
    induction y with
    | zero =>
      intro i h' l4 y1 i0 F a
      refine r270_23 (F.C C) (by omega) ⟨by omega, by omega, fun _ => ?_, fun y => absurd (by omega) y⟩
      refine lo (PM S (aI h' 274)).toNat h' _ (by have := PM_nn (S := S) (A := aI h' 274); omega) F ⟨fun f kf pf => ?_, fun f kf gf => ?_, fun x x0 x1 => ?_⟩
      · have ef := eb f kf
        have := a _ ef.1 (by omega)
        rw [dcd_enc hn kf] at this
        by_cases c : f p = pS S p 1
        · rw [this.1 c]; exact ⟨0, rfl, c⟩
        · have := this.2 c; omega
      · have ef := eb f kf
        have := a _ ef.1 (by omega)
        rw [dcd_enc hn kf] at this
        exact this.1 gf
      · have cbn := cnt_b (fun y => 0 ≤ aI h' 274 y) (i := S 0 ^ (S 2).toNat) (by omega)
        have := a x x0 (by omega)
        by_cases c : dcd (S 0) (S 2).toNat x p = pS S p 1
        · have := this.1 c; omega
        · have := this.2 c; omega
    | succ y ih =>
      intro i h' l4 y1 i0 F a
      have kd := dcd_K hn (S 2).toNat i
      have ed := enc_dcd hn (S 2).toNat i i0 (by omega)
      refine r270_23 (F.C C) (by omega) ?_
      rw [ks h' F, shl_1 (by omega)]
      have eq : (∀ p', 0 ≤ p' → p' < S 2 → bt ((2 ^ p.toNat : Nat) : Int) p' → dgt (S 0) i p' = pS S p' 1) ↔ dcd (S 0) (S 2).toNat i p = pS S p 1 := by
        have dg : ∀ p', 0 ≤ p' → p' < S 2 → dgt (S 0) i p' = dcd (S 0) (S 2).toNat i p' := fun p' p0 p1 => by
          have := dgt_enc hn8 kd (p := p') (by omega)
          rw [ed] at this; exact this
        rw [← cg]
        exact ⟨fun z p p0 p1 hb => by rw [← dg p p0 p1]; exact z p p0 p1 hb, fun z p p0 p1 hb => by rw [dg p p0 p1]; exact z p p0 p1 hb⟩
      refine ⟨by omega, by omega, fun y => absurd y (by omega), fun _ => ⟨W9, hn, by omega, ⟨s0, Int.lt_of_le_of_lt s1 (by decide)⟩, fun c => ⟨by omega, ?_⟩, fun c => ⟨by omega, ?_⟩⟩⟩
      · refine ih (i + 1) _ _ (by omega) (by omega) (F.wA rfl) (fun x x0 x1 => ?_)
        rw [aI_wA (by decide)]
        by_cases e : x = i
        · subst e; rw [uu_eq]; exact ⟨fun z => absurd (eq.mpr z) c, fun _ => rfl⟩
        · rw [uu_ne (by omega) (by omega) e]; exact a x x0 (by omega)
      · refine ih (i + 1) _ _ (by omega) (by omega) (F.wA rfl) (fun x x0 x1 => ?_)
        rw [aI_wA (by decide)]
        by_cases e : x = i
        · subst e; rw [uu_eq]; exact ⟨fun _ => rfl, fun z => absurd (eq.mp c) z⟩
        · rw [uu_ne (by omega) (by omega) e]; exact a x x0 (by omega)
  refine r270_0 C (by omega) ?_
  rw [eS, pwi_e hn8 (by omega)]
  refine ⟨g1, fun _ => ⟨by omega, hn8, ?_⟩, fun z => absurd hp z⟩
  exact li (S 0 ^ (S 2).toNat).toNat 0 h _ (by omega) (by omega) Fr.rf (fun x x0 x1 => by omega)
