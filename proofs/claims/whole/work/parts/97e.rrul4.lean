/-! RULES as the reference reads them: facts and tests, with a row of what is open. -/
def N29 (X : Cst) (d : Nat) (l2 : Option Value) (Q : Post) (h2 : AH) : Prop := Ex X PG d 177 0 [some (.ref 256), some (.long (6385252 : Int64)), none, none, none, none] [] h2 (fun v3 h4 => ∃ r5 : Int, (-2147483648 ≤ r5 ∧ r5 < 2147483648) ∧ v3 = some (.int (J r5)) ∧ SH h2 h4 ∧ ((¬ r5 = 0 → Ex X PG (d + 1) 199 55 [some (.ref 256), some (.int (J 1)), l2] [] h4 Q) ∧ (r5 = 0 → Ex X PG d 177 0 [some (.ref 256), some (.long (28530 : Int64)), none, none, none, none] [] h4 (fun v8 h9 => ∃ r10 : Int, (-2147483648 ≤ r10 ∧ r10 < 2147483648) ∧ v8 = some (.int (J r10)) ∧ SH h4 h9 ∧ ((r10 = 0 → Ex X PG (d + 1) 199 55 [some (.ref 256), some (.int (J 0)), l2] [] h9 Q) ∧ (¬ r10 = 0 → Ex X PG (d + 1) 199 55 [some (.ref 256), some (.int (J 1)), l2] [] h9 Q))))))
def N5 (X : Cst) (d : Nat) (Q : Post) (h : AH) : Prop := Ex X PG d 175 0 [some (.ref 256)] [] h (fun v1 h2 => ∃ r3 : Int, (-2147483648 ≤ r3 ∧ r3 < 2147483648) ∧ v1 = some (.int (J r3)) ∧ SH h h2 ∧ ((¬ r3 = 93 → Q none h2) ∧ (r3 = 93 → Ex X PG d 206 0 [some (.ref 256), none] [] h2 (fun v6 h7 => ∃ r8 : Int, (-2147483648 ≤ r8 ∧ r8 < 2147483648) ∧ v6 = some (.int (J r8)) ∧ SH h2 h7 ∧ ((r8 = 0 → Q none h7) ∧ (¬ r8 = 0 → Ex X PG d 204 0 [some (.ref 256), some (.int (J 1))] [] h7 (fun v11 h12 => v11 = none ∧ SH h7 h12 ∧ Ex X PG d 204 0 [some (.ref 256), some (.int (J 3))] [] (wF (wF (wF h12 256 16 ((fI h12 256 16) - 1)) 256 13 ((fI h12 256 13) - 1)) 256 8 ((fI h12 256 8) + 1)) (fun v13 h14 => v13 = none ∧ SH (wF (wF (wF h12 256 16 ((fI h12 256 16) - 1)) 256 13 ((fI h12 256 13) - 1)) 256 8 ((fI h12 256 8) + 1)) h14 ∧ Ex X PG (d + 1) 203 5 [some (.ref 256)] [] h14 Q))))))))
/-- what stands behind closes() in tested(), called over hc -/
def KC (X : Cst) (d : Nat) (l2 : Option Value) (Q : Post) (hc : AH) : Post := fun v h2 => v = none ∧ SH hc h2 ∧ N29 X d l2 Q h2
/-- what stands behind fact() -/
def KF (X : Cst) (d : Nat) (l2 : Option Value) (Q : Post) (hc : AH) : Post := fun v4 h5 => ∃ r6 : Int, (-2147483648 ≤ r6 ∧ r6 < 2147483648) ∧ v4 = some (.int (J r6)) ∧ SH hc h5 ∧ ((¬ r6 = 0 → Ex X PG (d + 1) 199 25 [some (.ref 256), some (.int (J 1)), l2] [] h5 Q) ∧ (r6 = 0 → Q (some (.int (J 0))) h5))
def aS (a : Bool) : List Int := if a then [12] else []
def oS (o : Bool) : List Int := if o then [13] else []
theorem pp3_91 (s : List Int) (o a : Bool) (hs' : s = [] ∨ ∃ s', s = 91 :: s') : pp 3 (aS a ++ (oS o ++ s)) = [] ∧ pr 3 (aS a ++ (oS o ++ s)) = aS a ++ (oS o ++ s) := by
  rcases hs' with rfl | ⟨s', rfl⟩ <;> cases o <;> cases a <;> exact ⟨rfl, rfl⟩
theorem pp2_91 (s : List Int) (o a : Bool) (hs' : s = [] ∨ ∃ s', s = 91 :: s') : pp 2 (aS a ++ (oS o ++ s)) = aLc a ∧ pr 2 (aS a ++ (oS o ++ s)) = oS o ++ s := by
  rcases hs' with rfl | ⟨s', rfl⟩ <;> cases o <;> cases a <;> exact ⟨rfl, rfl⟩
theorem pp1_91 (s : List Int) (o a : Bool) (hs' : s = [] ∨ ∃ s', s = 91 :: s') : pp 1 (aS a ++ (oS o ++ s)) = aLc a ++ oL o ∧ pr 1 (aS a ++ (oS o ++ s)) = s := by
  rcases hs' with rfl | ⟨s', rfl⟩ <;> cases o <;> cases a <;> exact ⟨rfl, rfl⟩
theorem dpt_st (s : List Int) (o a : Bool) : dpt (aS a ++ (oS o ++ s)) = dpt s := by
  cases o <;> cases a
  · rfl
  · show (if (12 : Int) = 11 ∨ (12 : Int) = 91 then 1 else 0) + dpt s = dpt s
    rw [if_neg (by decide)]; omega
  · show (if (13 : Int) = 11 ∨ (13 : Int) = 91 then 1 else 0) + dpt s = dpt s
    rw [if_neg (by decide)]; omega
  · show (if (12 : Int) = 11 ∨ (12 : Int) = 91 then 1 else 0) + ((if (13 : Int) = 11 ∨ (13 : Int) = 91 then 1 else 0) + dpt s) = dpt s
    rw [if_neg (by decide), if_neg (by decide)]; omega
theorem mem_st (s : List Int) (o a : Bool) : (91 : Int) ∈ aS a ++ (oS o ++ s) ↔ (91 : Int) ∈ s := by
  cases o <;> cases a <;> simp [aS, oS]
theorem FS.nx {h h' : AH} {tp : Int → Int} {L j j' p : Int} {c : Cd} {t : Nat} {s : List Int} (S : FS h tp L j p c t s) (ht : t < 6) (F : Fr TNx h h') (K : RkC h' tp L j' 0) (hj : j ≤ j') : FS h' tp L j' p c t s := by
  obtain ⟨R, S, O, hc, hs'⟩ := S
  have kj := R.1.j
  have pb := pnd_b s
  exact ⟨R.nx ht (by omega) F K, S.fr F (fun a k z => by unfold TNx at z; omega), O, by omega, by omega⟩
-- OutwardDoorsModel.closes()V at 0
set_option maxRecDepth 20000 in
set_option maxHeartbeats 4000000 in
theorem r203_0 {X : Cst} {d : Nat}  {h : AH} {Q : Post} (C_h : Lay h)
  (w : Ex X PG d 204 0 [some (.ref 256), some (.int (J 3))] [] h (fun v1 h2 => v1 = none ∧ SH h h2 ∧ Ex X PG d 175 0 [some (.ref 256)] [] h2 (fun v3 h4 => ∃ r5 : Int, (-2147483648 ≤ r5 ∧ r5 < 2147483648) ∧ v3 = some (.int (J r5)) ∧ SH h2 h4 ∧ ((¬ r5 = 93 → Q none h4) ∧ (r5 = 93 → Ex X PG d 206 0 [some (.ref 256), none] [] h4 (fun v8 h9 => ∃ r10 : Int, (-2147483648 ≤ r10 ∧ r10 < 2147483648) ∧ v8 = some (.int (J r10)) ∧ SH h4 h9 ∧ ((r10 = 0 → Q none h9) ∧ (¬ r10 = 0 → Ex X PG d 204 0 [some (.ref 256), some (.int (J 1))] [] h9 (fun v13 h14 => v13 = none ∧ SH h9 h14 ∧ Ex X PG d 204 0 [some (.ref 256), some (.int (J 3))] [] (wF (wF (wF h14 256 16 ((fI h14 256 16) - 1)) 256 13 ((fI h14 256 13) - 1)) 256 8 ((fI h14 256 8) + 1)) (fun v15 h16 => v15 = none ∧ SH (wF (wF (wF h14 256 16 ((fI h14 256 16) - 1)) 256 13 ((fI h14 256 13) - 1)) 256 8 ((fI h14 256 8) + 1)) h16 ∧ Ex X PG (d + 1) 203 5 [some (.ref 256)] [] h16 Q)))))))))) :
    Ex X PG (d + 1) 203 0 [some (.ref 256)] [] h Q := by
  refine wpx_ok (cut := [5]) 35 d 203 0 _ _ _ _ ?_
  show hs h 256 = (0, 11) ∧ Ex X PG d 204 0 [some (.ref 256), some (.int (J 3))] [] h (fun v1 h2 => v1 = none ∧ hs h2 256 = (0, 11) ∧ Ex X PG d 175 0 [some (.ref 256)] [] h2 (fun v3 h4 => ∃ r5, v3 = some (.int r5) ∧ ((¬ r5 = (J 93) → Q none h4) ∧ (¬ (¬ r5 = (J 93)) → hs h4 256 = (0, 11) ∧ Ex X PG d 206 0 [some (.ref 256), none] [] h4 (fun v8 h9 => ∃ r10, v8 = some (.int r10) ∧ ((r10 = (J 0) → Q none h9) ∧ (¬ (r10 = (J 0)) → hs h9 256 = (0, 11) ∧ Ex X PG d 204 0 [some (.ref 256), some (.int (J 1))] [] h9 (fun v13 h14 => v13 = none ∧ hs h14 256 = (0, 11) ∧ hs h14 256 = (0, 11) ∧ hs (wG h14 256 16 ((hF h14 256 16) - (J 1))) 256 = (0, 11) ∧ hs (wG h14 256 16 ((hF h14 256 16) - (J 1))) 256 = (0, 11) ∧ hs (wG (wG h14 256 16 ((hF h14 256 16) - (J 1))) 256 13 ((hF (wG h14 256 16 ((hF h14 256 16) - (J 1))) 256 13) - (J 1))) 256 = (0, 11) ∧ hs (wG (wG h14 256 16 ((hF h14 256 16) - (J 1))) 256 13 ((hF (wG h14 256 16 ((hF h14 256 16) - (J 1))) 256 13) - (J 1))) 256 = (0, 11) ∧ hs (wG (wG (wG h14 256 16 ((hF h14 256 16) - (J 1))) 256 13 ((hF (wG h14 256 16 ((hF h14 256 16) - (J 1))) 256 13) - (J 1))) 256 8 ((hF (wG (wG h14 256 16 ((hF h14 256 16) - (J 1))) 256 13 ((hF (wG h14 256 16 ((hF h14 256 16) - (J 1))) 256 13) - (J 1))) 256 8) + (J 1))) 256 = (0, 11) ∧ Ex X PG d 204 0 [some (.ref 256), some (.int (J 3))] [] (wG (wG (wG h14 256 16 ((hF h14 256 16) - (J 1))) 256 13 ((hF (wG h14 256 16 ((hF h14 256 16) - (J 1))) 256 13) - (J 1))) 256 8 ((hF (wG (wG h14 256 16 ((hF h14 256 16) - (J 1))) 256 13 ((hF (wG h14 256 16 ((hF h14 256 16) - (J 1))) 256 13) - (J 1))) 256 8) + (J 1))) (fun v15 h16 => v15 = none ∧ Ex X PG (d + 1) 203 5 [some (.ref 256)] [] h16 Q)))))))))
  try simp only [aI_wAL, fI_wAL, aL_wA, aL_wF, aI_wA_ne, aI_wF_ne, fI_wA_ne, fI_wF_ne, fI_wF_nk, aL_wAL_ne, J_sameA, J_sameF, aL_same, Nat.add_left_cancel_iff, Nat.add_eq_left, Nat.left_eq_add, not_false_eq_true, Nat.reduceEqDiff, Nat.reduceAdd, J_add, J_sub, J_mul, J_neg, J_and, J_or, J_xor, J_shl, J_shr, J_div, J_i2b, J_i2l, J_l2i, J_lcm, J_max, J_min, J_nab, J_nao, rdA, rdF, rdL, wA_fold, wF_fold, wL_fold, wC_fold]
  refine ⟨(ls256 C_h), ?_⟩
  refine Ex.mono w (Nat.le_refl _) ?_
  rintro v1 h2 ⟨rfl, s21, w⟩
  refine ⟨rfl, ?_⟩
  have C_h2 := Lay_SH s21 C_h
  try simp only [aI_wAL, fI_wAL, aL_wA, aL_wF, aI_wA_ne, aI_wF_ne, fI_wA_ne, fI_wF_ne, fI_wF_nk, aL_wAL_ne, J_sameA, J_sameF, aL_same, Nat.add_left_cancel_iff, Nat.add_eq_left, Nat.left_eq_add, not_false_eq_true, Nat.reduceEqDiff, Nat.reduceAdd, J_add, J_sub, J_mul, J_neg, J_and, J_or, J_xor, J_shl, J_shr, J_div, J_i2b, J_i2l, J_l2i, J_lcm, J_max, J_min, J_nab, J_nao, rdA, rdF, rdL, wA_fold, wF_fold, wL_fold, wC_fold]
  refine ⟨(ls256 C_h2), ?_⟩
  refine Ex.mono w (Nat.le_refl _) ?_
  rintro v3 h4 ⟨r5, gr5, rfl, s20, w⟩
  refine ⟨_, rfl, ?_⟩
  have C_h4 := Lay_SH s20 C_h2
  try simp only [aI_wAL, fI_wAL, aL_wA, aL_wF, aI_wA_ne, aI_wF_ne, fI_wA_ne, fI_wF_ne, fI_wF_nk, aL_wAL_ne, J_sameA, J_sameF, aL_same, Nat.add_left_cancel_iff, Nat.add_eq_left, Nat.left_eq_add, not_false_eq_true, Nat.reduceEqDiff, Nat.reduceAdd, J_add, J_sub, J_mul, J_neg, J_and, J_or, J_xor, J_shl, J_shr, J_div, J_i2b, J_i2l, J_l2i, J_lcm, J_max, J_min, J_nab, J_nao, rdA, rdF, rdL, wA_fold, wF_fold, wL_fold, wC_fold]
  refine ⟨fun c6 => ?_, fun c6 => ?_⟩
  · have t7 : ¬ r5 = 93 := (fun e => c6 ((Jeq gr5 (by decide)).mpr e))
    replace w := w.1 t7
    exact w
  · have t7 : r5 = 93 := ((Jeq gr5 (by decide)).mp (Classical.byContradiction c6))
    replace w := w.2 t7
    refine ⟨(ls256 C_h4), ?_⟩
    refine Ex.mono w (Nat.le_refl _) ?_
    rintro v8 h9 ⟨r10, gr10, rfl, s19, w⟩
    refine ⟨_, rfl, ?_⟩
    have C_h9 := Lay_SH s19 C_h4
    try simp only [aI_wAL, fI_wAL, aL_wA, aL_wF, aI_wA_ne, aI_wF_ne, fI_wA_ne, fI_wF_ne, fI_wF_nk, aL_wAL_ne, J_sameA, J_sameF, aL_same, Nat.add_left_cancel_iff, Nat.add_eq_left, Nat.left_eq_add, not_false_eq_true, Nat.reduceEqDiff, Nat.reduceAdd, J_add, J_sub, J_mul, J_neg, J_and, J_or, J_xor, J_shl, J_shr, J_div, J_i2b, J_i2l, J_l2i, J_lcm, J_max, J_min, J_nab, J_nao, rdA, rdF, rdL, wA_fold, wF_fold, wL_fold, wC_fold]
    refine ⟨fun c11 => ?_, fun c11 => ?_⟩
    · have t12 : r10 = 0 := ((Jeq gr10 (by decide)).mp c11)
      replace w := w.1 t12
      exact w
    · have t12 : ¬ r10 = 0 := (fun e => c11 ((Jeq gr10 (by decide)).mpr e))
      replace w := w.2 t12
      refine ⟨(ls256 C_h9), ?_⟩
      refine Ex.mono w (Nat.le_refl _) ?_
      rintro v13 h14 ⟨rfl, s18, w⟩
      refine ⟨rfl, ?_⟩
      have C_h14 := Lay_SH s18 C_h9
      try simp only [aI_wAL, fI_wAL, aL_wA, aL_wF, aI_wA_ne, aI_wF_ne, fI_wA_ne, fI_wF_ne, fI_wF_nk, aL_wAL_ne, J_sameA, J_sameF, aL_same, Nat.add_left_cancel_iff, Nat.add_eq_left, Nat.left_eq_add, not_false_eq_true, Nat.reduceEqDiff, Nat.reduceAdd, J_add, J_sub, J_mul, J_neg, J_and, J_or, J_xor, J_shl, J_shr, J_div, J_i2b, J_i2l, J_l2i, J_lcm, J_max, J_min, J_nab, J_nao, rdA, rdF, rdL, wA_fold, wF_fold, wL_fold, wC_fold]
      refine ⟨(ls256 C_h14), ?_⟩
      refine ⟨(ls256 C_h14), ?_⟩
      refine ⟨(ls256 C_h14), ?_⟩
      refine ⟨(ls256 C_h14), ?_⟩
      refine ⟨(ls256 C_h14), ?_⟩
      refine ⟨(ls256 C_h14), ?_⟩
      refine ⟨(ls256 C_h14), ?_⟩
      refine Ex.mono w (Nat.le_refl _) ?_
      rintro v15 h16 ⟨rfl, s17, w⟩
      refine ⟨rfl, ?_⟩
      have C_h16 := Lay_SH s17 C_h14
      try simp only [aI_wAL, fI_wAL, aL_wA, aL_wF, aI_wA_ne, aI_wF_ne, fI_wA_ne, fI_wF_ne, fI_wF_nk, aL_wAL_ne, J_sameA, J_sameF, aL_same, Nat.add_left_cancel_iff, Nat.add_eq_left, Nat.left_eq_add, not_false_eq_true, Nat.reduceEqDiff, Nat.reduceAdd, J_add, J_sub, J_mul, J_neg, J_and, J_or, J_xor, J_shl, J_shr, J_div, J_i2b, J_i2l, J_l2i, J_lcm, J_max, J_min, J_nab, J_nao, rdA, rdF, rdL, wA_fold, wF_fold, wL_fold, wC_fold]
      exact w
-- OutwardDoorsModel.closes()V at 5
set_option maxRecDepth 20000 in
set_option maxHeartbeats 4000000 in
theorem r203_5 {X : Cst} {d : Nat}  {h : AH} {Q : Post} (C_h : Lay h)
  (w : Ex X PG d 175 0 [some (.ref 256)] [] h (fun v1 h2 => ∃ r3 : Int, (-2147483648 ≤ r3 ∧ r3 < 2147483648) ∧ v1 = some (.int (J r3)) ∧ SH h h2 ∧ ((¬ r3 = 93 → Q none h2) ∧ (r3 = 93 → Ex X PG d 206 0 [some (.ref 256), none] [] h2 (fun v6 h7 => ∃ r8 : Int, (-2147483648 ≤ r8 ∧ r8 < 2147483648) ∧ v6 = some (.int (J r8)) ∧ SH h2 h7 ∧ ((r8 = 0 → Q none h7) ∧ (¬ r8 = 0 → Ex X PG d 204 0 [some (.ref 256), some (.int (J 1))] [] h7 (fun v11 h12 => v11 = none ∧ SH h7 h12 ∧ Ex X PG d 204 0 [some (.ref 256), some (.int (J 3))] [] (wF (wF (wF h12 256 16 ((fI h12 256 16) - 1)) 256 13 ((fI h12 256 13) - 1)) 256 8 ((fI h12 256 8) + 1)) (fun v13 h14 => v13 = none ∧ SH (wF (wF (wF h12 256 16 ((fI h12 256 16) - 1)) 256 13 ((fI h12 256 13) - 1)) 256 8 ((fI h12 256 8) + 1)) h14 ∧ Ex X PG (d + 1) 203 5 [some (.ref 256)] [] h14 Q))))))))) :
    Ex X PG (d + 1) 203 5 [some (.ref 256)] [] h Q := by
  refine wpx_ok (cut := [5]) 32 d 203 5 _ _ _ _ ?_
  show hs h 256 = (0, 11) ∧ Ex X PG d 175 0 [some (.ref 256)] [] h (fun v1 h2 => ∃ r3, v1 = some (.int r3) ∧ ((¬ r3 = (J 93) → Q none h2) ∧ (¬ (¬ r3 = (J 93)) → hs h2 256 = (0, 11) ∧ Ex X PG d 206 0 [some (.ref 256), none] [] h2 (fun v6 h7 => ∃ r8, v6 = some (.int r8) ∧ ((r8 = (J 0) → Q none h7) ∧ (¬ (r8 = (J 0)) → hs h7 256 = (0, 11) ∧ Ex X PG d 204 0 [some (.ref 256), some (.int (J 1))] [] h7 (fun v11 h12 => v11 = none ∧ hs h12 256 = (0, 11) ∧ hs h12 256 = (0, 11) ∧ hs (wG h12 256 16 ((hF h12 256 16) - (J 1))) 256 = (0, 11) ∧ hs (wG h12 256 16 ((hF h12 256 16) - (J 1))) 256 = (0, 11) ∧ hs (wG (wG h12 256 16 ((hF h12 256 16) - (J 1))) 256 13 ((hF (wG h12 256 16 ((hF h12 256 16) - (J 1))) 256 13) - (J 1))) 256 = (0, 11) ∧ hs (wG (wG h12 256 16 ((hF h12 256 16) - (J 1))) 256 13 ((hF (wG h12 256 16 ((hF h12 256 16) - (J 1))) 256 13) - (J 1))) 256 = (0, 11) ∧ hs (wG (wG (wG h12 256 16 ((hF h12 256 16) - (J 1))) 256 13 ((hF (wG h12 256 16 ((hF h12 256 16) - (J 1))) 256 13) - (J 1))) 256 8 ((hF (wG (wG h12 256 16 ((hF h12 256 16) - (J 1))) 256 13 ((hF (wG h12 256 16 ((hF h12 256 16) - (J 1))) 256 13) - (J 1))) 256 8) + (J 1))) 256 = (0, 11) ∧ Ex X PG d 204 0 [some (.ref 256), some (.int (J 3))] [] (wG (wG (wG h12 256 16 ((hF h12 256 16) - (J 1))) 256 13 ((hF (wG h12 256 16 ((hF h12 256 16) - (J 1))) 256 13) - (J 1))) 256 8 ((hF (wG (wG h12 256 16 ((hF h12 256 16) - (J 1))) 256 13 ((hF (wG h12 256 16 ((hF h12 256 16) - (J 1))) 256 13) - (J 1))) 256 8) + (J 1))) (fun v13 h14 => v13 = none ∧ Ex X PG (d + 1) 203 5 [some (.ref 256)] [] h14 Q))))))))
  try simp only [aI_wAL, fI_wAL, aL_wA, aL_wF, aI_wA_ne, aI_wF_ne, fI_wA_ne, fI_wF_ne, fI_wF_nk, aL_wAL_ne, J_sameA, J_sameF, aL_same, Nat.add_left_cancel_iff, Nat.add_eq_left, Nat.left_eq_add, not_false_eq_true, Nat.reduceEqDiff, Nat.reduceAdd, J_add, J_sub, J_mul, J_neg, J_and, J_or, J_xor, J_shl, J_shr, J_div, J_i2b, J_i2l, J_l2i, J_lcm, J_max, J_min, J_nab, J_nao, rdA, rdF, rdL, wA_fold, wF_fold, wL_fold, wC_fold]
  refine ⟨(ls256 C_h), ?_⟩
  refine Ex.mono w (Nat.le_refl _) ?_
  rintro v1 h2 ⟨r3, gr3, rfl, s18, w⟩
  refine ⟨_, rfl, ?_⟩
  have C_h2 := Lay_SH s18 C_h
  try simp only [aI_wAL, fI_wAL, aL_wA, aL_wF, aI_wA_ne, aI_wF_ne, fI_wA_ne, fI_wF_ne, fI_wF_nk, aL_wAL_ne, J_sameA, J_sameF, aL_same, Nat.add_left_cancel_iff, Nat.add_eq_left, Nat.left_eq_add, not_false_eq_true, Nat.reduceEqDiff, Nat.reduceAdd, J_add, J_sub, J_mul, J_neg, J_and, J_or, J_xor, J_shl, J_shr, J_div, J_i2b, J_i2l, J_l2i, J_lcm, J_max, J_min, J_nab, J_nao, rdA, rdF, rdL, wA_fold, wF_fold, wL_fold, wC_fold]
  refine ⟨fun c4 => ?_, fun c4 => ?_⟩
  · have t5 : ¬ r3 = 93 := (fun e => c4 ((Jeq gr3 (by decide)).mpr e))
    replace w := w.1 t5
    exact w
  · have t5 : r3 = 93 := ((Jeq gr3 (by decide)).mp (Classical.byContradiction c4))
    replace w := w.2 t5
    refine ⟨(ls256 C_h2), ?_⟩
    refine Ex.mono w (Nat.le_refl _) ?_
    rintro v6 h7 ⟨r8, gr8, rfl, s17, w⟩
    refine ⟨_, rfl, ?_⟩
    have C_h7 := Lay_SH s17 C_h2
    try simp only [aI_wAL, fI_wAL, aL_wA, aL_wF, aI_wA_ne, aI_wF_ne, fI_wA_ne, fI_wF_ne, fI_wF_nk, aL_wAL_ne, J_sameA, J_sameF, aL_same, Nat.add_left_cancel_iff, Nat.add_eq_left, Nat.left_eq_add, not_false_eq_true, Nat.reduceEqDiff, Nat.reduceAdd, J_add, J_sub, J_mul, J_neg, J_and, J_or, J_xor, J_shl, J_shr, J_div, J_i2b, J_i2l, J_l2i, J_lcm, J_max, J_min, J_nab, J_nao, rdA, rdF, rdL, wA_fold, wF_fold, wL_fold, wC_fold]
    refine ⟨fun c9 => ?_, fun c9 => ?_⟩
    · have t10 : r8 = 0 := ((Jeq gr8 (by decide)).mp c9)
      replace w := w.1 t10
      exact w
    · have t10 : ¬ r8 = 0 := (fun e => c9 ((Jeq gr8 (by decide)).mpr e))
      replace w := w.2 t10
      refine ⟨(ls256 C_h7), ?_⟩
      refine Ex.mono w (Nat.le_refl _) ?_
      rintro v11 h12 ⟨rfl, s16, w⟩
      refine ⟨rfl, ?_⟩
      have C_h12 := Lay_SH s16 C_h7
      try simp only [aI_wAL, fI_wAL, aL_wA, aL_wF, aI_wA_ne, aI_wF_ne, fI_wA_ne, fI_wF_ne, fI_wF_nk, aL_wAL_ne, J_sameA, J_sameF, aL_same, Nat.add_left_cancel_iff, Nat.add_eq_left, Nat.left_eq_add, not_false_eq_true, Nat.reduceEqDiff, Nat.reduceAdd, J_add, J_sub, J_mul, J_neg, J_and, J_or, J_xor, J_shl, J_shr, J_div, J_i2b, J_i2l, J_l2i, J_lcm, J_max, J_min, J_nab, J_nao, rdA, rdF, rdL, wA_fold, wF_fold, wL_fold, wC_fold]
      refine ⟨(ls256 C_h12), ?_⟩
      refine ⟨(ls256 C_h12), ?_⟩
      refine ⟨(ls256 C_h12), ?_⟩
      refine ⟨(ls256 C_h12), ?_⟩
      refine ⟨(ls256 C_h12), ?_⟩
      refine ⟨(ls256 C_h12), ?_⟩
      refine ⟨(ls256 C_h12), ?_⟩
      refine Ex.mono w (Nat.le_refl _) ?_
      rintro v13 h14 ⟨rfl, s15, w⟩
      refine ⟨rfl, ?_⟩
      have C_h14 := Lay_SH s15 C_h12
      try simp only [aI_wAL, fI_wAL, aL_wA, aL_wF, aI_wA_ne, aI_wF_ne, fI_wA_ne, fI_wF_ne, fI_wF_nk, aL_wAL_ne, J_sameA, J_sameF, aL_same, Nat.add_left_cancel_iff, Nat.add_eq_left, Nat.left_eq_add, not_false_eq_true, Nat.reduceEqDiff, Nat.reduceAdd, J_add, J_sub, J_mul, J_neg, J_and, J_or, J_xor, J_shl, J_shr, J_div, J_i2b, J_i2l, J_l2i, J_lcm, J_max, J_min, J_nab, J_nao, rdA, rdF, rdL, wA_fold, wF_fold, wL_fold, wC_fold]
      exact w
-- OutwardDoorsModel.fact()Z at 0
set_option maxRecDepth 20000 in
set_option maxHeartbeats 4000000 in
theorem r200_0 {X : Cst} {d : Nat}  {h : AH} {Q : Post} (C_h : Lay h)
  (w : Ex X PG (d + 1) 200 2 [some (.ref 256), some (.int (J 1)), none] [] h Q) :
    Ex X PG (d + 1) 200 0 [some (.ref 256), none, none] [] h Q := by
  refine wpx_ok (cut := [2]) 2 d 200 0 _ _ _ _ ?_
  show Ex X PG (d + 1) 200 2 [some (.ref 256), some (.int (J 1)), none] [] h Q
  try simp only [aI_wAL, fI_wAL, aL_wA, aL_wF, aI_wA_ne, aI_wF_ne, fI_wA_ne, fI_wF_ne, fI_wF_nk, aL_wAL_ne, J_sameA, J_sameF, aL_same, Nat.add_left_cancel_iff, Nat.add_eq_left, Nat.left_eq_add, not_false_eq_true, Nat.reduceEqDiff, Nat.reduceAdd, J_add, J_sub, J_mul, J_neg, J_and, J_or, J_xor, J_shl, J_shr, J_div, J_i2b, J_i2l, J_l2i, J_lcm, J_max, J_min, J_nab, J_nao, rdA, rdF, rdL, wA_fold, wF_fold, wL_fold, wC_fold]
  exact w
-- OutwardDoorsModel.fact()Z at 2
set_option maxRecDepth 20000 in
set_option maxHeartbeats 4000000 in
theorem r200_2 {X : Cst} {d : Nat} {x1 : Int} {l2 : Option Value} {h : AH} {Q : Post} (C_h : Lay h)
  (w : (-2147483648 ≤ x1 ∧ x1 < 2147483648) ∧ ((x1 = 0 → Ex X PG d 202 0 [some (.ref 256), none, none, none, none] [] h (fun v4 h5 => ∃ r6 : Int, (-2147483648 ≤ r6 ∧ r6 < 2147483648) ∧ v4 = some (.int (J r6)) ∧ SH h h5 ∧ (r6 = 0 ∨ r6 = 1) ∧ Q (some (.int (J r6))) h5)) ∧ (¬ x1 = 0 → Ex X PG d 175 0 [some (.ref 256)] [] h (fun v9 h10 => ∃ r11 : Int, (-2147483648 ≤ r11 ∧ r11 < 2147483648) ∧ v9 = some (.int (J r11)) ∧ SH h h10 ∧ Ex X PG d 177 0 [some (.ref 256), some (.long (7237492 : Int64)), none, none, none, none] [] h10 (fun v12 h13 => ∃ r14 : Int, (-2147483648 ≤ r14 ∧ r14 < 2147483648) ∧ v12 = some (.int (J r14)) ∧ SH h10 h13 ∧ ((r14 = 0 → ((¬ r11 = 91 → Ex X PG (d + 1) 200 2 [some (.ref 256), some (.int (J 0)), some (.int (J r11))] [] h13 Q) ∧ (r11 = 91 → Ex X PG d 201 0 [some (.ref 256), some (.int (J 91))] [] h13 (fun v19 h20 => ∃ r21 : Int, (-2147483648 ≤ r21 ∧ r21 < 2147483648) ∧ v19 = some (.int (J r21)) ∧ SH h13 h20 ∧ ((¬ r21 = 0 → Ex X PG (d + 1) 200 2 [some (.ref 256), some (.int (J 1)), some (.int (J r11))] [] (wF h20 256 8 ((fI h20 256 8) + 1)) Q) ∧ (r21 = 0 → Q (some (.int (J 0))) h20)))))) ∧ (¬ r14 = 0 → Ex X PG d 201 0 [some (.ref 256), some (.int (J 11))] [] h13 (fun v25 h26 => ∃ r27 : Int, (-2147483648 ≤ r27 ∧ r27 < 2147483648) ∧ v25 = some (.int (J r27)) ∧ SH h13 h26 ∧ ((¬ r27 = 0 → Ex X PG d 182 0 [some (.ref 256)] [] h26 (fun v30 h31 => v30 = none ∧ SH h26 h31 ∧ Ex X PG (d + 1) 200 2 [some (.ref 256), some (.int (J 1)), some (.int (J r11))] [] h31 Q)) ∧ (r27 = 0 → Q (some (.int (J 0))) h26)))))))))) :
    Ex X PG (d + 1) 200 2 [some (.ref 256), some (.int (J x1)), l2] [] h Q := by
  refine wpx_ok (cut := [2]) 27 d 200 2 _ _ _ _ ?_
  show (((J x1) = (J 0) → hs h 256 = (0, 11) ∧ Ex X PG d 202 0 [some (.ref 256), none, none, none, none] [] h (fun v4 h5 => ∃ r6, v4 = some (.int r6) ∧ (r6 = J 0 ∨ r6 = J 1) ∧ Q (some (.int r6)) h5)) ∧ (¬ ((J x1) = (J 0)) → hs h 256 = (0, 11) ∧ Ex X PG d 175 0 [some (.ref 256)] [] h (fun v9 h10 => ∃ r11, v9 = some (.int r11) ∧ hs h10 256 = (0, 11) ∧ Ex X PG d 177 0 [some (.ref 256), some (.long (7237492 : Int64)), none, none, none, none] [] h10 (fun v12 h13 => ∃ r14, v12 = some (.int r14) ∧ ((r14 = (J 0) → ((¬ r11 = (J 91) → Ex X PG (d + 1) 200 2 [some (.ref 256), some (.int (J 0)), some (.int r11)] [] h13 Q) ∧ (¬ (¬ r11 = (J 91)) → hs h13 256 = (0, 11) ∧ Ex X PG d 201 0 [some (.ref 256), some (.int (J 91))] [] h13 (fun v19 h20 => ∃ r21, v19 = some (.int r21) ∧ ((¬ r21 = (J 0) → hs h20 256 = (0, 11) ∧ hs h20 256 = (0, 11) ∧ Ex X PG (d + 1) 200 2 [some (.ref 256), some (.int (J 1)), some (.int r11)] [] (wG h20 256 8 ((hF h20 256 8) + (J 1))) Q) ∧ (¬ (¬ r21 = (J 0)) → (J 0 = J 0 ∨ J 0 = J 1) ∧ Q (some (.int (J 0))) h20)))))) ∧ (¬ (r14 = (J 0)) → hs h13 256 = (0, 11) ∧ Ex X PG d 201 0 [some (.ref 256), some (.int (J 11))] [] h13 (fun v25 h26 => ∃ r27, v25 = some (.int r27) ∧ ((¬ r27 = (J 0) → hs h26 256 = (0, 11) ∧ Ex X PG d 182 0 [some (.ref 256)] [] h26 (fun v30 h31 => v30 = none ∧ Ex X PG (d + 1) 200 2 [some (.ref 256), some (.int (J 1)), some (.int r11)] [] h31 Q)) ∧ (¬ (¬ r27 = (J 0)) → (J 0 = J 0 ∨ J 0 = J 1) ∧ Q (some (.int (J 0))) h26)))))))))
  try simp only [aI_wAL, fI_wAL, aL_wA, aL_wF, aI_wA_ne, aI_wF_ne, fI_wA_ne, fI_wF_ne, fI_wF_nk, aL_wAL_ne, J_sameA, J_sameF, aL_same, Nat.add_left_cancel_iff, Nat.add_eq_left, Nat.left_eq_add, not_false_eq_true, Nat.reduceEqDiff, Nat.reduceAdd, J_add, J_sub, J_mul, J_neg, J_and, J_or, J_xor, J_shl, J_shr, J_div, J_i2b, J_i2l, J_l2i, J_lcm, J_max, J_min, J_nab, J_nao, rdA, rdF, rdL, wA_fold, wF_fold, wL_fold, wC_fold]
  obtain ⟨k3, w⟩ := w
  refine ⟨fun c1 => ?_, fun c1 => ?_⟩
  · have t2 : x1 = 0 := ((Jeq k3 (by decide)).mp c1)
    replace w := w.1 t2
    refine ⟨(ls256 C_h), ?_⟩
    refine Ex.mono w (Nat.le_refl _) ?_
    rintro v4 h5 ⟨r6, gr6, rfl, s8, w⟩
    refine ⟨_, rfl, ?_⟩
    have C_h5 := Lay_SH s8 C_h
    try simp only [aI_wAL, fI_wAL, aL_wA, aL_wF, aI_wA_ne, aI_wF_ne, fI_wA_ne, fI_wF_ne, fI_wF_nk, aL_wAL_ne, J_sameA, J_sameF, aL_same, Nat.add_left_cancel_iff, Nat.add_eq_left, Nat.left_eq_add, not_false_eq_true, Nat.reduceEqDiff, Nat.reduceAdd, J_add, J_sub, J_mul, J_neg, J_and, J_or, J_xor, J_shl, J_shr, J_div, J_i2b, J_i2l, J_l2i, J_lcm, J_max, J_min, J_nab, J_nao, rdA, rdF, rdL, wA_fold, wF_fold, wL_fold, wC_fold]
    obtain ⟨k7, w⟩ := w
    exact ⟨(k7.imp (congrArg J) (congrArg J)), w⟩
  · have t2 : ¬ x1 = 0 := (fun e => c1 ((Jeq k3 (by decide)).mpr e))
    replace w := w.2 t2
    refine ⟨(ls256 C_h), ?_⟩
    refine Ex.mono w (Nat.le_refl _) ?_
    rintro v9 h10 ⟨r11, gr11, rfl, s35, w⟩
    refine ⟨_, rfl, ?_⟩
    have C_h10 := Lay_SH s35 C_h
    try simp only [aI_wAL, fI_wAL, aL_wA, aL_wF, aI_wA_ne, aI_wF_ne, fI_wA_ne, fI_wF_ne, fI_wF_nk, aL_wAL_ne, J_sameA, J_sameF, aL_same, Nat.add_left_cancel_iff, Nat.add_eq_left, Nat.left_eq_add, not_false_eq_true, Nat.reduceEqDiff, Nat.reduceAdd, J_add, J_sub, J_mul, J_neg, J_and, J_or, J_xor, J_shl, J_shr, J_div, J_i2b, J_i2l, J_l2i, J_lcm, J_max, J_min, J_nab, J_nao, rdA, rdF, rdL, wA_fold, wF_fold, wL_fold, wC_fold]
    refine ⟨(ls256 C_h10), ?_⟩
    refine Ex.mono w (Nat.le_refl _) ?_
    rintro v12 h13 ⟨r14, gr14, rfl, s34, w⟩
    refine ⟨_, rfl, ?_⟩
    have C_h13 := Lay_SH s34 C_h10
    try simp only [aI_wAL, fI_wAL, aL_wA, aL_wF, aI_wA_ne, aI_wF_ne, fI_wA_ne, fI_wF_ne, fI_wF_nk, aL_wAL_ne, J_sameA, J_sameF, aL_same, Nat.add_left_cancel_iff, Nat.add_eq_left, Nat.left_eq_add, not_false_eq_true, Nat.reduceEqDiff, Nat.reduceAdd, J_add, J_sub, J_mul, J_neg, J_and, J_or, J_xor, J_shl, J_shr, J_div, J_i2b, J_i2l, J_l2i, J_lcm, J_max, J_min, J_nab, J_nao, rdA, rdF, rdL, wA_fold, wF_fold, wL_fold, wC_fold]
    refine ⟨fun c15 => ?_, fun c15 => ?_⟩
    · have t16 : r14 = 0 := ((Jeq gr14 (by decide)).mp c15)
      replace w := w.1 t16
      refine ⟨fun c17 => ?_, fun c17 => ?_⟩
      · have t18 : ¬ r11 = 91 := (fun e => c17 ((Jeq gr11 (by decide)).mpr e))
        replace w := w.1 t18
        exact w
      · have t18 : r11 = 91 := ((Jeq gr11 (by decide)).mp (Classical.byContradiction c17))
        replace w := w.2 t18
        refine ⟨(ls256 C_h13), ?_⟩
        refine Ex.mono w (Nat.le_refl _) ?_
        rintro v19 h20 ⟨r21, gr21, rfl, s24, w⟩
        refine ⟨_, rfl, ?_⟩
        have C_h20 := Lay_SH s24 C_h13
        try simp only [aI_wAL, fI_wAL, aL_wA, aL_wF, aI_wA_ne, aI_wF_ne, fI_wA_ne, fI_wF_ne, fI_wF_nk, aL_wAL_ne, J_sameA, J_sameF, aL_same, Nat.add_left_cancel_iff, Nat.add_eq_left, Nat.left_eq_add, not_false_eq_true, Nat.reduceEqDiff, Nat.reduceAdd, J_add, J_sub, J_mul, J_neg, J_and, J_or, J_xor, J_shl, J_shr, J_div, J_i2b, J_i2l, J_l2i, J_lcm, J_max, J_min, J_nab, J_nao, rdA, rdF, rdL, wA_fold, wF_fold, wL_fold, wC_fold]
        refine ⟨fun c22 => ?_, fun c22 => ?_⟩
        · have t23 : ¬ r21 = 0 := (fun e => c22 ((Jeq gr21 (by decide)).mpr e))
          replace w := w.1 t23
          refine ⟨(ls256 C_h20), ?_⟩
          refine ⟨(ls256 C_h20), ?_⟩
          exact w
        · have t23 : r21 = 0 := ((Jeq gr21 (by decide)).mp (Classical.byContradiction c22))
          replace w := w.2 t23
          exact ⟨(Or.inl (by trivial)), w⟩
    · have t16 : ¬ r14 = 0 := (fun e => c15 ((Jeq gr14 (by decide)).mpr e))
      replace w := w.2 t16
      refine ⟨(ls256 C_h13), ?_⟩
      refine Ex.mono w (Nat.le_refl _) ?_
      rintro v25 h26 ⟨r27, gr27, rfl, s33, w⟩
      refine ⟨_, rfl, ?_⟩
      have C_h26 := Lay_SH s33 C_h13
      try simp only [aI_wAL, fI_wAL, aL_wA, aL_wF, aI_wA_ne, aI_wF_ne, fI_wA_ne, fI_wF_ne, fI_wF_nk, aL_wAL_ne, J_sameA, J_sameF, aL_same, Nat.add_left_cancel_iff, Nat.add_eq_left, Nat.left_eq_add, not_false_eq_true, Nat.reduceEqDiff, Nat.reduceAdd, J_add, J_sub, J_mul, J_neg, J_and, J_or, J_xor, J_shl, J_shr, J_div, J_i2b, J_i2l, J_l2i, J_lcm, J_max, J_min, J_nab, J_nao, rdA, rdF, rdL, wA_fold, wF_fold, wL_fold, wC_fold]
      refine ⟨fun c28 => ?_, fun c28 => ?_⟩
      · have t29 : ¬ r27 = 0 := (fun e => c28 ((Jeq gr27 (by decide)).mpr e))
        replace w := w.1 t29
        refine ⟨(ls256 C_h26), ?_⟩
        refine Ex.mono w (Nat.le_refl _) ?_
        rintro v30 h31 ⟨rfl, s32, w⟩
        refine ⟨rfl, ?_⟩
        have C_h31 := Lay_SH s32 C_h26
        try simp only [aI_wAL, fI_wAL, aL_wA, aL_wF, aI_wA_ne, aI_wF_ne, fI_wA_ne, fI_wF_ne, fI_wF_nk, aL_wAL_ne, J_sameA, J_sameF, aL_same, Nat.add_left_cancel_iff, Nat.add_eq_left, Nat.left_eq_add, not_false_eq_true, Nat.reduceEqDiff, Nat.reduceAdd, J_add, J_sub, J_mul, J_neg, J_and, J_or, J_xor, J_shl, J_shr, J_div, J_i2b, J_i2l, J_l2i, J_lcm, J_max, J_min, J_nab, J_nao, rdA, rdF, rdL, wA_fold, wF_fold, wL_fold, wC_fold]
        exact w
      · have t29 : r27 = 0 := ((Jeq gr27 (by decide)).mp (Classical.byContradiction c28))
        replace w := w.2 t29
        exact ⟨(Or.inl (by trivial)), w⟩
-- OutwardDoorsModel.tested()Z at 0
set_option maxRecDepth 20000 in
set_option maxHeartbeats 4000000 in
theorem r199_0 {X : Cst} {d : Nat}  {h : AH} {Q : Post} (C_h : Lay h)
  (w : Ex X PG (d + 1) 199 12 [some (.ref 256), some (.int (J 1)), none] [] (wF (wF h 256 16 0) 256 13 0) Q) :
    Ex X PG (d + 1) 199 0 [some (.ref 256), none, none] [] h Q := by
  refine wpx_ok (cut := [12, 25, 55, 59, 77, 112]) 8 d 199 0 _ _ _ _ ?_
  show hs h 256 = (0, 11) ∧ hs (wG h 256 16 (J 0)) 256 = (0, 11) ∧ Ex X PG (d + 1) 199 12 [some (.ref 256), some (.int (J 1)), none] [] (wG (wG h 256 16 (J 0)) 256 13 (J 0)) Q
  try simp only [aI_wAL, fI_wAL, aL_wA, aL_wF, aI_wA_ne, aI_wF_ne, fI_wA_ne, fI_wF_ne, fI_wF_nk, aL_wAL_ne, J_sameA, J_sameF, aL_same, Nat.add_left_cancel_iff, Nat.add_eq_left, Nat.left_eq_add, not_false_eq_true, Nat.reduceEqDiff, Nat.reduceAdd, J_add, J_sub, J_mul, J_neg, J_and, J_or, J_xor, J_shl, J_shr, J_div, J_i2b, J_i2l, J_l2i, J_lcm, J_max, J_min, J_nab, J_nao, rdA, rdF, rdL, wA_fold, wF_fold, wL_fold, wC_fold]
  refine ⟨(ls256 C_h), ?_⟩
  refine ⟨(ls256 C_h), ?_⟩
  exact w
-- OutwardDoorsModel.tested()Z at 12
set_option maxRecDepth 20000 in
set_option maxHeartbeats 4000000 in
theorem r199_12 {X : Cst} {d : Nat} {x1 : Int} {l2 : Option Value} {h : AH} {Q : Post} (C_h : Lay h)
  (w : (-2147483648 ≤ x1 ∧ x1 < 2147483648) ∧ ((x1 = 0 → Ex X PG (d + 1) 199 112 [some (.ref 256), some (.int (J x1)), l2] [] h Q) ∧ (¬ x1 = 0 → Ex X PG d 200 0 [some (.ref 256), none, none] [] h (fun v4 h5 => ∃ r6 : Int, (-2147483648 ≤ r6 ∧ r6 < 2147483648) ∧ v4 = some (.int (J r6)) ∧ SH h h5 ∧ ((¬ r6 = 0 → Ex X PG (d + 1) 199 25 [some (.ref 256), some (.int (J x1)), l2] [] h5 Q) ∧ (r6 = 0 → Q (some (.int (J 0))) h5)))))) :
    Ex X PG (d + 1) 199 12 [some (.ref 256), some (.int (J x1)), l2] [] h Q := by
  refine wpx_ok (cut := [12, 25, 55, 59, 77, 112]) 7 d 199 12 _ _ _ _ ?_
  show (((J x1) = (J 0) → Ex X PG (d + 1) 199 112 [some (.ref 256), some (.int (J x1)), l2] [] h Q) ∧ (¬ ((J x1) = (J 0)) → hs h 256 = (0, 11) ∧ Ex X PG d 200 0 [some (.ref 256), none, none] [] h (fun v4 h5 => ∃ r6, v4 = some (.int r6) ∧ ((¬ r6 = (J 0) → Ex X PG (d + 1) 199 25 [some (.ref 256), some (.int (J x1)), l2] [] h5 Q) ∧ (¬ (¬ r6 = (J 0)) → (J 0 = J 0 ∨ J 0 = J 1) ∧ Q (some (.int (J 0))) h5)))))
  try simp only [aI_wAL, fI_wAL, aL_wA, aL_wF, aI_wA_ne, aI_wF_ne, fI_wA_ne, fI_wF_ne, fI_wF_nk, aL_wAL_ne, J_sameA, J_sameF, aL_same, Nat.add_left_cancel_iff, Nat.add_eq_left, Nat.left_eq_add, not_false_eq_true, Nat.reduceEqDiff, Nat.reduceAdd, J_add, J_sub, J_mul, J_neg, J_and, J_or, J_xor, J_shl, J_shr, J_div, J_i2b, J_i2l, J_l2i, J_lcm, J_max, J_min, J_nab, J_nao, rdA, rdF, rdL, wA_fold, wF_fold, wL_fold, wC_fold]
  obtain ⟨k3, w⟩ := w
  refine ⟨fun c1 => ?_, fun c1 => ?_⟩
  · have t2 : x1 = 0 := ((Jeq k3 (by decide)).mp c1)
    replace w := w.1 t2
    exact w
  · have t2 : ¬ x1 = 0 := (fun e => c1 ((Jeq k3 (by decide)).mpr e))
    replace w := w.2 t2
    refine ⟨(ls256 C_h), ?_⟩
    refine Ex.mono w (Nat.le_refl _) ?_
    rintro v4 h5 ⟨r6, gr6, rfl, s9, w⟩
    refine ⟨_, rfl, ?_⟩
    have C_h5 := Lay_SH s9 C_h
    try simp only [aI_wAL, fI_wAL, aL_wA, aL_wF, aI_wA_ne, aI_wF_ne, fI_wA_ne, fI_wF_ne, fI_wF_nk, aL_wAL_ne, J_sameA, J_sameF, aL_same, Nat.add_left_cancel_iff, Nat.add_eq_left, Nat.left_eq_add, not_false_eq_true, Nat.reduceEqDiff, Nat.reduceAdd, J_add, J_sub, J_mul, J_neg, J_and, J_or, J_xor, J_shl, J_shr, J_div, J_i2b, J_i2l, J_l2i, J_lcm, J_max, J_min, J_nab, J_nao, rdA, rdF, rdL, wA_fold, wF_fold, wL_fold, wC_fold]
    refine ⟨fun c7 => ?_, fun c7 => ?_⟩
    · have t8 : ¬ r6 = 0 := (fun e => c7 ((Jeq gr6 (by decide)).mpr e))
      replace w := w.1 t8
      exact w
    · have t8 : r6 = 0 := ((Jeq gr6 (by decide)).mp (Classical.byContradiction c7))
      replace w := w.2 t8
      exact ⟨(Or.inl (by trivial)), w⟩
-- OutwardDoorsModel.tested()Z at 25
set_option maxRecDepth 20000 in
set_option maxHeartbeats 4000000 in
theorem r199_25 {X : Cst} {d : Nat} {x1 : Int} {l2 : Option Value} {h : AH} {Q : Post} (C_h : Lay h)
  (w : Ex X PG d 203 0 [some (.ref 256)] [] h (fun v1 h2 => v1 = none ∧ SH h h2 ∧ Ex X PG d 177 0 [some (.ref 256), some (.long (6385252 : Int64)), none, none, none, none] [] h2 (fun v3 h4 => ∃ r5 : Int, (-2147483648 ≤ r5 ∧ r5 < 2147483648) ∧ v3 = some (.int (J r5)) ∧ SH h2 h4 ∧ ((¬ r5 = 0 → Ex X PG (d + 1) 199 55 [some (.ref 256), some (.int (J 1)), l2] [] h4 Q) ∧ (r5 = 0 → Ex X PG d 177 0 [some (.ref 256), some (.long (28530 : Int64)), none, none, none, none] [] h4 (fun v8 h9 => ∃ r10 : Int, (-2147483648 ≤ r10 ∧ r10 < 2147483648) ∧ v8 = some (.int (J r10)) ∧ SH h4 h9 ∧ ((r10 = 0 → Ex X PG (d + 1) 199 55 [some (.ref 256), some (.int (J 0)), l2] [] h9 Q) ∧ (¬ r10 = 0 → Ex X PG (d + 1) 199 55 [some (.ref 256), some (.int (J 1)), l2] [] h9 Q)))))))) :
    Ex X PG (d + 1) 199 25 [some (.ref 256), some (.int (J x1)), l2] [] h Q := by
  refine wpx_ok (cut := [12, 25, 55, 59, 77, 112]) 13 d 199 25 _ _ _ _ ?_
  show hs h 256 = (0, 11) ∧ Ex X PG d 203 0 [some (.ref 256)] [] h (fun v1 h2 => v1 = none ∧ hs h2 256 = (0, 11) ∧ Ex X PG d 177 0 [some (.ref 256), some (.long (6385252 : Int64)), none, none, none, none] [] h2 (fun v3 h4 => ∃ r5, v3 = some (.int r5) ∧ ((¬ r5 = (J 0) → Ex X PG (d + 1) 199 55 [some (.ref 256), some (.int (J 1)), l2] [] h4 Q) ∧ (¬ (¬ r5 = (J 0)) → hs h4 256 = (0, 11) ∧ Ex X PG d 177 0 [some (.ref 256), some (.long (28530 : Int64)), none, none, none, none] [] h4 (fun v8 h9 => ∃ r10, v8 = some (.int r10) ∧ ((r10 = (J 0) → Ex X PG (d + 1) 199 55 [some (.ref 256), some (.int (J 0)), l2] [] h9 Q) ∧ (¬ (r10 = (J 0)) → Ex X PG (d + 1) 199 55 [some (.ref 256), some (.int (J 1)), l2] [] h9 Q)))))))
  try simp only [aI_wAL, fI_wAL, aL_wA, aL_wF, aI_wA_ne, aI_wF_ne, fI_wA_ne, fI_wF_ne, fI_wF_nk, aL_wAL_ne, J_sameA, J_sameF, aL_same, Nat.add_left_cancel_iff, Nat.add_eq_left, Nat.left_eq_add, not_false_eq_true, Nat.reduceEqDiff, Nat.reduceAdd, J_add, J_sub, J_mul, J_neg, J_and, J_or, J_xor, J_shl, J_shr, J_div, J_i2b, J_i2l, J_l2i, J_lcm, J_max, J_min, J_nab, J_nao, rdA, rdF, rdL, wA_fold, wF_fold, wL_fold, wC_fold]
  refine ⟨(ls256 C_h), ?_⟩
  refine Ex.mono w (Nat.le_refl _) ?_
  rintro v1 h2 ⟨rfl, s15, w⟩
  refine ⟨rfl, ?_⟩
  have C_h2 := Lay_SH s15 C_h
  try simp only [aI_wAL, fI_wAL, aL_wA, aL_wF, aI_wA_ne, aI_wF_ne, fI_wA_ne, fI_wF_ne, fI_wF_nk, aL_wAL_ne, J_sameA, J_sameF, aL_same, Nat.add_left_cancel_iff, Nat.add_eq_left, Nat.left_eq_add, not_false_eq_true, Nat.reduceEqDiff, Nat.reduceAdd, J_add, J_sub, J_mul, J_neg, J_and, J_or, J_xor, J_shl, J_shr, J_div, J_i2b, J_i2l, J_l2i, J_lcm, J_max, J_min, J_nab, J_nao, rdA, rdF, rdL, wA_fold, wF_fold, wL_fold, wC_fold]
  refine ⟨(ls256 C_h2), ?_⟩
  refine Ex.mono w (Nat.le_refl _) ?_
  rintro v3 h4 ⟨r5, gr5, rfl, s14, w⟩
  refine ⟨_, rfl, ?_⟩
  have C_h4 := Lay_SH s14 C_h2
  try simp only [aI_wAL, fI_wAL, aL_wA, aL_wF, aI_wA_ne, aI_wF_ne, fI_wA_ne, fI_wF_ne, fI_wF_nk, aL_wAL_ne, J_sameA, J_sameF, aL_same, Nat.add_left_cancel_iff, Nat.add_eq_left, Nat.left_eq_add, not_false_eq_true, Nat.reduceEqDiff, Nat.reduceAdd, J_add, J_sub, J_mul, J_neg, J_and, J_or, J_xor, J_shl, J_shr, J_div, J_i2b, J_i2l, J_l2i, J_lcm, J_max, J_min, J_nab, J_nao, rdA, rdF, rdL, wA_fold, wF_fold, wL_fold, wC_fold]
  refine ⟨fun c6 => ?_, fun c6 => ?_⟩
  · have t7 : ¬ r5 = 0 := (fun e => c6 ((Jeq gr5 (by decide)).mpr e))
    replace w := w.1 t7
    exact w
  · have t7 : r5 = 0 := ((Jeq gr5 (by decide)).mp (Classical.byContradiction c6))
    replace w := w.2 t7
    refine ⟨(ls256 C_h4), ?_⟩
    refine Ex.mono w (Nat.le_refl _) ?_
    rintro v8 h9 ⟨r10, gr10, rfl, s13, w⟩
    refine ⟨_, rfl, ?_⟩
    have C_h9 := Lay_SH s13 C_h4
    try simp only [aI_wAL, fI_wAL, aL_wA, aL_wF, aI_wA_ne, aI_wF_ne, fI_wA_ne, fI_wF_ne, fI_wF_nk, aL_wAL_ne, J_sameA, J_sameF, aL_same, Nat.add_left_cancel_iff, Nat.add_eq_left, Nat.left_eq_add, not_false_eq_true, Nat.reduceEqDiff, Nat.reduceAdd, J_add, J_sub, J_mul, J_neg, J_and, J_or, J_xor, J_shl, J_shr, J_div, J_i2b, J_i2l, J_l2i, J_lcm, J_max, J_min, J_nab, J_nao, rdA, rdF, rdL, wA_fold, wF_fold, wL_fold, wC_fold]
    refine ⟨fun c11 => ?_, fun c11 => ?_⟩
    · have t12 : r10 = 0 := ((Jeq gr10 (by decide)).mp c11)
      replace w := w.1 t12
      exact w
    · have t12 : ¬ r10 = 0 := (fun e => c11 ((Jeq gr10 (by decide)).mpr e))
      replace w := w.2 t12
      exact w
-- OutwardDoorsModel.tested()Z at 55
set_option maxRecDepth 20000 in
set_option maxHeartbeats 4000000 in
theorem r199_55 {X : Cst} {d : Nat} {x1 : Int} {l2 : Option Value} {h : AH} {Q : Post} (C_h : Lay h)
  (w : (-2147483648 ≤ x1 ∧ x1 < 2147483648) ∧ ((x1 = 0 → Ex X PG (d + 1) 199 12 [some (.ref 256), some (.int (J x1)), l2] [] h Q) ∧ (¬ x1 = 0 → Ex X PG (d + 1) 199 59 [some (.ref 256), some (.int (J x1)), l2] [] h Q))) :
    Ex X PG (d + 1) 199 55 [some (.ref 256), some (.int (J x1)), l2] [] h Q := by
  refine wpx_ok (cut := [12, 25, 55, 59, 77, 112]) 2 d 199 55 _ _ _ _ ?_
  show (((J x1) = (J 0) → Ex X PG (d + 1) 199 12 [some (.ref 256), some (.int (J x1)), l2] [] h Q) ∧ (¬ ((J x1) = (J 0)) → Ex X PG (d + 1) 199 59 [some (.ref 256), some (.int (J x1)), l2] [] h Q))
  try simp only [aI_wAL, fI_wAL, aL_wA, aL_wF, aI_wA_ne, aI_wF_ne, fI_wA_ne, fI_wF_ne, fI_wF_nk, aL_wAL_ne, J_sameA, J_sameF, aL_same, Nat.add_left_cancel_iff, Nat.add_eq_left, Nat.left_eq_add, not_false_eq_true, Nat.reduceEqDiff, Nat.reduceAdd, J_add, J_sub, J_mul, J_neg, J_and, J_or, J_xor, J_shl, J_shr, J_div, J_i2b, J_i2l, J_l2i, J_lcm, J_max, J_min, J_nab, J_nao, rdA, rdF, rdL, wA_fold, wF_fold, wL_fold, wC_fold]
  obtain ⟨k3, w⟩ := w
  refine ⟨fun c1 => ?_, fun c1 => ?_⟩
  · have t2 : x1 = 0 := ((Jeq k3 (by decide)).mp c1)
    replace w := w.1 t2
    exact w
  · have t2 : ¬ x1 = 0 := (fun e => c1 ((Jeq k3 (by decide)).mpr e))
    replace w := w.2 t2
    exact w
-- OutwardDoorsModel.tested()Z at 59
set_option maxRecDepth 20000 in
set_option maxHeartbeats 4000000 in
theorem r199_59 {X : Cst} {d : Nat} {x1 : Int} {l2 : Option Value} {h : AH} {Q : Post} (C_h : Lay h)
  (w : Ex X PG d 177 0 [some (.ref 256), some (.long (6385252 : Int64)), none, none, none, none] [] h (fun v1 h2 => ∃ r3 : Int, (-2147483648 ≤ r3 ∧ r3 < 2147483648) ∧ v1 = some (.int (J r3)) ∧ SH h h2 ∧ ((r3 = 0 → Ex X PG (d + 1) 199 77 [some (.ref 256), some (.int (J x1)), some (.int (J 13))] [] h2 Q) ∧ (¬ r3 = 0 → Ex X PG (d + 1) 199 77 [some (.ref 256), some (.int (J x1)), some (.int (J 12))] [] h2 Q)))) :
    Ex X PG (d + 1) 199 59 [some (.ref 256), some (.int (J x1)), l2] [] h Q := by
  refine wpx_ok (cut := [12, 25, 55, 59, 77, 112]) 7 d 199 59 _ _ _ _ ?_
  show hs h 256 = (0, 11) ∧ Ex X PG d 177 0 [some (.ref 256), some (.long (6385252 : Int64)), none, none, none, none] [] h (fun v1 h2 => ∃ r3, v1 = some (.int r3) ∧ ((r3 = (J 0) → Ex X PG (d + 1) 199 77 [some (.ref 256), some (.int (J x1)), some (.int (J 13))] [] h2 Q) ∧ (¬ (r3 = (J 0)) → Ex X PG (d + 1) 199 77 [some (.ref 256), some (.int (J x1)), some (.int (J 12))] [] h2 Q)))
  try simp only [aI_wAL, fI_wAL, aL_wA, aL_wF, aI_wA_ne, aI_wF_ne, fI_wA_ne, fI_wF_ne, fI_wF_nk, aL_wAL_ne, J_sameA, J_sameF, aL_same, Nat.add_left_cancel_iff, Nat.add_eq_left, Nat.left_eq_add, not_false_eq_true, Nat.reduceEqDiff, Nat.reduceAdd, J_add, J_sub, J_mul, J_neg, J_and, J_or, J_xor, J_shl, J_shr, J_div, J_i2b, J_i2l, J_l2i, J_lcm, J_max, J_min, J_nab, J_nao, rdA, rdF, rdL, wA_fold, wF_fold, wL_fold, wC_fold]
  refine ⟨(ls256 C_h), ?_⟩
  refine Ex.mono w (Nat.le_refl _) ?_
  rintro v1 h2 ⟨r3, gr3, rfl, s6, w⟩
  refine ⟨_, rfl, ?_⟩
  have C_h2 := Lay_SH s6 C_h
  try simp only [aI_wAL, fI_wAL, aL_wA, aL_wF, aI_wA_ne, aI_wF_ne, fI_wA_ne, fI_wF_ne, fI_wF_nk, aL_wAL_ne, J_sameA, J_sameF, aL_same, Nat.add_left_cancel_iff, Nat.add_eq_left, Nat.left_eq_add, not_false_eq_true, Nat.reduceEqDiff, Nat.reduceAdd, J_add, J_sub, J_mul, J_neg, J_and, J_or, J_xor, J_shl, J_shr, J_div, J_i2b, J_i2l, J_l2i, J_lcm, J_max, J_min, J_nab, J_nao, rdA, rdF, rdL, wA_fold, wF_fold, wL_fold, wC_fold]
  refine ⟨fun c4 => ?_, fun c4 => ?_⟩
  · have t5 : r3 = 0 := ((Jeq gr3 (by decide)).mp c4)
    replace w := w.1 t5
    exact w
  · have t5 : ¬ r3 = 0 := (fun e => c4 ((Jeq gr3 (by decide)).mpr e))
    replace w := w.2 t5
    exact w
-- OutwardDoorsModel.tested()Z at 77
set_option maxRecDepth 20000 in
set_option maxHeartbeats 4000000 in
theorem r199_77 {X : Cst} {d : Nat} {x1 : Int} {x2 : Int} {h : AH} {Q : Post} (C_h : Lay h)
  (w : Ex X PG d 182 0 [some (.ref 256)] [] h (fun v1 h2 => v1 = none ∧ SH h h2 ∧ Ex X PG d 205 0 [some (.int (J x2))] [] h2 (fun v3 h4 => ∃ r5 : Int, (-2147483648 ≤ r5 ∧ r5 < 2147483648) ∧ v3 = some (.int (J r5)) ∧ SH h2 h4 ∧ Ex X PG d 204 0 [some (.ref 256), some (.int (J r5))] [] h4 (fun v6 h7 => v6 = none ∧ SH h4 h7 ∧ (0 ≤ fI h7 256 16 ∧ fI h7 256 16 < 400) ∧ Ex X PG (d + 1) 199 12 [some (.ref 256), some (.int (J x1)), some (.int (J x2))] [] (wF (wA h7 263 (fI h7 256 16) x2) 256 16 ((fI h7 256 16) + 1)) Q)))) :
    Ex X PG (d + 1) 199 77 [some (.ref 256), some (.int (J x1)), some (.int (J x2))] [] h Q := by
  refine wpx_ok (cut := [12, 25, 55, 59, 77, 112]) 19 d 199 77 _ _ _ _ ?_
  show hs h 256 = (0, 11) ∧ Ex X PG d 182 0 [some (.ref 256)] [] h (fun v1 h2 => v1 = none ∧ Ex X PG d 205 0 [some (.int (J x2))] [] h2 (fun v3 h4 => ∃ r5, v3 = some (.int r5) ∧ hs h4 256 = (0, 11) ∧ Ex X PG d 204 0 [some (.ref 256), some (.int r5)] [] h4 (fun v6 h7 => v6 = none ∧ hs h7 256 = (0, 11) ∧ ∃ q8, hR h7 256 15 = some q8 ∧ hs h7 256 = (0, 11) ∧ (hs h7 q8).1 = 1 ∧ ix (hF h7 256 16) (hs h7 q8).2 ∧ hs (wI h7 q8 (Int32.toNatClampNeg (hF h7 256 16)) (J x2)) 256 = (0, 11) ∧ hs (wI h7 q8 (Int32.toNatClampNeg (hF h7 256 16)) (J x2)) 256 = (0, 11) ∧ Ex X PG (d + 1) 199 12 [some (.ref 256), some (.int (J x1)), some (.int (J x2))] [] (wG (wI h7 q8 (Int32.toNatClampNeg (hF h7 256 16)) (J x2)) 256 16 ((hF (wI h7 q8 (Int32.toNatClampNeg (hF h7 256 16)) (J x2)) 256 16) + (J 1))) Q)))
  try simp only [aI_wAL, fI_wAL, aL_wA, aL_wF, aI_wA_ne, aI_wF_ne, fI_wA_ne, fI_wF_ne, fI_wF_nk, aL_wAL_ne, J_sameA, J_sameF, aL_same, Nat.add_left_cancel_iff, Nat.add_eq_left, Nat.left_eq_add, not_false_eq_true, Nat.reduceEqDiff, Nat.reduceAdd, J_add, J_sub, J_mul, J_neg, J_and, J_or, J_xor, J_shl, J_shr, J_div, J_i2b, J_i2l, J_l2i, J_lcm, J_max, J_min, J_nab, J_nao, rdA, rdF, rdL, wA_fold, wF_fold, wL_fold, wC_fold]
  refine ⟨(ls256 C_h), ?_⟩
  refine Ex.mono w (Nat.le_refl _) ?_
  rintro v1 h2 ⟨rfl, s12, w⟩
  refine ⟨rfl, ?_⟩
  have C_h2 := Lay_SH s12 C_h
  try simp only [aI_wAL, fI_wAL, aL_wA, aL_wF, aI_wA_ne, aI_wF_ne, fI_wA_ne, fI_wF_ne, fI_wF_nk, aL_wAL_ne, J_sameA, J_sameF, aL_same, Nat.add_left_cancel_iff, Nat.add_eq_left, Nat.left_eq_add, not_false_eq_true, Nat.reduceEqDiff, Nat.reduceAdd, J_add, J_sub, J_mul, J_neg, J_and, J_or, J_xor, J_shl, J_shr, J_div, J_i2b, J_i2l, J_l2i, J_lcm, J_max, J_min, J_nab, J_nao, rdA, rdF, rdL, wA_fold, wF_fold, wL_fold, wC_fold]
  refine Ex.mono w (Nat.le_refl _) ?_
  rintro v3 h4 ⟨r5, gr5, rfl, s11, w⟩
  refine ⟨_, rfl, ?_⟩
  have C_h4 := Lay_SH s11 C_h2
  try simp only [aI_wAL, fI_wAL, aL_wA, aL_wF, aI_wA_ne, aI_wF_ne, fI_wA_ne, fI_wF_ne, fI_wF_nk, aL_wAL_ne, J_sameA, J_sameF, aL_same, Nat.add_left_cancel_iff, Nat.add_eq_left, Nat.left_eq_add, not_false_eq_true, Nat.reduceEqDiff, Nat.reduceAdd, J_add, J_sub, J_mul, J_neg, J_and, J_or, J_xor, J_shl, J_shr, J_div, J_i2b, J_i2l, J_l2i, J_lcm, J_max, J_min, J_nab, J_nao, rdA, rdF, rdL, wA_fold, wF_fold, wL_fold, wC_fold]
  refine ⟨(ls256 C_h4), ?_⟩
  refine Ex.mono w (Nat.le_refl _) ?_
  rintro v6 h7 ⟨rfl, s10, w⟩
  refine ⟨rfl, ?_⟩
  have C_h7 := Lay_SH s10 C_h4
  try simp only [aI_wAL, fI_wAL, aL_wA, aL_wF, aI_wA_ne, aI_wF_ne, fI_wA_ne, fI_wF_ne, fI_wF_nk, aL_wAL_ne, J_sameA, J_sameF, aL_same, Nat.add_left_cancel_iff, Nat.add_eq_left, Nat.left_eq_add, not_false_eq_true, Nat.reduceEqDiff, Nat.reduceAdd, J_add, J_sub, J_mul, J_neg, J_and, J_or, J_xor, J_shl, J_shr, J_div, J_i2b, J_i2l, J_l2i, J_lcm, J_max, J_min, J_nab, J_nao, rdA, rdF, rdL, wA_fold, wF_fold, wL_fold, wC_fold]
  refine ⟨(ls256 C_h7), _, (lr256_15 C_h7), ?_⟩
  refine ⟨(ls256 C_h7), ?_⟩
  obtain ⟨k9, w⟩ := w
  refine ⟨congrArg Prod.fst (ls263 C_h7), ixs (ls263 C_h7) k9 (by decide), ?_⟩
  refine ⟨(ls256 C_h7), ?_⟩
  refine ⟨(ls256 C_h7), ?_⟩
  exact w
-- OutwardDoorsModel.tested()Z at 112
set_option maxRecDepth 20000 in
set_option maxHeartbeats 4000000 in
theorem r199_112 {X : Cst} {d : Nat} {x1 : Int} {l2 : Option Value} {h : AH} {Q : Post} (C_h : Lay h)
  (w : Ex X PG d 206 0 [some (.ref 256), none] [] h (fun v1 h2 => ∃ r3 : Int, (-2147483648 ≤ r3 ∧ r3 < 2147483648) ∧ v1 = some (.int (J r3)) ∧ SH h h2 ∧ ((r3 = 0 → Ex X PG d 204 0 [some (.ref 256), some (.int (J 1))] [] h2 (fun v6 h7 => v6 = none ∧ SH h2 h7 ∧ Q (some (.int (J 1))) h7)) ∧ (¬ r3 = 0 → Ex X PG d 175 0 [some (.ref 256)] [] h2 (fun v9 h10 => ∃ r11 : Int, (-2147483648 ≤ r11 ∧ r11 < 2147483648) ∧ v9 = some (.int (J r11)) ∧ SH h2 h10 ∧ Ex X PG d 179 0 [some (.ref 256), some (.int (J 0)), some (.int (J (fI h10 256 8)))] [] h10 (fun v12 h13 => ∃ r14 : Int, (-2147483648 ≤ r14 ∧ r14 < 2147483648) ∧ v12 = some (.int (J r14)) ∧ SH h10 h13 ∧ (r14 = 0 ∨ r14 = 1) ∧ Q (some (.int (J r14))) h13)))))) :
    Ex X PG (d + 1) 199 112 [some (.ref 256), some (.int (J x1)), l2] [] h Q := by
  refine wpx_ok (cut := [12, 25, 55, 59, 77, 112]) 12 d 199 112 _ _ _ _ ?_
  show hs h 256 = (0, 11) ∧ Ex X PG d 206 0 [some (.ref 256), none] [] h (fun v1 h2 => ∃ r3, v1 = some (.int r3) ∧ ((r3 = (J 0) → hs h2 256 = (0, 11) ∧ Ex X PG d 204 0 [some (.ref 256), some (.int (J 1))] [] h2 (fun v6 h7 => v6 = none ∧ (J 1 = J 0 ∨ J 1 = J 1) ∧ Q (some (.int (J 1))) h7)) ∧ (¬ (r3 = (J 0)) → hs h2 256 = (0, 11) ∧ Ex X PG d 175 0 [some (.ref 256)] [] h2 (fun v9 h10 => ∃ r11, v9 = some (.int r11) ∧ hs h10 256 = (0, 11) ∧ hs h10 256 = (0, 11) ∧ Ex X PG d 179 0 [some (.ref 256), some (.int (J 0)), some (.int (hF h10 256 8))] [] h10 (fun v12 h13 => ∃ r14, v12 = some (.int r14) ∧ (r14 = J 0 ∨ r14 = J 1) ∧ Q (some (.int r14)) h13)))))
  try simp only [aI_wAL, fI_wAL, aL_wA, aL_wF, aI_wA_ne, aI_wF_ne, fI_wA_ne, fI_wF_ne, fI_wF_nk, aL_wAL_ne, J_sameA, J_sameF, aL_same, Nat.add_left_cancel_iff, Nat.add_eq_left, Nat.left_eq_add, not_false_eq_true, Nat.reduceEqDiff, Nat.reduceAdd, J_add, J_sub, J_mul, J_neg, J_and, J_or, J_xor, J_shl, J_shr, J_div, J_i2b, J_i2l, J_l2i, J_lcm, J_max, J_min, J_nab, J_nao, rdA, rdF, rdL, wA_fold, wF_fold, wL_fold, wC_fold]
  refine ⟨(ls256 C_h), ?_⟩
  refine Ex.mono w (Nat.le_refl _) ?_
  rintro v1 h2 ⟨r3, gr3, rfl, s18, w⟩
  refine ⟨_, rfl, ?_⟩
  have C_h2 := Lay_SH s18 C_h
  try simp only [aI_wAL, fI_wAL, aL_wA, aL_wF, aI_wA_ne, aI_wF_ne, fI_wA_ne, fI_wF_ne, fI_wF_nk, aL_wAL_ne, J_sameA, J_sameF, aL_same, Nat.add_left_cancel_iff, Nat.add_eq_left, Nat.left_eq_add, not_false_eq_true, Nat.reduceEqDiff, Nat.reduceAdd, J_add, J_sub, J_mul, J_neg, J_and, J_or, J_xor, J_shl, J_shr, J_div, J_i2b, J_i2l, J_l2i, J_lcm, J_max, J_min, J_nab, J_nao, rdA, rdF, rdL, wA_fold, wF_fold, wL_fold, wC_fold]
  refine ⟨fun c4 => ?_, fun c4 => ?_⟩
  · have t5 : r3 = 0 := ((Jeq gr3 (by decide)).mp c4)
    replace w := w.1 t5
    refine ⟨(ls256 C_h2), ?_⟩
    refine Ex.mono w (Nat.le_refl _) ?_
    rintro v6 h7 ⟨rfl, s8, w⟩
    refine ⟨rfl, ?_⟩
    have C_h7 := Lay_SH s8 C_h2
    try simp only [aI_wAL, fI_wAL, aL_wA, aL_wF, aI_wA_ne, aI_wF_ne, fI_wA_ne, fI_wF_ne, fI_wF_nk, aL_wAL_ne, J_sameA, J_sameF, aL_same, Nat.add_left_cancel_iff, Nat.add_eq_left, Nat.left_eq_add, not_false_eq_true, Nat.reduceEqDiff, Nat.reduceAdd, J_add, J_sub, J_mul, J_neg, J_and, J_or, J_xor, J_shl, J_shr, J_div, J_i2b, J_i2l, J_l2i, J_lcm, J_max, J_min, J_nab, J_nao, rdA, rdF, rdL, wA_fold, wF_fold, wL_fold, wC_fold]
    exact ⟨(Or.inr (by trivial)), w⟩
  · have t5 : ¬ r3 = 0 := (fun e => c4 ((Jeq gr3 (by decide)).mpr e))
    replace w := w.2 t5
    refine ⟨(ls256 C_h2), ?_⟩
    refine Ex.mono w (Nat.le_refl _) ?_
    rintro v9 h10 ⟨r11, gr11, rfl, s17, w⟩
    refine ⟨_, rfl, ?_⟩
    have C_h10 := Lay_SH s17 C_h2
    try simp only [aI_wAL, fI_wAL, aL_wA, aL_wF, aI_wA_ne, aI_wF_ne, fI_wA_ne, fI_wF_ne, fI_wF_nk, aL_wAL_ne, J_sameA, J_sameF, aL_same, Nat.add_left_cancel_iff, Nat.add_eq_left, Nat.left_eq_add, not_false_eq_true, Nat.reduceEqDiff, Nat.reduceAdd, J_add, J_sub, J_mul, J_neg, J_and, J_or, J_xor, J_shl, J_shr, J_div, J_i2b, J_i2l, J_l2i, J_lcm, J_max, J_min, J_nab, J_nao, rdA, rdF, rdL, wA_fold, wF_fold, wL_fold, wC_fold]
    refine ⟨(ls256 C_h10), ?_⟩
    refine ⟨(ls256 C_h10), ?_⟩
    refine Ex.mono w (Nat.le_refl _) ?_
    rintro v12 h13 ⟨r14, gr14, rfl, s16, w⟩
    refine ⟨_, rfl, ?_⟩
    have C_h13 := Lay_SH s16 C_h10
    try simp only [aI_wAL, fI_wAL, aL_wA, aL_wF, aI_wA_ne, aI_wF_ne, fI_wA_ne, fI_wF_ne, fI_wF_nk, aL_wAL_ne, J_sameA, J_sameF, aL_same, Nat.add_left_cancel_iff, Nat.add_eq_left, Nat.left_eq_add, not_false_eq_true, Nat.reduceEqDiff, Nat.reduceAdd, J_add, J_sub, J_mul, J_neg, J_and, J_or, J_xor, J_shl, J_shr, J_div, J_i2b, J_i2l, J_l2i, J_lcm, J_max, J_min, J_nab, J_nao, rdA, rdF, rdL, wA_fold, wF_fold, wL_fold, wC_fold]
    obtain ⟨k15, w⟩ := w
    exact ⟨(k15.imp (congrArg J) (congrArg J)), w⟩
section
variable {X : Cst} {d t : Nat} {L : Int} {tp : Int → Int} {h0 : AH} {Q : Post}
/-- a fact is read from place j with s open -/
def ClF (X : Cst) (d t : Nat) (L : Int) (tp : Int → Int) (h0 : AH) (Q : Post) (n : Nat) : Prop :=
  ∀ (s : List Int) (j p : Int) (c : Cd) (l2 l3 : Option Value) (h hc : AH) (r : RR), r = ft tp L n false (dpt s) false false j p c → 2 * (L - j) + 1 ≤ n → 0 ≤ p ∧ p ≤ 60 → Fr (TRt t) h0 h → SH hc h → FS h tp L j p c t s →
    (r.1 = 0 → ∀ (l3 : Option Value) h' hc', Fr (TRt t) h0 h' → SH hc' h' → FS h' tp L r.2.1 r.2.2.1 (r.2.2.2 ++ pp 3 s) t (pr 3 s) → N5 X d (KC X (d + 1) l3 Q hc') h') →
    (¬ r.1 = 0 → ∀ h', Fr (TRt t) h0 h' → fI h' 256 9 = r.1 → Q (some (.int (J 0))) h') →
    Ex X PG (d + 1) 200 2 [some (.ref 256), some (.int (J 1)), l2] [] h (KF X (d + 1) l3 Q hc)
def ClT (X : Cst) (d t : Nat) (L : Int) (tp : Int → Int) (h0 : AH) (Q : Post) (n : Nat) : Prop :=
  ∀ (s : List Int) (o a : Bool) (j p : Int) (c : Cd) (l2 l3 : Option Value) (h hc : AH) (r : RR), r = ft tp L n true (dpt s) o a j p c → (s = [] ∨ ∃ s', s = 91 :: s') → 2 * (L - j) + 2 ≤ n → 0 ≤ p ∧ p ≤ 60 → Fr (TRt t) h0 h → SH hc h → FS h tp L j p c t (aS a ++ (oS o ++ s)) →
    (r.1 = 0 → s = [] → ∀ h', Fr (TRt t) h0 h' → RP h' tp L r.2.1 r.2.2.1 r.2.2.2 t → Q (some (.int (J 1))) h') →
    (r.1 = 0 → ∀ s', s = 91 :: s' → mrk tp L r.2.1 93 → ∀ (l3 : Option Value) h' hc', Fr (TRt t) h0 h' → SH hc' h' → FS h' tp L (nx tp L r.2.1) r.2.2.1 (r.2.2.2 ++ pp 3 s') t (pr 3 s') → N5 X d (KC X (d + 1) l3 Q hc') h') →
    (r.1 = 0 → ∀ s', s = 91 :: s' → ¬ mrk tp L r.2.1 93 → ∀ h', Fr (TRt t) h0 h' → fI h' 256 9 = 1 + 8 * r.2.1 → Q (some (.int (J 0))) h') →
    (¬ r.1 = 0 → ∀ h', Fr (TRt t) h0 h' → fI h' 256 9 = r.1 → Q (some (.int (J 0))) h') →
    Ex X PG (d + 1) 200 2 [some (.ref 256), some (.int (J 1)), l2] [] h (KF X (d + 1) l3 Q hc)
theorem ClF_s (C : Lay h0) (hd : 7 ≤ d) (B : BT tp) (ht : t < 6) {n : Nat} (iF : ClF X d t L tp h0 Q n) (iT : ClT X d t L tp h0 Q n) : ClF X d t L tp h0 Q (n + 1) := by
  intro s j p c l2 l3 h hc r er hn hp F sc S k1 k0
  have kj := S.1.1.j
  have C' := F.C C
  have sv := (seeV_is (tp := tp) (L := L) (j := j) B kj.1 kj.2.2.1).2.2
  have nb := nx_b (tp := tp) (L := L) (j := j) kj.1 kj.2.1
  have i91 := mrk_see (tp := tp) (L := L) (j := j) (c := 91) B kj.1 kj.2.2.1 (by omega)
  have pb := pnd_b s
  have dp := dpt_b s
  rw [ft_f] at er
  refine r200_2 C' ⟨by omega, fun z => absurd z (by decide), fun _ => ?_⟩
  refine m175 C' (by omega) S.1.1 (fun h2 F2 K2 e2 => ⟨_, by omega, rfl, F2.1, ?_⟩)
  have S2 := S.nx ht F2 K2 (Int.le_refl j)
  have G2 := F.tr (F2.mo (fun _ _ => TNx_t))
  refine m177s (G2.C C) (by omega) K2 (s := 17) (by decide) (by decide) (fun y l h3 F3 K3 e3 => ⟨1, by omega, rfl, F3.1, fun z => absurd z (by decide), fun _ => ?_⟩) (fun y h3 F3 K3 e3 => ⟨0, by omega, rfl, F3.1, fun _ => ⟨fun c1 => ?_, fun c1 => ?_⟩, fun z => absurd rfl z⟩)
  · -- not
    have S3 := S2.nx ht F3 K3 (Int.le_refl j)
    have G3 := G2.tr (F3.mo (fun _ _ => TNx_t))
    have C3 := G3.C C
    rw [pI_pos (Or.inl y)] at er
    refine m201 C3 (by omega) ht S3 l.1 e3 (Or.inl rfl) (fun nd h4 F4 R4 S4 e4 => ⟨1, by omega, rfl, F4.1, fun _ => ?_, fun z => absurd z (by decide)⟩) (fun ed => ⟨0, by omega, rfl, SH.rf.wF, fun z => absurd rfl z, fun _ => ?_⟩)
    · rw [pI_neg nd, pI_pos y] at er
      have G4 := G3.tr F4
      refine m182w (G4.C C) (by omega) R4.1 e4 l (fun h5 F5 K5 => ⟨rfl, F5.1, ?_⟩)
      have G5 := G4.tr (F5.mo (fun _ _ => TNx_t))
      have lt := l.1
      have hS := S3.2.2.2
      have e11 : pnd (11 :: s) = pnd s + 1 := by show (if (11 : Int) = 91 then 0 else 1) + pnd s = pnd s + 1; rw [if_neg (by decide)]; omega
      have d11 : dpt (11 :: s) = dpt s + 1 := by show (if (11 : Int) = 11 ∨ (11 : Int) = 91 then 1 else 0) + dpt s = dpt s + 1; rw [if_pos (by decide)]; omega
      have S5 : FS h5 tp L (nx tp L j) p c t (11 :: s) := ⟨R4.nx ht (by omega) F5 K5, S4.fr F5 (fun a k z => by unfold TNx at z; omega), S3.2.2.1.cons (by omega), by rw [e11]; omega, by rw [List.length_cons]; omega⟩
      refine iF (11 :: s) (nx tp L j) p c _ l3 h5 hc _ rfl (by omega) hp G5 ?_ S5 (fun e l3' h6 hc' F6 sc' S6 => ?_) (fun e h6 F6 e9 => ?_)
      · exact (sc.tr F2.1).tr ((F3.1.tr F4.1).tr F5.1)
      · rw [d11] at e S6
        rw [bn_pos e] at er
        rw [show pp 3 (11 :: s) = (11, 0) :: pp 3 s from rfl, show pr 3 (11 :: s) = pr 3 s from rfl] at S6
        refine k1 (by rw [er]) l3' h6 hc' F6 sc' ?_
        rw [er]
        show FS h6 tp L _ _ ((_ ++ [(11, 0)]) ++ pp 3 s) t (pr 3 s)
        rw [List.append_assoc]
        exact S6
      · rw [d11] at e e9
        rw [bn_neg e] at er
        exact k0 (by rw [er]; exact e) h6 F6 (by rw [er]; exact e9)
    · rw [pI_pos ed] at er
      exact ⟨0, by omega, rfl, ((sc.tr F2.1).tr F3.1).wF, fun z => absurd rfl z, fun _ => k0 (by rw [er]; show ¬ 1 + 8 * j + 2 = 0; omega) _ (G3.wF (by unfold TRt TRp; omega)) (by rw [er, fI_wF_eq (by omega)]; rfl)⟩
  · -- a comparison
    have S3 := S2.nx ht F3 K3 (Int.le_refl j)
    have G3 := G2.tr (F3.mo (fun _ _ => TNx_t))
    have C3 := G3.C C
    rw [pI_neg (fun z => by rcases z with z | z; exact y z; exact c1 (i91.mpr z))] at er
    refine r200_2 C3 ⟨by omega, fun _ => ?_, fun z => absurd rfl z⟩
    have hS := S3.2.2.2
    refine m202 C3 (by omega) B ht S3.1 (by omega) hp ⟨fun e h4 F4 R4 => ⟨1, by omega, rfl, F4.1, Or.inr rfl, ?_⟩, fun e h4 F4 e9 => ⟨0, by omega, rfl, F4.1, Or.inl rfl, ?_⟩⟩
    · have G4 := G3.tr (F4.mo (fun _ _ => TRs_t))
      obtain ⟨g1, g2, dd, g3, g4, -⟩ := Gd_cp (tp := tp) (c := c) kj.1 kj.2.1 hp.2 e
      rw [← er] at R4 g1 g2 g3 g4 e
      have cl : (r.2.2.2.length : Int) + pnd s ≤ r.2.1 := by rw [g3, List.length_append]; omega
      refine ⟨1, by omega, rfl, ((sc.tr F2.1).tr F3.1).tr F4.1, fun _ => ?_, fun z => absurd z (by decide)⟩
      refine r199_25 (G4.C C) ?_
      refine r203_0 (G4.C C) ?_
      have S4 : StR h4 s := S3.2.1.fr F4 (fun a k z => by unfold TRz TRp at z; omega)
      refine m204 (G4.C C) (by omega) ht (by omega) s r.2.2.2 h4 Fr.rf R4 S4 S3.2.2.1 (by omega) (by omega) (fun h5 F5 R5 S5 => ⟨rfl, F5.1, ?_⟩)
      have pl := pp_len (l := 3) (by omega) s
      exact k1 e l3 h5 h4 (G4.tr (F5.mo (fun _ _ => TSt_t))) F5.1 ⟨R5, S5, S3.2.2.1.rest, by rw [List.length_append]; omega, by omega⟩
    · rw [← er] at e e9
      exact ⟨0, by omega, rfl, ((sc.tr F2.1).tr F3.1).tr F4.1, fun z => absurd rfl z, fun _ => k0 e h4 (G3.tr (F4.mo (fun _ _ => TRs_t))) e9⟩
  · -- a bracket
    have S3 := S2.nx ht F3 K3 (Int.le_refl j)
    have G3 := G2.tr (F3.mo (fun _ _ => TNx_t))
    have C3 := G3.C C
    have m91 := i91.mp c1
    have lt := m91.1
    rw [pI_pos (Or.inr m91)] at er
    refine m201 C3 (by omega) ht S3 lt e3 (Or.inr rfl) (fun nd h4 F4 R4 S4 e4 => ⟨1, by omega, rfl, F4.1, fun _ => ?_, fun z => absurd z (by decide)⟩) (fun ed => ⟨0, by omega, rfl, SH.rf.wF, fun z => absurd rfl z, fun _ => ?_⟩)
    · rw [pI_neg nd, pI_neg y] at er
      have G4 := G3.tr F4
      rw [e4]
      have hS := S3.2.2.2
      have R5 := R4.st (i := j + 1) ht (by omega) (by omega)
      rw [← nx_mk m91 (by unfold dgP; omega) (by unfold leP; omega) (by unfold wdn; rw [m91.2]; omega)] at R5
      have e91 : pnd (91 :: s) = pnd s := by show (if (91 : Int) = 91 then 0 else 1) + pnd s = pnd s; rw [if_pos rfl]; omega
      have d91 : dpt (91 :: s) = dpt s + 1 := by show (if (91 : Int) = 11 ∨ (91 : Int) = 91 then 1 else 0) + dpt s = dpt s + 1; rw [if_pos (by decide)]; omega
      have F5 : Fr TNx h4 (wF h4 256 8 (j + 1)) := Fr.rf.wF (by unfold TNx; omega)
      have S5 : FS (wF h4 256 8 (j + 1)) tp L (nx tp L j) p c t (91 :: s) := ⟨R5, S4.fr F5 (fun a k z => by unfold TNx at z; omega), S3.2.2.1.cons (by omega), by rw [e91]; omega, by rw [List.length_cons]; omega⟩
      have G5 := G4.tr (F5.mo (fun _ _ => TNx_t))
      refine iT (91 :: s) false false (nx tp L j) p c _ l3 _ hc _ rfl (Or.inr ⟨s, rfl⟩) (by omega) hp G5 ?_ S5 (fun _ z => absurd z (List.cons_ne_nil _ _)) (fun e s' es mm l3' h6 hc' F6 sc' S6 => ?_) (fun e s' es mm h6 F6 e9 => ?_) (fun e h6 F6 e9 => ?_)
      · exact (sc.tr F2.1).tr ((F3.1.tr F4.1).tr F5.1)
      · rw [d91] at e S6 mm
        obtain rfl := (List.cons.inj es).2
        rw [bn_pos e, pI_pos mm] at er
        refine k1 (by rw [er]) l3' h6 hc' F6 sc' ?_
        rw [er]
        exact S6
      · rw [d91] at e e9 mm
        rw [bn_pos e, pI_neg mm] at er
        have jj := (Gd_ft (tp := tp) (L := L) n (dpt s + 1) (nx tp L j) p c (by omega) nb.2.1 hp.2).2 false false e
        have j1 := jj.1
        exact k0 (by rw [er]; show ¬ 1 + 8 * _ = 0; omega) h6 F6 (by rw [er]; exact e9)
      · rw [d91] at e e9
        rw [bn_neg e] at er
        exact k0 (by rw [er]; exact e) h6 F6 (by rw [er]; exact e9)
    · rw [pI_pos ed] at er
      exact ⟨0, by omega, rfl, ((sc.tr F2.1).tr F3.1).wF, fun z => absurd rfl z, fun _ => k0 (by rw [er]; show ¬ 1 + 8 * j + 2 = 0; omega) _ (G3.wF (by unfold TRt TRp; omega)) (by rw [er, fI_wF_eq (by omega)]; rfl)⟩
theorem wc_no {tp : Int → Int} {L j c : Int} (m : mrk tp L j c) (nl : ¬ leP c) (h0 : 0 ≤ j) {q : Nat} (hq : q < 20) : ¬ wc tp L j = wSc q := fun e => nl (by have := (wc_pos h0 (by have := m.1; omega) (wSb q hq).1 e).2.1; rw [m.2] at this; exact this)
theorem ClT_s (C : Lay h0) (hd : 7 ≤ d) (B : BT tp) (ht : t < 6) {n : Nat} (iF : ClF X d t L tp h0 Q n) (iT : ClT X d t L tp h0 Q n) : ClT X d t L tp h0 Q (n + 1) := by
  intro s o a j p c l2 l3 h hc r er hs' hn hp F sc S kE kB kN k0
  rw [ft_t] at er
  have kj := S.1.1.j
  refine iF (aS a ++ (oS o ++ s)) j p c l2 l3 h hc _ rfl (by omega) hp F sc S (fun e l4 h2 hc' F2 sc' S2 => ?_) (fun e h2 F2 e9 => ?_)
  rotate_left
  · rw [dpt_st] at e e9
    rw [bn_neg e] at er
    exact k0 (by rw [er]; exact e) h2 F2 (by rw [er]; exact e9)
  rw [dpt_st, (pp3_91 s o a hs').1, (pp3_91 s o a hs').2, List.append_nil] at S2
  rw [dpt_st] at e
  rw [bn_pos e] at er
  have gf := (Gd_ft (tp := tp) (L := L) n (dpt s) j p c kj.1 kj.2.1 hp.2).1 e
  have g1 := gf.1
  have g2 := gf.2.1
  generalize (ft tp L n false (dpt s) false false j p c).2.1 = j1 at *
  generalize (ft tp L n false (dpt s) false false j p c).2.2.1 = p1 at *
  generalize (ft tp L n false (dpt s) false false j p c).2.2.2 = c1 at *
  clear gf
  have nb := nx_b (tp := tp) (L := L) (j := j1) (by omega) g1.2
  have sv := (seeV_is (tp := tp) (L := L) (j := j1) B (by omega) kj.2.2.1).2.2
  have i93 := mrk_see (tp := tp) (L := L) (j := j1) (c := 93) B (by omega) kj.2.2.1 (by omega)
  have pS := pnd_b (aS a ++ (oS o ++ s))
  have hS := S2.2.2.2
  have O2 := S2.2.2.1
  have mst := mem_st s o a
  have q1 := pp1_91 s o a hs'
  have q2 := pp2_91 s o a hs'
  have l1 := pp_len (l := 1) (by omega) (aS a ++ (oS o ++ s))
  have l2' := pp_len (l := 2) (by omega) (aS a ++ (oS o ++ s))
  have os1 := OkS.rest (l := 1) O2
  have os2 := OkS.rest (l := 2) O2
  rw [q1.1, q1.2] at l1
  rw [q2.1, q2.2] at l2'
  rw [q1.2] at os1
  rw [q2.2] at os2
  -- an operation is pushed, the next fact read
  have push : ∀ (x : Int) (s2 : List Int) (c2 : Cd) (o2 a2 : Bool) (lx : Option Value) (h3 : AH), Fr (TRt t) h0 h3 → FS h3 tp L (nx tp L j1) p1 c2 t s2 → x :: s2 = aS a2 ++ (oS o2 ++ s) → (x = 12 ∨ x = 13) → (c2.length : Int) + pnd s2 + 1 ≤ nx tp L j1 → (s2.length : Int) + 1 ≤ nx tp L j1 → j1 < L → r = ft tp L n true (dpt s) o2 a2 (nx tp L j1) p1 c2 →
      Ex X PG (d + 1 + 1) 199 12 [some (.ref 256), some (.int (J 1)), lx] [] (wF (wA h3 263 (fI h3 256 16) x) 256 16 (fI h3 256 16 + 1)) Q := by
    intro x s2 c2 o2 a2 lx h3 F3 S3 ex hx hc2 hs2 lt er2
    obtain ⟨R3, T3, O3, -, -⟩ := S3
    rw [T3.1]
    have pb := pnd_b s2
    have F4 : Fr TOs h3 (wF (wA h3 263 s2.length x) 256 16 (s2.length + 1)) := (Fr.rf.wA (Or.inr rfl)).wF (by unfold TOs; omega)
    have G4 := F3.tr (F4.mo (fun _ _ => TOs_t (t := t)))
    have dx : dpt (x :: s2) = dpt s2 := by show (if x = 11 ∨ x = 91 then 1 else 0) + dpt s2 = dpt s2; rw [if_neg (by omega)]; omega
    have px : pnd (x :: s2) = pnd s2 + 1 := by show (if x = 91 then 0 else 1) + pnd s2 = pnd s2 + 1; rw [if_neg (by omega)]; omega
    have S4 : FS (wF (wA h3 263 s2.length x) 256 16 (s2.length + 1)) tp L (nx tp L j1) p1 c2 t (x :: s2) := by
      refine ⟨R3.os ht (by omega) F4, ⟨?_, ?_, ?_, ?_⟩, O3.cons (by omega), by rw [px]; omega, by rw [List.length_cons]; omega⟩
      · rw [fI_wF_eq (by omega), List.length_cons]; omega
      · rw [fI_wF_nk (by decide), fI_wA_ne (by decide), dx]; exact T3.2.1
      · rw [aI_wF_ne (by decide), aI_wA (by omega), uu_eq]
      · refine StA_cg s2 (fun i i0 i1 => ?_) T3.2.2
        rw [aI_wF_ne (by decide), aI_wA (by omega), uu_ne (by omega) (by omega) (by omega)]
    rw [ex] at S4
    refine r199_12 (G4.C C) ⟨by omega, fun z => absurd z (by decide), fun _ => ?_⟩
    refine r200_0 (G4.C C) ?_
    exact iT s o2 a2 (nx tp L j1) p1 c2 _ lx _ _ r er2 hs' (by omega) (by omega) G4 SH.rf S4 kE kB kN k0
  -- behind closes()
  have go : ∀ (h3 : AH), Fr (TRt t) h0 h3 → FS h3 tp L j1 p1 c1 t (aS a ++ (oS o ++ s)) → ((91 : Int) ∈ s → ¬ mrk tp L j1 93) → N29 X (d + 1) l4 Q h3 := by
    intro h3 F3 S3 nm
    have C3 := F3.C C
    unfold N29
    refine m177s C3 (by omega) S3.1.1 (s := 18) (by decide) (by decide) (fun y l h4 F4 K4 e4 => ⟨1, by omega, rfl, F4.1, fun _ => ?_, fun z => absurd z (by decide)⟩) (fun y h4 F4 K4 e4 => ⟨0, by omega, rfl, F4.1, fun z => absurd rfl z, fun _ => ?_⟩)
    · -- and
      have S4 := S3.nx ht F4 K4 (Int.le_refl _)
      have G4 := F3.tr (F4.mo (fun _ _ => TNx_t))
      have C4 := G4.C C
      rw [pI_pos y] at er
      refine r199_55 C4 ⟨by omega, fun z => absurd z (by decide), fun _ => r199_59 C4 ?_⟩
      refine m177s C4 (by omega) K4 (s := 18) (by decide) (by decide) (fun _ _ h5 F5 K5 e5 => ⟨1, by omega, rfl, F5.1, fun z => absurd z (by decide), fun _ => ?_⟩) (fun z => absurd y z)
      have S5 := S4.nx ht F5 K5 (Int.le_refl _)
      have G5 := G4.tr (F5.mo (fun _ _ => TNx_t))
      refine r199_77 (G5.C C) ?_
      refine m182w (G5.C C) (by omega) K5 e5 l (fun h6 F6 K6 => ⟨rfl, F6.1, ?_⟩)
      have G6 := G5.tr (F6.mo (fun _ _ => TNx_t))
      have lt := l.1
      have S6 := S5.nx ht F6 K6 (by omega)
      refine m205 (G6.C C) (by omega) (by omega) ⟨_, by have := stg_b 12; omega, rfl, SH.rf, ?_⟩
      refine m204 (G6.C C) (by omega) ht (by decide) _ c1 h6 Fr.rf S6.1 S6.2.1 O2 (by omega) (by omega) (fun h7 F7 R7 T7 => ⟨rfl, F7.1, ?_⟩)
      rw [show stg 12 = 2 from rfl, q2.1] at R7
      rw [show stg 12 = 2 from rfl, q2.2] at T7
      have la : ((c1 ++ aLc a).length : Int) = c1.length + (aLc a).length := by rw [List.length_append]; omega
      refine ⟨by rw [T7.1]; omega, ?_⟩
      exact push 12 (oS o ++ s) (c1 ++ aLc a) o true _ h7 (G6.tr (F7.mo (fun _ _ => TSt_t))) ⟨R7, T7, os2, by omega, by omega⟩ rfl (Or.inl rfl) (by omega) (by omega) lt er
    rw [pI_neg y] at er
    have S4 := S3.nx ht F4 K4 (Int.le_refl _)
    have G4 := F3.tr (F4.mo (fun _ _ => TNx_t))
    have C4 := G4.C C
    refine m177s C4 (by omega) K4 (s := 19) (by decide) (by decide) (fun y2 l h5 F5 K5 e5 => ⟨1, by omega, rfl, F5.1, fun z => absurd z (by decide), fun _ => ?_⟩) (fun y2 h5 F5 K5 e5 => ⟨0, by omega, rfl, F5.1, fun _ => ?_, fun z => absurd rfl z⟩)
    · -- or
      have S5 := S4.nx ht F5 K5 (Int.le_refl _)
      have G5 := G4.tr (F5.mo (fun _ _ => TNx_t))
      have C5 := G5.C C
      rw [pI_pos y2] at er
      refine r199_55 C5 ⟨by omega, fun z => absurd z (by decide), fun _ => r199_59 C5 ?_⟩
      refine m177s C5 (by omega) K5 (s := 18) (by decide) (by decide) (fun z => absurd z y) (fun _ h6 F6 K6 e6 => ⟨0, by omega, rfl, F6.1, fun _ => ?_, fun z => absurd rfl z⟩)
      have S6 := S5.nx ht F6 K6 (Int.le_refl _)
      have G6 := G5.tr (F6.mo (fun _ _ => TNx_t))
      refine r199_77 (G6.C C) ?_
      refine m182w (G6.C C) (by omega) K6 e6 l (fun h7 F7 K7 => ⟨rfl, F7.1, ?_⟩)
      have G7 := G6.tr (F7.mo (fun _ _ => TNx_t))
      have lt := l.1
      have S7 := S6.nx ht F7 K7 (by omega)
      refine m205 (G7.C C) (by omega) (by omega) ⟨_, by have := stg_b 13; omega, rfl, SH.rf, ?_⟩
      refine m204 (G7.C C) (by omega) ht (by decide) _ c1 h7 Fr.rf S7.1 S7.2.1 O2 (by omega) (by omega) (fun h8 F8 R8 T8 => ⟨rfl, F8.1, ?_⟩)
      rw [show stg 13 = 1 from rfl, q1.1, ← List.append_assoc] at R8
      rw [show stg 13 = 1 from rfl, q1.2] at T8
      have la : ((c1 ++ aLc a ++ oL o).length : Int) = c1.length + (aLc a ++ oL o).length := by rw [List.append_assoc, List.length_append]; omega
      refine ⟨by rw [T8.1]; omega, ?_⟩
      exact push 13 s (c1 ++ aLc a ++ oL o) true false _ h8 (G7.tr (F8.mo (fun _ _ => TSt_t))) ⟨R8, T8, os1, by omega, by omega⟩ rfl (Or.inr rfl) (by omega) (by omega) lt er
    · -- the test's end
      have S5 := S4.nx ht F5 K5 (Int.le_refl _)
      have G5 := G4.tr (F5.mo (fun _ _ => TNx_t))
      have C5 := G5.C C
      rw [pI_neg y2] at er
      refine r199_55 C5 ⟨by omega, fun _ => r199_12 C5 ⟨by omega, fun _ => r199_112 C5 ?_, fun z => absurd rfl z⟩, fun z => absurd rfl z⟩
      refine m206 C5 (by omega) S5.2.1 (by omega) (fun ins => ⟨1, by omega, rfl, SH.rf, fun z => absurd z (by decide), fun _ => ?_⟩) (fun ins => ⟨0, by omega, rfl, SH.rf, fun _ => ?_, fun z => absurd rfl z⟩)
      · have i91 := mst.mp ins
        rcases hs' with z | ⟨s', z⟩
        · rw [z] at i91; exact absurd i91 List.not_mem_nil
        refine m175 C5 (by omega) K5 (fun h6 F6 K6 e6 => ⟨_, by omega, rfl, F6.1, ?_⟩)
        rw [e6]
        refine m179 (F6.C C5) (by omega) K6.2.2.2.2 ⟨0, by omega, rfl, SH.rf.wF, Or.inl rfl, ?_⟩
        have e1 : r.2.1 = j1 := by rw [er]
        refine kN (by rw [er]) s' z (by rw [e1]; exact nm i91) _ ((G5.tr (F6.mo (fun _ _ => TNx_t))).wF (by unfold TRt TRp; omega)) ?_
        rw [fI_wF_eq (by omega), e1]; omega
      · rcases hs' with z | ⟨s', z⟩
        rotate_left
        · exact absurd (mst.mpr (by rw [z]; exact List.mem_cons_self)) ins
        refine m204 C5 (by omega) ht (by decide) _ c1 h5 Fr.rf S5.1 S5.2.1 O2 (by omega) (by omega) (fun h6 F6 R6 T6 => ⟨rfl, F6.1, ?_⟩)
        rw [q1.1, ← List.append_assoc] at R6
        exact kE (by rw [er]) z h6 (G5.tr (F6.mo (fun _ _ => TSt_t))) (by rw [er]; exact R6)
  unfold N5
  refine m175 (F2.C C) (by omega) S2.1.1 (fun h3 F3 K3 e3 => ⟨_, by omega, rfl, F3.1, fun c93 => ?_, fun c93 => ?_⟩)
  · have S3 := S2.nx ht F3 K3 (Int.le_refl _)
    exact ⟨rfl, sc'.tr F3.1, go h3 (F2.tr (F3.mo (fun _ _ => TNx_t))) S3 (fun _ z => c93 (i93.mpr z))⟩
  have S3 := S2.nx ht F3 K3 (Int.le_refl _)
  have G3 := F2.tr (F3.mo (fun _ _ => TNx_t))
  have C3 := G3.C C
  have m93 := i93.mp c93
  have lt := m93.1
  refine m206 C3 (by omega) S3.2.1 (by omega) (fun ins => ⟨1, by omega, rfl, SH.rf, fun z => absurd z (by decide), fun _ => ?_⟩) (fun ins => ⟨0, by omega, rfl, SH.rf, fun _ => ?_, fun z => absurd rfl z⟩)
  rotate_left
  · exact ⟨rfl, sc'.tr F3.1, go h3 G3 S3 (fun z => absurd (mst.mpr z) ins)⟩
  have i91 := mst.mp ins
  rcases hs' with z | ⟨s', z⟩
  · rw [z] at i91; exact absurd i91 List.not_mem_nil
  rw [pI_neg (wc_no m93 (by unfold leP; omega) (by omega) (by decide)), pI_neg (wc_no m93 (by unfold leP; omega) (by omega) (by decide))] at er
  refine m204 C3 (by omega) ht (by decide) _ c1 h3 Fr.rf S3.1 S3.2.1 O2 (by omega) (by omega) (fun h4 F4 R4 T4 => ⟨rfl, F4.1, ?_⟩)
  rw [q1.1, ← List.append_assoc] at R4
  rw [q1.2, z] at T4
  rw [z] at os1
  have G4 := G3.tr (F4.mo (fun _ _ => TSt_t))
  have e91 : pnd (91 :: s') = pnd s' := by show (if (91 : Int) = 91 then 0 else 1) + pnd s' = pnd s'; rw [if_pos rfl]; omega
  have d91 : dpt (91 :: s') = dpt s' + 1 := by show (if (91 : Int) = 11 ∨ (91 : Int) = 91 then 1 else 0) + dpt s' = dpt s' + 1; rw [if_pos (by decide)]; omega
  have dp := dpt_b s'
  have pb := pnd_b s'
  have p1' : pnd s = pnd s' := by rw [z]; exact e91
  have n1' : s.length = s'.length + 1 := by rw [z, List.length_cons]
  have la : ((c1 ++ aLc a ++ oL o).length : Int) = c1.length + (aLc a ++ oL o).length := by rw [List.append_assoc, List.length_append]; omega
  have t1 := T4.1
  have t2 := T4.2.1
  rw [List.length_cons] at t1
  rw [d91] at t2
  have F5a : Fr TOs h4 (wF (wF h4 256 16 s'.length) 256 13 (dpt s')) := (Fr.rf.wF (by unfold TOs; omega)).wF (by unfold TOs; omega)
  have R5 := R4.os ht (by omega) F5a
  have e85 : fI h4 256 8 = j1 := by rw [F4.f 256 8 (by unfold TSt TOz TRp; omega)]; exact e3
  rw [t1, t2, e85, show ((s'.length + 1 : Nat) : Int) - 1 = s'.length by omega, show dpt s' + 1 - 1 = dpt s' by omega]
  have R6 := R5.st (i := j1 + 1) ht (by omega) (by omega)
  rw [← nx_mk m93 (by unfold dgP; omega) (by unfold leP; omega) (by unfold wdn; rw [m93.2]; omega)] at R6
  have F6 : Fr TNx (wF (wF h4 256 16 s'.length) 256 13 (dpt s')) (wF (wF (wF h4 256 16 s'.length) 256 13 (dpt s')) 256 8 (j1 + 1)) := Fr.rf.wF (by unfold TNx; omega)
  have G6 := G4.tr ((F5a.mo (fun _ _ => TOs_t (t := t))).tr (F6.mo (fun _ _ => TNx_t)))
  have T6 : StR (wF (wF (wF h4 256 16 s'.length) 256 13 (dpt s')) 256 8 (j1 + 1)) s' := by
    refine ⟨?_, ?_, ?_⟩
    · rw [fI_wF_nk (by decide), fI_wF_nk (by decide), fI_wF_eq (by omega)]
    · rw [fI_wF_nk (by decide), fI_wF_eq (by omega)]
    · rw [aI_wF_ne (by decide), aI_wF_ne (by decide), aI_wF_ne (by decide)]; exact T4.2.2.2
  refine m204 (G6.C C) (by omega) ht (by decide) s' _ _ Fr.rf R6 T6 os1.tl (by omega) (by omega) (fun h7 F7 R7 T7 => ⟨rfl, F7.1, ?_⟩)
  have G7 := G6.tr (F7.mo (fun _ _ => TSt_t))
  have l3' := pp_len (l := 3) (by omega) s'
  refine r203_5 (G7.C C) ?_
  have e1 : r.2.1 = j1 := by rw [er]
  refine kB (by rw [er]) s' z (by rw [e1]; exact m93) l4 h7 hc' G7 (sc'.tr (F3.1.tr (F4.1.tr (F5a.1.tr (F6.1.tr F7.1))))) ?_
  rw [er]
  show FS h7 tp L (nx tp L j1) p1 ((c1 ++ aLc a ++ oL o) ++ pp 3 s') t (pr 3 s')
  exact ⟨R7, T7, os1.tl.rest, by rw [List.length_append]; omega, by omega⟩
end
theorem m199 {X : Cst} {d t : Nat} {L j p : Int} {tp : Int → Int} {c : Cd} {r : RR} {h : AH} {Q : Post} (C : Lay h) (hd : 10 ≤ d) (B : BT tp) (ht : t < 6) (R : RP h tp L j p c t) (hc : (c.length : Int) ≤ j) (hp : 0 ≤ p ∧ p ≤ 60) (er : r = ft tp L 802 true 0 false false j p c)
    (k1 : r.1 = 0 → ∀ h', Fr (TRt t) h h' → RP h' tp L r.2.1 r.2.2.1 r.2.2.2 t → Q (some (.int (J 1))) h') (k0 : ¬ r.1 = 0 → ∀ h', Fr (TRt t) h h' → fI h' 256 9 = r.1 → Q (some (.int (J 0))) h') : Ex X PG d 199 0 [some (.ref 256), none, none] [] h Q := by
  obtain ⟨d, rfl⟩ : ∃ e, d = e + 2 := ⟨d - 2, by omega⟩
  have kj := R.1.j
  have cl : ∀ n, ClF X d t L tp h Q n ∧ ClT X d t L tp h Q n := by
    intro n
    induction n with
    | zero => exact ⟨fun s j p c l2 l3 h1 hc' r _ hn _ _ _ S => by have := S.1.1.j; omega, fun s o a j p c l2 l3 h1 hc' r _ _ hn _ _ _ S => by have := S.1.1.j; omega⟩
    | succ n ih => exact ⟨ClF_s C (by omega) B ht ih.1 ih.2, ClT_s C (by omega) B ht ih.1 ih.2⟩
  refine r199_0 C ?_
  have F : Fr TOz h (wF (wF h 256 16 0) 256 13 0) := (Fr.rf.wF (by unfold TOz; omega)).wF (by unfold TOz; omega)
  have G : Fr (TRt t) h (wF (wF h 256 16 0) 256 13 0) := F.mo (fun _ _ z => TOs_t (TOz_s z))
  refine r199_12 (F.C C) ⟨by omega, fun z => absurd z (by decide), fun _ => r200_0 (F.C C) ?_⟩
  refine (cl 802).2 [] false false j p c _ _ _ _ r er (Or.inl rfl) (by omega) hp G SH.rf ?_ (fun e _ => k1 e) (fun _ s' z => absurd z.symm (List.cons_ne_nil _ _)) (fun _ s' z => absurd z.symm (List.cons_ne_nil _ _)) k0
  refine ⟨R.os ht (by omega) (F.mo (fun _ _ => TOz_s)), ⟨?_, ?_, trivial⟩, fun x hx => absurd hx List.not_mem_nil, ?_, ?_⟩
  · rw [fI_wF_nk (by decide), fI_wF_eq (by omega)]; rfl
  · rw [fI_wF_eq (by omega)]; rfl
  · show (c.length : Int) + 0 ≤ j; omega
  · show (0 : Int) ≤ j; exact kj.1
