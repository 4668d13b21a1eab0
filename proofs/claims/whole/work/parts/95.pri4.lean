/-! THE CLASS: least, price. -/
def TLe (co ne be c k : Nat) : Prop := TAw co ne be c k ∨ (c = 250 ∧ k = 8)
theorem cnt_no {P : Int → Prop} {N : Int} (hN : 0 ≤ N) (h : ∀ x, 0 ≤ x → x < N → ¬ P x) : cnt P N = 0 := by
  unfold cnt
  exact sumN_bI_0 _ (fun k k0 k1 => h k k0 (by omega))
theorem cnt_some {P : Int → Prop} {N x : Int} (hx : 0 ≤ x ∧ x < N) (p : P x) : 1 ≤ cnt P N := by
  unfold cnt
  exact sumN_bI_pos _ x hx.1 (by omega) p
-- OutwardDoors$Pricer.least(LOutwardDoors$World;I)I at 0
set_option maxRecDepth 20000 in
set_option maxHeartbeats 4000000 in
theorem r145_0 {X : Cst} {d : Nat} {x2 : Int} {pl : Nat} {h : AH} {Q : Post} (C_h : Lay h) (K_h_0 : PlanAt h pl) {co ne be ln : Nat} (B_h : PriAt h pl co ne be ln) (ap : (co = 251 ∨ 281 ≤ co) ∧ (ne = 252 ∨ 281 ≤ ne) ∧ (be = 253 ∨ 281 ≤ be) ∧ (¬ co = ne ∧ ¬ co = be ∧ ¬ ne = be) ∧ (co < pl ∨ pl + 10 < co) ∧ (ne < pl ∨ pl + 10 < ne) ∧ (be < pl ∨ pl + 10 < be)) (hd : 1 ≤ d)
  (w : (∀ h3, SH h h3 → (Fr (fun c2 _ => c2 = co) h h3 ∧ ∀ k : Int, 0 ≤ k → k < ln → aI h3 co k = 2147483647) → (∀ h6, SH h3 h6 → (Fr (fun c2 _ => c2 = 254) h3 h6 ∧ ∀ k : Int, 0 ≤ k → k < 51 → aI h6 254 k = (-1)) → Ex X PG d 117 0 [some (.ref 64), some (.int (J (fI h6 250 2))), none, none] [] (wF (wF h6 250 8 x2) 250 9 0) (fun v7 h8 => ∃ r9 : Int, (-2147483648 ≤ r9 ∧ r9 < 2147483648) ∧ v7 = some (.int (J r9)) ∧ SH (wF (wF h6 250 8 x2) 250 9 0) h8 ∧ Ex X PG d 128 0 [some (.ref 250), some (.int (J r9)), some (.int (J 0)), none] [] h8 (fun v10 h11 => v10 = none ∧ SH h8 h11 ∧ Ex X PG (d + 1) 145 42 [some (.ref 250), some (.ref 64), some (.int (J x2)), some (.int (J 0))] [] h11 Q))))) :
    Ex X PG (d + 1) 145 0 [some (.ref 250), some (.ref 64), some (.int (J x2)), none] [] h Q := by
  refine wpx_ok (cut := [42]) 23 d 145 0 _ _ _ _ ?_
  show hs h 250 = (0, 3) ∧ ∃ q1, hR h 250 4 = some q1 ∧ Ex X PG d 4 0 [some (.ref q1), some (.int (J 2147483647)), none, none] [] h (fun v2 h3 => v2 = none ∧ hs h3 250 = (0, 3) ∧ ∃ q4, hR h3 250 7 = some q4 ∧ Ex X PG d 4 0 [some (.ref q4), some (.int (J (-1))), none, none] [] h3 (fun v5 h6 => v5 = none ∧ hs h6 250 = (0, 3) ∧ hs (wG h6 250 8 (J x2)) 250 = (0, 3) ∧ hs (wG (wG h6 250 8 (J x2)) 250 9 (J 0)) 250 = (0, 3) ∧ hs (wG (wG h6 250 8 (J x2)) 250 9 (J 0)) 64 = (0, 9) ∧ Ex X PG d 117 0 [some (.ref 64), some (.int (hF (wG (wG h6 250 8 (J x2)) 250 9 (J 0)) 250 2)), none, none] [] (wG (wG h6 250 8 (J x2)) 250 9 (J 0)) (fun v7 h8 => ∃ r9, v7 = some (.int r9) ∧ hs h8 250 = (0, 3) ∧ Ex X PG d 128 0 [some (.ref 250), some (.int r9), some (.int (J 0)), none] [] h8 (fun v10 h11 => v10 = none ∧ Ex X PG (d + 1) 145 42 [some (.ref 250), some (.ref 64), some (.int (J x2)), some (.int (J 0))] [] h11 Q))))
  try simp only [aI_wAL, fI_wAL, aL_wA, aL_wF, aI_wA_ne, aI_wF_ne, fI_wA_ne, fI_wF_ne, fI_wF_nk, aL_wAL_ne, J_sameA, J_sameF, aL_same, Nat.add_left_cancel_iff, Nat.add_eq_left, Nat.left_eq_add, not_false_eq_true, Nat.reduceEqDiff, Nat.reduceAdd, J_add, J_sub, J_mul, J_neg, J_and, J_or, J_xor, J_shl, J_shr, J_div, J_i2b, J_i2l, J_l2i, J_lcm, J_max, J_min, J_nab, J_nao, rdA, rdF, rdL, wA_fold, wF_fold, wL_fold, wC_fold]
  refine ⟨(ls250 C_h), _, B_h.2.1, ?_⟩
  try simp only [aI_wAL, fI_wAL, aL_wA, aL_wF, aI_wA_ne, aI_wF_ne, fI_wA_ne, fI_wF_ne, fI_wF_nk, aL_wAL_ne, J_sameA, J_sameF, aL_same, Nat.add_left_cancel_iff, Nat.add_eq_left, Nat.left_eq_add, not_false_eq_true, Nat.reduceEqDiff, Nat.reduceAdd, J_add, J_sub, J_mul, J_neg, J_and, J_or, J_xor, J_shl, J_shr, J_div, J_i2b, J_i2l, J_l2i, J_lcm, J_max, J_min, J_nab, J_nao, rdA, rdF, rdL, wA_fold, wF_fold, wL_fold, wC_fold]
  refine m4 (h := h) (c := co) (v := 2147483647) C_h (n := ln) B_h.2.2.2.2.1 (Nat.le_trans B_h.2.2.2.2.2.2.2 (by decide)) (by omega) (by decide) ?_
  intro h3 s16 p17
  replace w := w h3 s16 p17
  refine ⟨rfl, ?_⟩
  have C_h3 := Lay_SH s16 C_h
  have K_h3_0 := PlanAt_SH s16 K_h_0
  have B_h3 := PriAt_SH s16 B_h
  try simp only [aI_wAL, fI_wAL, aL_wA, aL_wF, aI_wA_ne, aI_wF_ne, fI_wA_ne, fI_wF_ne, fI_wF_nk, aL_wAL_ne, J_sameA, J_sameF, aL_same, Nat.add_left_cancel_iff, Nat.add_eq_left, Nat.left_eq_add, not_false_eq_true, Nat.reduceEqDiff, Nat.reduceAdd, J_add, J_sub, J_mul, J_neg, J_and, J_or, J_xor, J_shl, J_shr, J_div, J_i2b, J_i2l, J_l2i, J_lcm, J_max, J_min, J_nab, J_nao, rdA, rdF, rdL, wA_fold, wF_fold, wL_fold, wC_fold]
  refine ⟨(ls250 C_h3), _, (lr250_7 C_h3), ?_⟩
  refine m4 (h := h3) (c := 254) (v := (-1)) C_h3 (n := 51) (ls254 C_h3) (by decide) (by omega) (by decide) ?_
  intro h6 s14 p15
  replace w := w h6 s14 p15
  refine ⟨rfl, ?_⟩
  have C_h6 := Lay_SH s14 C_h3
  have K_h6_0 := PlanAt_SH s14 K_h3_0
  have B_h6 := PriAt_SH s14 B_h3
  try simp only [aI_wAL, fI_wAL, aL_wA, aL_wF, aI_wA_ne, aI_wF_ne, fI_wA_ne, fI_wF_ne, fI_wF_nk, aL_wAL_ne, J_sameA, J_sameF, aL_same, Nat.add_left_cancel_iff, Nat.add_eq_left, Nat.left_eq_add, not_false_eq_true, Nat.reduceEqDiff, Nat.reduceAdd, J_add, J_sub, J_mul, J_neg, J_and, J_or, J_xor, J_shl, J_shr, J_div, J_i2b, J_i2l, J_l2i, J_lcm, J_max, J_min, J_nab, J_nao, rdA, rdF, rdL, wA_fold, wF_fold, wL_fold, wC_fold]
  refine ⟨(ls250 C_h6), ?_⟩
  refine ⟨(ls250 C_h6), ?_⟩
  refine ⟨(ls250 C_h6), ?_⟩
  refine ⟨(ls64 C_h6), ?_⟩
  refine Ex.mono w (Nat.le_refl _) ?_
  rintro v7 h8 ⟨r9, gr9, rfl, s13, w⟩
  refine ⟨_, rfl, ?_⟩
  have C_h8 := Lay_SH s13 C_h6
  have K_h8_0 := PlanAt_SH s13 K_h6_0
  have B_h8 := PriAt_SH s13 B_h6
  try simp only [aI_wAL, fI_wAL, aL_wA, aL_wF, aI_wA_ne, aI_wF_ne, fI_wA_ne, fI_wF_ne, fI_wF_nk, aL_wAL_ne, J_sameA, J_sameF, aL_same, Nat.add_left_cancel_iff, Nat.add_eq_left, Nat.left_eq_add, not_false_eq_true, Nat.reduceEqDiff, Nat.reduceAdd, J_add, J_sub, J_mul, J_neg, J_and, J_or, J_xor, J_shl, J_shr, J_div, J_i2b, J_i2l, J_l2i, J_lcm, J_max, J_min, J_nab, J_nao, rdA, rdF, rdL, wA_fold, wF_fold, wL_fold, wC_fold]
  refine ⟨(ls250 C_h8), ?_⟩
  refine Ex.mono w (Nat.le_refl _) ?_
  rintro v10 h11 ⟨rfl, s12, w⟩
  refine ⟨rfl, ?_⟩
  have C_h11 := Lay_SH s12 C_h8
  have K_h11_0 := PlanAt_SH s12 K_h8_0
  have B_h11 := PriAt_SH s12 B_h8
  try simp only [aI_wAL, fI_wAL, aL_wA, aL_wF, aI_wA_ne, aI_wF_ne, fI_wA_ne, fI_wF_ne, fI_wF_nk, aL_wAL_ne, J_sameA, J_sameF, aL_same, Nat.add_left_cancel_iff, Nat.add_eq_left, Nat.left_eq_add, not_false_eq_true, Nat.reduceEqDiff, Nat.reduceAdd, J_add, J_sub, J_mul, J_neg, J_and, J_or, J_xor, J_shl, J_shr, J_div, J_i2b, J_i2l, J_l2i, J_lcm, J_max, J_min, J_nab, J_nao, rdA, rdF, rdL, wA_fold, wF_fold, wL_fold, wC_fold]
  exact w
-- OutwardDoors$Pricer.least(LOutwardDoors$World;I)I at 42
set_option maxRecDepth 20000 in
set_option maxHeartbeats 4000000 in
theorem r145_42 {X : Cst} {d : Nat} {x2 : Int} {x3 : Int} {pl : Nat} {h : AH} {Q : Post} (C_h : Lay h) (K_h_0 : PlanAt h pl) {co ne be ln : Nat} (B_h : PriAt h pl co ne be ln) (ap : (co = 251 ∨ 281 ≤ co) ∧ (ne = 252 ∨ 281 ≤ ne) ∧ (be = 253 ∨ 281 ≤ be) ∧ (¬ co = ne ∧ ¬ co = be ∧ ¬ ne = be) ∧ (co < pl ∨ pl + 10 < co) ∧ (ne < pl ∨ pl + 10 < ne) ∧ (be < pl ∨ pl + 10 < be))
  (w : Ex X PG d 116 0 [some (.ref 250)] [] h (fun v1 h2 => ∃ r3 : Int, (-2147483648 ≤ r3 ∧ r3 < 2147483648) ∧ v1 = some (.int (J r3)) ∧ SH h h2 ∧ (-2147483648 ≤ x3 ∧ x3 < 2147483648) ∧ (-2147483648 ≤ r3 * 51 ∧ r3 * 51 < 2147483648) ∧ ((r3 * 51 ≤ x3 → Q (some (.int (J (-2)))) h2) ∧ (¬ r3 * 51 ≤ x3 → ((fI h2 250 9 ≤ 0 → Q (some (.int (J (-2)))) h2) ∧ (¬ fI h2 250 9 ≤ 0 → (0 ≤ x2 ∧ x2 < 4) ∧ Ex X PG d 146 0 [some (.ref 250), some (.int (J x3)), some (.int (J (aI h2 66 x2))), none, none, none] [] h2 (fun v12 h13 => ∃ r14 : Int, (-2147483648 ≤ r14 ∧ r14 < 2147483648) ∧ v12 = some (.int (J r14)) ∧ SH h2 h13 ∧ ((r14 = 0 → Ex X PG (d + 1) 145 42 [some (.ref 250), some (.ref 64), some (.int (J x2)), some (.int (J (x3 + 1)))] [] h13 Q) ∧ (¬ r14 = 0 → Q (some (.int (J x3))) h13))))))))) :
    Ex X PG (d + 1) 145 42 [some (.ref 250), some (.ref 64), some (.int (J x2)), some (.int (J x3))] [] h Q := by
  refine wpx_ok (cut := [42]) 19 d 145 42 _ _ _ _ ?_
  show hs h 250 = (0, 3) ∧ Ex X PG d 116 0 [some (.ref 250)] [] h (fun v1 h2 => ∃ r3, v1 = some (.int r3) ∧ (((r3 * (J 51)) ≤ (J x3) → Q (some (.int (J (-2)))) h2) ∧ (¬ ((r3 * (J 51)) ≤ (J x3)) → hs h2 250 = (0, 3) ∧ (((hF h2 250 9) ≤ (J 0) → Q (some (.int (J (-2)))) h2) ∧ (¬ ((hF h2 250 9) ≤ (J 0)) → hs h2 64 = (0, 9) ∧ ∃ q10, hR h2 64 1 = some q10 ∧ (hs h2 q10).1 = 1 ∧ ix (J x2) (hs h2 q10).2 ∧ hs h2 250 = (0, 3) ∧ Ex X PG d 146 0 [some (.ref 250), some (.int (J x3)), some (.int (hI h2 q10 (Int32.toNatClampNeg (J x2)))), none, none, none] [] h2 (fun v12 h13 => ∃ r14, v12 = some (.int r14) ∧ ((r14 = (J 0) → Ex X PG (d + 1) 145 42 [some (.ref 250), some (.ref 64), some (.int (J x2)), some (.int ((J x3) + (J 1)))] [] h13 Q) ∧ (¬ (r14 = (J 0)) → Q (some (.int (J x3))) h13))))))))
  try simp only [aI_wAL, fI_wAL, aL_wA, aL_wF, aI_wA_ne, aI_wF_ne, fI_wA_ne, fI_wF_ne, fI_wF_nk, aL_wAL_ne, J_sameA, J_sameF, aL_same, Nat.add_left_cancel_iff, Nat.add_eq_left, Nat.left_eq_add, not_false_eq_true, Nat.reduceEqDiff, Nat.reduceAdd, J_add, J_sub, J_mul, J_neg, J_and, J_or, J_xor, J_shl, J_shr, J_div, J_i2b, J_i2l, J_l2i, J_lcm, J_max, J_min, J_nab, J_nao, rdA, rdF, rdL, wA_fold, wF_fold, wL_fold, wC_fold]
  refine ⟨(ls250 C_h), ?_⟩
  refine Ex.mono w (Nat.le_refl _) ?_
  rintro v1 h2 ⟨r3, gr3, rfl, s18, w⟩
  refine ⟨_, rfl, ?_⟩
  have C_h2 := Lay_SH s18 C_h
  have K_h2_0 := PlanAt_SH s18 K_h_0
  have B_h2 := PriAt_SH s18 B_h
  try simp only [aI_wAL, fI_wAL, aL_wA, aL_wF, aI_wA_ne, aI_wF_ne, fI_wA_ne, fI_wF_ne, fI_wF_nk, aL_wAL_ne, J_sameA, J_sameF, aL_same, Nat.add_left_cancel_iff, Nat.add_eq_left, Nat.left_eq_add, not_false_eq_true, Nat.reduceEqDiff, Nat.reduceAdd, J_add, J_sub, J_mul, J_neg, J_and, J_or, J_xor, J_shl, J_shr, J_div, J_i2b, J_i2l, J_l2i, J_lcm, J_max, J_min, J_nab, J_nao, rdA, rdF, rdL, wA_fold, wF_fold, wL_fold, wC_fold]
  obtain ⟨k6, w⟩ := w
  obtain ⟨k7, w⟩ := w
  refine ⟨fun c4 => ?_, fun c4 => ?_⟩
  · have t5 : r3 * 51 ≤ x3 := ((Jle k7 k6).mp c4)
    replace w := w.1 t5
    exact w
  · have t5 : ¬ r3 * 51 ≤ x3 := (fun e => c4 ((Jle k7 k6).mpr e))
    replace w := w.2 t5
    refine ⟨(ls250 C_h2), ?_⟩
    refine ⟨fun c8 => ?_, fun c8 => ?_⟩
    · have t9 : fI h2 250 9 ≤ 0 := ((Jle (rg_toInt _) (by decide)).mp c8)
      replace w := w.1 t9
      exact w
    · have t9 : ¬ fI h2 250 9 ≤ 0 := (fun e => c8 ((Jle (rg_toInt _) (by decide)).mpr e))
      replace w := w.2 t9
      refine ⟨(ls64 C_h2), _, (lr64_1 C_h2), ?_⟩
      obtain ⟨k11, w⟩ := w
      refine ⟨congrArg Prod.fst (ls66 C_h2), ixs (ls66 C_h2) k11 (by decide), ?_⟩
      refine ⟨(ls250 C_h2), ?_⟩
      refine Ex.mono w (Nat.le_refl _) ?_
      rintro v12 h13 ⟨r14, gr14, rfl, s17, w⟩
      refine ⟨_, rfl, ?_⟩
      have C_h13 := Lay_SH s17 C_h2
      have K_h13_0 := PlanAt_SH s17 K_h2_0
      have B_h13 := PriAt_SH s17 B_h2
      try simp only [aI_wAL, fI_wAL, aL_wA, aL_wF, aI_wA_ne, aI_wF_ne, fI_wA_ne, fI_wF_ne, fI_wF_nk, aL_wAL_ne, J_sameA, J_sameF, aL_same, Nat.add_left_cancel_iff, Nat.add_eq_left, Nat.left_eq_add, not_false_eq_true, Nat.reduceEqDiff, Nat.reduceAdd, J_add, J_sub, J_mul, J_neg, J_and, J_or, J_xor, J_shl, J_shr, J_div, J_i2b, J_i2l, J_l2i, J_lcm, J_max, J_min, J_nab, J_nao, rdA, rdF, rdL, wA_fold, wF_fold, wL_fold, wC_fold]
      refine ⟨fun c15 => ?_, fun c15 => ?_⟩
      · have t16 : r14 = 0 := ((Jeq gr14 (by decide)).mp c15)
        replace w := w.1 t16
        exact w
      · have t16 : ¬ r14 = 0 := (fun e => c15 ((Jeq gr14 (by decide)).mpr e))
        replace w := w.2 t16
        exact w
theorem m145 {X : Cst} {d pl co ne be ln m : Nat} {S : Int → Int} {N p : Int} {h : AH} {Q : Post}
    (C : Lay h) (K : PlanAt h pl) (B : PriAt h pl co ne be ln) (ap : apP pl co ne be) (hd : 8 ≤ d) (hm : m ≤ 4) (h2 : (m : Int) = S 2) (W' : WF N S) (hl : (8 : Int) ^ m ≤ ln) (Bs : Basp h pl S (nightP S) m (-1)) (R : CS h pl S) (hp : 0 ≤ p ∧ p < S 2)
    (k : ∀ h' v, Fr (TLe co ne be) h h' → IsP S (nightP S) (S 2).toNat p (fun f => f p = pS S p 1) (nowF S) v → -1 ≤ v ∧ v < 2000000 → Q (some (.int (J (if v < 0 then -2 else v)))) h') : Ex X PG d 145 0 [some (.ref 250), some (.ref 64), some (.int (J p)), none] [] h Q := by
  obtain ⟨d, rfl⟩ : ∃ e, d = e + 1 := ⟨d - 1, by omega⟩
  have b0 := W'.1
  unfold WFb at b0
  have em : (S 2).toNat = m := by omega
  rw [em] at k
  have pw := pw_4k (b := 8) (by decide) (by decide) hm
  have app := ap
  obtain ⟨p1, p2, p3, ⟨p4, p5, p6⟩, p7, p8, p9⟩ := app
  have ln8 := B.2.2.2.2.2.2.2
  have kn := nowF_K W'
  rw [em] at kn
  have kn8 := kn.up b0.2.1
  have en := enc_b (b := 8) (by decide) m _ kn8.1
  have pr := W'.2.1 p hp.1 hp.2
  refine r145_0 C K B ap (by omega) (fun h3 s3 q3 h6 s6 q6 => ?_)
  have F6 : Fr (TLe co ne be) h h6 := (q3.1.mo fun c k z => by unfold TLe TAw; omega).tr (q6.1.mo fun c k z => by unfold TLe TAw TLv; omega)
  have f62 : fI h6 250 2 = S 2 := by rw [F6.f 250 2 (fun z => by unfold TLe TAw TLv at z; omega)]; rw [Bs.2.2.1, h2]
  rw [f62]
  generalize eh7 : wF (wF h6 250 8 p) 250 9 0 = h7
  have F7 : Fr (TLe co ne be) h h7 := by
    rw [← eh7]
    exact (F6.wF (by unfold TLe; omega)).wF (by unfold TLe TAw TLv; omega)
  have f78 : fI h7 250 8 = p := by rw [← eh7, fI_wF_nk (by decide), fI_wF_eq (by omega)]
  have f79 : fI h7 250 9 = 0 := by rw [← eh7, fI_wF_eq (by decide)]
  have c7 : ∀ x, 0 ≤ x → x < (8 : Int) ^ m → aI h7 co x = 2147483647 := by
    intro x x0 x1
    rw [← eh7, aI_wF_ne (by omega), aI_wF_ne (by omega), q6.1.a co (fun k z => by omega)]
    exact q3.2 x x0 (by omega)
  have r7 : ∀ r, 0 ≤ r → r < 51 → aI h7 254 r = -1 := by
    intro r r0 r1
    rw [← eh7, aI_wF_ne (by decide), aI_wF_ne (by decide)]
    exact q6.2 r r0 r1
  clear eh7
  have C7 := F7.C C
  have R7 : CS h7 pl S := R.fr2 F7 (fun c k z => by unfold TLe TAw TLv at z; have := R.1; omega)
  have ks : ∀ h', Fr (TAw co ne be) h7 h' → Basp h' pl S (nightP S) m (-1) ∧ fI h' 250 8 = p ∧ CS h' pl S := by
    intro h' F
    have F' : Fr (TLe co ne be) h h' := F7.tr (F.mo fun c k z => Or.inl z)
    refine ⟨⟨Bs.1.fr F' (fun c k z => by unfold TLe TAw TLv at z; have := R.1; omega), ?_, ?_, ?_⟩, ?_, R7.fr2 F (fun c k z => by unfold TAw TLv at z; have := R.1; omega)⟩
    · rw [F'.f 250 1 (fun z => by unfold TLe TAw TLv at z; omega)]; exact Bs.2.1
    · rw [F'.f 250 2 (fun z => by unfold TLe TAw TLv at z; omega)]; exact Bs.2.2.1
    · rw [F'.f 250 3 (fun z => by unfold TLe TAw TLv at z; omega)]; exact Bs.2.2.2
    · rw [F.f 250 8 (fun z => by unfold TAw TLv at z; omega)]; exact f78
  have en2 : enc 8 (S 2).toNat (nowF S) = enc 8 m (nowF S) := by rw [em]
  refine m117 (S := S) C7 (WorldAt_64 C7) (by omega) R7.2.2.1 W' rfl ⟨_, by rw [en2]; omega, rfl, SH.rf, ?_⟩
  rw [en2]
  have D0 : DLh h7 co ne be (8 ^ m) (fun _ => False) (fun _ => 0) 0 := by
    refine ⟨⟨fun _ z => z.elim, fun _ z => z.elim, fun _ z => z.elim, fun _ z => z.elim, fun r r0 r1 z => absurd (r7 r r0 r1) z, fun _ z => z.elim⟩, ?_⟩
    rw [f79]
    exact (cnt_no (by omega) (fun _ _ _ z => z)).symm
  have cx := c7 _ en.1 en.2
  refine m128 (N := 8 ^ m) C7 (PlanAt_SH F7.1 K) (PriAt_SH F7.1 B) ap (by omega) (by omega) D0 en (by decide) (fun _ => ⟨fun _ z => z, fun _ => cx⟩) (fun z => absurd (by omega) z) (fun _ h11 ts clk F11 e11 D11 => ⟨rfl, F11.1, ?_⟩)
  -- the loop
  have noW : ∀ (cur : Int) (W Z : Int → Prop) (ts : Int → Int) (clk : Int) (h' : AH), 0 ≤ cur → Fr (TAw co ne be) h7 h' → DJ S m p (nowF S) (fun f => f p = pS S p 1) h' co ne be cur W Z ts clk → RX S m p h' co Z → (∀ x, ¬ W x) → Q (some (.int (J (-2)))) h' := by
    intro cur W Z ts clk h' c0 F D RR nw
    have q := k h' (-1) (F7.tr (F.mo fun c k z => Or.inl z)) (Or.inl ⟨rfl, fun c ⟨n, pk⟩ => ?_⟩) (by decide)
    · rw [if_pos (by decide)] at q; exact q
    · obtain ⟨g, k', l, gg⟩ := PK_FC (f0 := nowF S) n 0 c 0 (nowF S) pk ⟨rfl, rfl⟩
      rcases DJ_low (G := fun f => f p = pS S p 1) W' (by omega) (by omega) kn (fun x w => (D.2.2.2.1 x w).1) D.2.2.1 D.2.2.2.2.2.2.2.1 RR c0 k' _ g l with ⟨y, _⟩ | ⟨_, x, y⟩
      · exact D.2.2.2.2.2.2.2.2 g (FC_K W' kn k' _ g l) y gg
      · exact nw x y
  have lp : ∀ (z : Nat) (cur : Int) (W Z : Int → Prop) (ts : Int → Int) (clk : Int) (h' : AH), 51 * 8 ^ m - cur = z → 0 ≤ cur → Fr (TAw co ne be) h7 h' → DJ S m p (nowF S) (fun f => f p = pS S p 1) h' co ne be cur W Z ts clk → RX S m p h' co Z → Ex X PG (d + 1) 145 42 [some (.ref 250), some (.ref 64), some (.int (J p)), some (.int (J cur))] [] h' Q := by
    -- who waits does not wait for long
    have bd : ∀ (cur : Int) (W Z : Int → Prop) (ts : Int → Int) (clk : Int) (h' : AH), DJ S m p (nowF S) (fun f => f p = pS S p 1) h' co ne be cur W Z ts clk → ∀ x, W x → cur ≤ 50 * 8 ^ m - 50 := by
      intro cur W Z ts clk h' D x wx
      have a := D.2.2.2.1 x wx
      obtain ⟨f, kf, ef, _, s0, s50⟩ := D.2.2.2.2.2.1 x (Or.inl wx)
      have rx := (D.1.1.1 x wx).1
      have nz : ¬ Z x := fun y => (D.2.1 x y).2 wx
      have ca : cnt (fun y => Z y ∨ y = x) (8 ^ m) = cnt Z (8 ^ m) + 1 := cnt_add (p := x) rx (fun q _ _ n => ⟨fun z => Or.inl z, fun z => z.elim (fun y => y) (fun y => absurd y n)⟩) nz (Or.inr rfl)
      have cb := cnt_b (fun y => Z y ∨ y = x) (i := (8 : Int) ^ m) (by omega)
      omega
    intro z
    induction z with
    | zero =>
      intro cur W Z ts clk h' e c0 F D RR
      have kb := ks h' F
      refine r145_42 (Lay_SH F.1 C7) (PlanAt_SH (F7.1.tr F.1) K) (PriAt_SH (F7.1.tr F.1) B) ap ?_
      refine m116p (Lay_SH F.1 C7) (by omega) (by omega) kb.1.2.2.1 ⟨_, by omega, rfl, SH.rf, by omega, by omega, fun _ => ?_, fun y => absurd (by omega) y⟩
      exact noW cur W Z ts clk h' c0 F D RR (fun x wx => by have := bd cur W Z ts clk h' D x wx; omega)
    | succ z ih =>
      intro cur W Z ts clk h' e c0 F D RR
      have kb := ks h' F
      have C' := Lay_SH F.1 C7
      refine r145_42 C' (PlanAt_SH (F7.1.tr F.1) K) (PriAt_SH (F7.1.tr F.1) B) ap ?_
      refine m116p C' (by omega) (by omega) kb.1.2.2.1 ⟨_, by omega, rfl, SH.rf, by omega, by omega, fun y => absurd y (by omega), fun _ => ⟨fun c1 => ?_, fun c1 => ⟨by omega, ?_⟩⟩⟩
      · refine noW cur W Z ts clk h' c0 F D RR (fun x wx => ?_)
        have := cnt_some (D.1.1.1 x wx).1 wx
        rw [D.1.2] at c1
        omega
      · have ex : ∃ x, W x := by
          apply Classical.byContradiction
          intro y
          rw [D.1.2, cnt_no (by omega) (fun x _ _ w => y ⟨x, w⟩)] at c1
          omega
        obtain ⟨x, wx⟩ := ex
        have cb := bd cur W Z ts clk h' D x wx
        rw [show aI h' 66 p = pS S p 1 from (kb.2.2.2.2.1.1 p hp.1 hp.2).2.1]
        refine m146 C' (PlanAt_SH (F7.1.tr F.1) K) (PriAt_SH (F7.1.tr F.1) B) ap R.1 (by omega) (by omega) h2 W' hl (by omega) kb.1 kb.2.1 (by omega) (by omega) kn D RR (fun h2' W2 Z2 ts2 clk2 F2 D2 R2 nc => ?_) (fun h2' F2 ex low => ?_)
        · refine ⟨0, by decide, rfl, F2.1, fun _ => ?_, fun y => absurd rfl y⟩
          obtain ⟨E1, E2, E3, E4, E5, E6, E7, E8, E9⟩ := D2
          exact ih (cur + 1) W2 Z2 ts2 clk2 h2' (by omega) (by omega) (F.tr F2) ⟨E1, E2, E3, fun x w => by have := E4 x w; have := nc x w; omega, fun x w => by have := E5 x w; omega, E6, E7, E8, E9⟩ R2
        · refine ⟨1, by decide, rfl, F2.1, fun y => absurd y (by decide), fun _ => ?_⟩
          obtain ⟨g, kk, l, gg⟩ := ex
          have q := k h2' cur (F7.tr ((F.tr F2).mo fun c k z => Or.inl z)) (Or.inr ⟨c0, ?_, fun c ⟨n, pk⟩ => ?_⟩) (by omega)
          · rw [if_neg (by omega)] at q; exact q
          · obtain ⟨n', pk⟩ := FC_PK (G := fun f => f p = pS S p 1) kk 0 0 cur g l ⟨rfl, gg⟩
            rw [Int.add_zero] at pk
            exact ⟨n', pk⟩
          · obtain ⟨g', k', l', gg'⟩ := PK_FC (f0 := nowF S) n 0 c 0 (nowF S) pk ⟨rfl, rfl⟩
            rw [Int.zero_add] at l'
            exact low k' c g' l' gg'
  refine lp (51 * (8 : Int) ^ m).toNat 0 (fun y => False ∨ y = enc 8 m (nowF S)) (fun _ => False) ts clk h11 (by omega) (by omega) F11 ⟨D11, fun _ z => z.elim, fun x x0 x1 => ?_, fun x wx => ?_, fun _ z => z.elim, fun x hx => ?_, Or.inl (Or.inr rfl), by rw [e11, uu_eq], fun _ _ z => z.elim⟩ (fun _ _ z => z.elim)
  · rw [e11]
    by_cases y : x = enc 8 m (nowF S)
    · rw [y, uu_eq]; exact ⟨fun _ => Or.inl (Or.inr rfl), fun _ => by decide⟩
    · rw [uu_ne (by omega) (by omega) y, c7 x x0 x1]
      exact ⟨fun z => absurd rfl z, fun z => by rcases z with (z | z) | z; exact z.elim; exact absurd z y; exact z.elim⟩
  · rcases wx with wx | wx
    · exact wx.elim
    · rw [wx, e11, uu_eq]; decide
  · have xe : x = enc 8 m (nowF S) := by
      rcases hx with (z | z) | z
      · exact z.elim
      · exact z
      · exact z.elim
    have cb := cnt_b (fun _ => False) (i := (8 : Int) ^ m) (by omega)
    refine ⟨nowF S, kn, xe, ?_, ?_⟩
    · rw [xe, e11, uu_eq]; exact ⟨0, rfl, rfl⟩
    · rw [xe, e11, uu_eq]; omega
