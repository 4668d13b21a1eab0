/-! THE REFERENCE: acts, force, seed, count, notes. -/
def TK (c k : Nat) : Prop := TP c k ∨ c = 270 ∨ (c = 256 ∧ k = 27)
-- OutwardDoorsModel.moment()I at 0
set_option maxRecDepth 20000 in
set_option maxHeartbeats 4000000 in
theorem r230_0 {X : Cst} {d : Nat}  {h : AH} {Q : Post} (C_h : Lay h) (hd : 1 ≤ d)
  (w : ((¬ (0 < aI h 266 0) → Q (some (.int (J (-1)))) h) ∧ ((0 < aI h 266 0) → ((¬ aI h 266 3 = 999 → (0 ≤ fI h 256 27 ∧ fI h 256 27 ≤ 20) ∧ (∀ h10, SH h h10 → (Fr (fun c j => c = 270 ∨ (c = 256 ∧ j = 27)) h h10 ∧ Push (fI h 256 27) (aI h 270) (aI h10 270) (aI h 266) (fI h10 256 27)) → Ex X PG d 233 0 [some (.ref 256), none, none, none] [] h10 (fun v12 h13 => ∃ r14 : Int, (-2147483648 ≤ r14 ∧ r14 < 2147483648) ∧ v12 = some (.int (J r14)) ∧ SH h10 h13 ∧ Q (some (.int (J r14))) h13))) ∧ (aI h 266 3 = 999 → Q (some (.int (J (-1)))) h))))) :
    Ex X PG (d + 1) 230 0 [some (.ref 256)] [] h Q := by
  refine wpx_ok (cut := []) 14 d 230 0 _ _ _ _ ?_
  show hs h 256 = (0, 11) ∧ Ex X PG d 231 0 [some (.ref 256)] [] h (fun v1 h2 => ∃ r3, v1 = some (.int r3) ∧ ((r3 = (J 0) → Q (some (.int (J (-1)))) h2) ∧ (¬ (r3 = (J 0)) → hs h2 256 = (0, 11) ∧ ∃ q6, hR h2 256 20 = some q6 ∧ (hs h2 q6).1 = 1 ∧ ix (J 3) (hs h2 q6).2 ∧ ((¬ (hI h2 q6 (Int32.toNatClampNeg (J 3))) = (J 999) → hs h2 256 = (0, 11) ∧ Ex X PG d 232 0 [some (.ref 256), none] [] h2 (fun v9 h10 => v9 = none ∧ hs h10 256 = (0, 11) ∧ Ex X PG d 233 0 [some (.ref 256), none, none, none] [] h10 (fun v12 h13 => ∃ r14, v12 = some (.int r14) ∧ Q (some (.int r14)) h13))) ∧ (¬ (¬ (hI h2 q6 (Int32.toNatClampNeg (J 3))) = (J 999)) → Q (some (.int (J (-1)))) h2)))))
  try simp only [aI_wAL, fI_wAL, aL_wA, aL_wF, aI_wA_ne, aI_wF_ne, fI_wA_ne, fI_wF_ne, fI_wF_nk, aL_wAL_ne, J_sameA, J_sameF, aL_same, Nat.add_left_cancel_iff, Nat.add_eq_left, Nat.left_eq_add, not_false_eq_true, Nat.reduceEqDiff, Nat.reduceAdd, J_add, J_sub, J_mul, J_neg, J_and, J_or, J_xor, J_shl, J_shr, J_div, J_i2b, J_i2l, J_l2i, J_lcm, J_max, J_min, J_nab, J_nao, rdA, rdF, rdL, wA_fold, wF_fold, wL_fold, wC_fold]
  refine ⟨(ls256 C_h), ?_⟩
  refine m231 (h := h)  C_h (by omega)  ?_
  refine ⟨_, rfl, ?_⟩
  try simp only [aI_wAL, fI_wAL, aL_wA, aL_wF, aI_wA_ne, aI_wF_ne, fI_wA_ne, fI_wF_ne, fI_wF_nk, aL_wAL_ne, J_sameA, J_sameF, aL_same, Nat.add_left_cancel_iff, Nat.add_eq_left, Nat.left_eq_add, not_false_eq_true, Nat.reduceEqDiff, Nat.reduceAdd, J_add, J_sub, J_mul, J_neg, J_and, J_or, J_xor, J_shl, J_shr, J_div, J_i2b, J_i2l, J_l2i, J_lcm, J_max, J_min, J_nab, J_nao, rdA, rdF, rdL, wA_fold, wF_fold, wL_fold, wC_fold]
  refine ⟨fun c4 => ?_, fun c4 => ?_⟩
  · have t5 : ¬ (0 < aI h 266 0) := ((bI0 _).mp c4)
    replace w := w.1 t5
    exact w
  · have t5 : (0 < aI h 266 0) := (Classical.byContradiction fun n => c4 ((bI0 _).mpr n))
    replace w := w.2 t5
    refine ⟨(ls256 C_h), _, (lr256_20 C_h), ?_⟩
    refine ⟨congrArg Prod.fst (ls266 C_h), ixs (ls266 C_h) (by decide) (by decide), ?_⟩
    refine ⟨fun c7 => ?_, fun c7 => ?_⟩
    · have t8 : ¬ aI h 266 3 = 999 := (fun e => c7 ((Jeq (rg_toInt _) (by decide)).mpr e))
      replace w := w.1 t8
      refine ⟨(ls256 C_h), ?_⟩
      obtain ⟨k11, w⟩ := w
      refine m232 (h := h)  C_h (by omega) k11 ?_
      intro h10 s16 p17
      replace w := w h10 s16 p17
      refine ⟨rfl, ?_⟩
      have C_h10 := Lay_SH s16 C_h
      try simp only [aI_wAL, fI_wAL, aL_wA, aL_wF, aI_wA_ne, aI_wF_ne, fI_wA_ne, fI_wF_ne, fI_wF_nk, aL_wAL_ne, J_sameA, J_sameF, aL_same, Nat.add_left_cancel_iff, Nat.add_eq_left, Nat.left_eq_add, not_false_eq_true, Nat.reduceEqDiff, Nat.reduceAdd, J_add, J_sub, J_mul, J_neg, J_and, J_or, J_xor, J_shl, J_shr, J_div, J_i2b, J_i2l, J_l2i, J_lcm, J_max, J_min, J_nab, J_nao, rdA, rdF, rdL, wA_fold, wF_fold, wL_fold, wC_fold]
      refine ⟨(ls256 C_h10), ?_⟩
      refine Ex.mono w (Nat.le_refl _) ?_
      rintro v12 h13 ⟨r14, gr14, rfl, s15, w⟩
      refine ⟨_, rfl, ?_⟩
      have C_h13 := Lay_SH s15 C_h10
      try simp only [aI_wAL, fI_wAL, aL_wA, aL_wF, aI_wA_ne, aI_wF_ne, fI_wA_ne, fI_wF_ne, fI_wF_nk, aL_wAL_ne, J_sameA, J_sameF, aL_same, Nat.add_left_cancel_iff, Nat.add_eq_left, Nat.left_eq_add, not_false_eq_true, Nat.reduceEqDiff, Nat.reduceAdd, J_add, J_sub, J_mul, J_neg, J_and, J_or, J_xor, J_shl, J_shr, J_div, J_i2b, J_i2l, J_l2i, J_lcm, J_max, J_min, J_nab, J_nao, rdA, rdF, rdL, wA_fold, wF_fold, wL_fold, wC_fold]
      exact w
    · have t8 : aI h 266 3 = 999 := ((Jeq (rg_toInt _) (by decide)).mp (Classical.byContradiction c7))
      replace w := w.2 t8
      exact w
theorem m230 {X : Cst} {d : Nat} {f : Int} {Rs : Int → Ru} {h : AH} {Q : Post} (C : Lay h) (hd : 11 ≤ d) (W : WF 999 (aI h 266)) (ef : fI h 256 21 = f) (RO : RefOK h f Rs) (hu : 0 ≤ fI h 256 27 ∧ fI h 256 27 ≤ 20)
    (k0 : ¬ (0 < aI h 266 0 ∧ ¬ aI h 266 3 = 999) → Q (some (.int (J (-1)))) h)
    (k : (0 < aI h 266 0 ∧ ¬ aI h 266 3 = 999) → ∀ h', Fr TK h h' → Push (fI h 256 27) (aI h 270) (aI h' 270) (aI h 266) (fI h' 256 27) → aI h' 266 = mo1 f Rs (aI h 266) → Q (some (.int (J (momN (aI h 266) (wdo (aI h 266) f Rs))))) h') : Ex X PG d 230 0 [some (.ref 256)] [] h Q := by
  obtain ⟨d, rfl⟩ : ∃ e, d = e + 1 := ⟨d - 1, by omega⟩
  refine r230_0 C (by omega) ⟨fun c => k0 (fun z => c z.1), fun c => ⟨fun c2 => ⟨hu, fun h10 s10 p10 => ?_⟩, fun c2 => k0 (fun z => z.2 c2)⟩⟩
  have e6 := p10.1.a 266 (fun k z => by omega)
  refine m233f (f := f) (Rs := Rs) (p10.1.C C) (by omega) (by rw [e6]; exact W) (by rw [p10.1.f 256 21 (by decide)]; exact ef) (RO.fr p10.1 (fun c k z => by omega)) (fun h13 F13 e13 => ?_)
  rw [e6] at e13 ⊢
  refine ⟨_, momN_rg W, rfl, F13.1, ?_⟩
  refine k ⟨c, c2⟩ h13 ((p10.1.mo fun c k z => Or.inr z).tr (F13.mo fun c k z => Or.inl z)) ?_ e13
  rw [F13.a 270 (fun k z => by unfold TP at z; omega), F13.f 256 27 (fun z => by unfold TP at z; omega)]
  exact p10.2
def TA (c k : Nat) : Prop := c = 266 ∨ c = 270 ∨ (c = 256 ∧ k = 27)
-- OutwardDoorsModel.aim(II)I at 0
set_option maxRecDepth 20000 in
set_option maxHeartbeats 4000000 in
theorem r248_0 {X : Cst} {d : Nat} {x1 : Int} {x2 : Int} {h : AH} {Q : Post} (C_h : Lay h) (hd : 1 ≤ d)
  (w : (-2147483648 ≤ x1 ∧ x1 < 2147483648) ∧ ((¬ (0 ≤ x1 ∧ x1 < aI h 266 2) → Q (some (.int (J (-1)))) h) ∧ ((0 ≤ x1 ∧ x1 < aI h 266 2) → (-2147483648 ≤ x2 ∧ x2 < 2147483648) ∧ ((¬ (0 ≤ x2 ∧ x2 < aI h 266 0) → Q (some (.int (J (-1)))) h) ∧ ((0 ≤ x2 ∧ x2 < aI h 266 0) → (0 ≤ 10 + 6 * x1 + 1 ∧ 10 + 6 * x1 + 1 < 123) ∧ ((¬ pS (aI h 266) x1 1 = x2 → (0 ≤ fI h 256 27 ∧ fI h 256 27 ≤ 20) ∧ (∀ h20, SH h h20 → (Fr (fun c j => c = 270 ∨ (c = 256 ∧ j = 27)) h h20 ∧ Push (fI h 256 27) (aI h 270) (aI h20 270) (aI h 266) (fI h20 256 27)) → (0 ≤ (10 + (6 * x1)) + 1 ∧ (10 + (6 * x1)) + 1 < 123) ∧ Q (some (.int (J (pS (aI h20 266) x1 1)))) (wA h20 266 ((10 + (6 * x1)) + 1) x2))) ∧ (pS (aI h 266) x1 1 = x2 → Q (some (.int (J (-1)))) h))))))) :
    Ex X PG (d + 1) 248 0 [some (.ref 256), some (.int (J x1)), some (.int (J x2)), none] [] h Q := by
  refine wpx_ok (cut := []) 34 d 248 0 _ _ _ _ ?_
  show hs h 256 = (0, 11) ∧ Ex X PG d 213 0 [some (.ref 256), some (.int (J x1))] [] h (fun v1 h2 => ∃ r3, v1 = some (.int r3) ∧ ((r3 = (J 0) → Q (some (.int (J (-1)))) h2) ∧ (¬ (r3 = (J 0)) → hs h2 256 = (0, 11) ∧ Ex X PG d 223 0 [some (.ref 256), some (.int (J x2))] [] h2 (fun v7 h8 => ∃ r9, v7 = some (.int r9) ∧ ((r9 = (J 0) → Q (some (.int (J (-1)))) h8) ∧ (¬ (r9 = (J 0)) → hs h8 256 = (0, 11) ∧ Ex X PG d 209 0 [some (.ref 256), some (.int (J x1)), some (.int (J 1))] [] h8 (fun v13 h14 => ∃ r15, v13 = some (.int r15) ∧ ((¬ r15 = (J x2) → hs h14 256 = (0, 11) ∧ Ex X PG d 232 0 [some (.ref 256), none] [] h14 (fun v19 h20 => v19 = none ∧ hs h20 256 = (0, 11) ∧ Ex X PG d 209 0 [some (.ref 256), some (.int (J x1)), some (.int (J 1))] [] h20 (fun v22 h23 => ∃ r24, v22 = some (.int r24) ∧ hs h23 256 = (0, 11) ∧ ∃ q25, hR h23 256 20 = some q25 ∧ (hs h23 q25).1 = 1 ∧ ix (((J 10) + ((J 6) * (J x1))) + (J 1)) (hs h23 q25).2 ∧ Q (some (.int r24)) (wI h23 q25 (Int32.toNatClampNeg (((J 10) + ((J 6) * (J x1))) + (J 1))) (J x2))))) ∧ (¬ (¬ r15 = (J x2)) → Q (some (.int (J (-1)))) h14)))))))))
  try simp only [aI_wAL, fI_wAL, aL_wA, aL_wF, aI_wA_ne, aI_wF_ne, fI_wA_ne, fI_wF_ne, fI_wF_nk, aL_wAL_ne, J_sameA, J_sameF, aL_same, Nat.add_left_cancel_iff, Nat.add_eq_left, Nat.left_eq_add, not_false_eq_true, Nat.reduceEqDiff, Nat.reduceAdd, J_add, J_sub, J_mul, J_neg, J_and, J_or, J_xor, J_shl, J_shr, J_div, J_i2b, J_i2l, J_l2i, J_lcm, J_max, J_min, J_nab, J_nao, rdA, rdF, rdL, wA_fold, wF_fold, wL_fold, wC_fold]
  refine ⟨(ls256 C_h), ?_⟩
  obtain ⟨k4, w⟩ := w
  refine m213 (h := h) (x := x1) C_h (by omega) k4 ?_
  refine ⟨_, rfl, ?_⟩
  try simp only [aI_wAL, fI_wAL, aL_wA, aL_wF, aI_wA_ne, aI_wF_ne, fI_wA_ne, fI_wF_ne, fI_wF_nk, aL_wAL_ne, J_sameA, J_sameF, aL_same, Nat.add_left_cancel_iff, Nat.add_eq_left, Nat.left_eq_add, not_false_eq_true, Nat.reduceEqDiff, Nat.reduceAdd, J_add, J_sub, J_mul, J_neg, J_and, J_or, J_xor, J_shl, J_shr, J_div, J_i2b, J_i2l, J_l2i, J_lcm, J_max, J_min, J_nab, J_nao, rdA, rdF, rdL, wA_fold, wF_fold, wL_fold, wC_fold]
  refine ⟨fun c5 => ?_, fun c5 => ?_⟩
  · have t6 : ¬ (0 ≤ x1 ∧ x1 < aI h 266 2) := ((bI0 _).mp c5)
    replace w := w.1 t6
    exact w
  · have t6 : (0 ≤ x1 ∧ x1 < aI h 266 2) := (Classical.byContradiction fun n => c5 ((bI0 _).mpr n))
    replace w := w.2 t6
    refine ⟨(ls256 C_h), ?_⟩
    obtain ⟨k10, w⟩ := w
    refine m223 (h := h) (x := x2) C_h (by omega) k10 ?_
    refine ⟨_, rfl, ?_⟩
    try simp only [aI_wAL, fI_wAL, aL_wA, aL_wF, aI_wA_ne, aI_wF_ne, fI_wA_ne, fI_wF_ne, fI_wF_nk, aL_wAL_ne, J_sameA, J_sameF, aL_same, Nat.add_left_cancel_iff, Nat.add_eq_left, Nat.left_eq_add, not_false_eq_true, Nat.reduceEqDiff, Nat.reduceAdd, J_add, J_sub, J_mul, J_neg, J_and, J_or, J_xor, J_shl, J_shr, J_div, J_i2b, J_i2l, J_l2i, J_lcm, J_max, J_min, J_nab, J_nao, rdA, rdF, rdL, wA_fold, wF_fold, wL_fold, wC_fold]
    refine ⟨fun c11 => ?_, fun c11 => ?_⟩
    · have t12 : ¬ (0 ≤ x2 ∧ x2 < aI h 266 0) := ((bI0 _).mp c11)
      replace w := w.1 t12
      exact w
    · have t12 : (0 ≤ x2 ∧ x2 < aI h 266 0) := (Classical.byContradiction fun n => c11 ((bI0 _).mpr n))
      replace w := w.2 t12
      refine ⟨(ls256 C_h), ?_⟩
      obtain ⟨k16, w⟩ := w
      refine m209 (h := h) (p := x1) (w := 1) C_h (by omega) k16 ?_
      refine ⟨_, rfl, ?_⟩
      try simp only [aI_wAL, fI_wAL, aL_wA, aL_wF, aI_wA_ne, aI_wF_ne, fI_wA_ne, fI_wF_ne, fI_wF_nk, aL_wAL_ne, J_sameA, J_sameF, aL_same, Nat.add_left_cancel_iff, Nat.add_eq_left, Nat.left_eq_add, not_false_eq_true, Nat.reduceEqDiff, Nat.reduceAdd, J_add, J_sub, J_mul, J_neg, J_and, J_or, J_xor, J_shl, J_shr, J_div, J_i2b, J_i2l, J_l2i, J_lcm, J_max, J_min, J_nab, J_nao, rdA, rdF, rdL, wA_fold, wF_fold, wL_fold, wC_fold]
      refine ⟨fun c17 => ?_, fun c17 => ?_⟩
      · have t18 : ¬ pS (aI h 266) x1 1 = x2 := (fun e => c17 ((Jeq (aI_rg _ _ _) k10).mpr e))
        replace w := w.1 t18
        refine ⟨(ls256 C_h), ?_⟩
        obtain ⟨k21, w⟩ := w
        refine m232 (h := h)  C_h (by omega) k21 ?_
        intro h20 s27 p28
        replace w := w h20 s27 p28
        refine ⟨rfl, ?_⟩
        have C_h20 := Lay_SH s27 C_h
        try simp only [aI_wAL, fI_wAL, aL_wA, aL_wF, aI_wA_ne, aI_wF_ne, fI_wA_ne, fI_wF_ne, fI_wF_nk, aL_wAL_ne, J_sameA, J_sameF, aL_same, Nat.add_left_cancel_iff, Nat.add_eq_left, Nat.left_eq_add, not_false_eq_true, Nat.reduceEqDiff, Nat.reduceAdd, J_add, J_sub, J_mul, J_neg, J_and, J_or, J_xor, J_shl, J_shr, J_div, J_i2b, J_i2l, J_l2i, J_lcm, J_max, J_min, J_nab, J_nao, rdA, rdF, rdL, wA_fold, wF_fold, wL_fold, wC_fold]
        refine ⟨(ls256 C_h20), ?_⟩
        refine m209 (h := h20) (p := x1) (w := 1) C_h20 (by omega) k16 ?_
        refine ⟨_, rfl, ?_⟩
        try simp only [aI_wAL, fI_wAL, aL_wA, aL_wF, aI_wA_ne, aI_wF_ne, fI_wA_ne, fI_wF_ne, fI_wF_nk, aL_wAL_ne, J_sameA, J_sameF, aL_same, Nat.add_left_cancel_iff, Nat.add_eq_left, Nat.left_eq_add, not_false_eq_true, Nat.reduceEqDiff, Nat.reduceAdd, J_add, J_sub, J_mul, J_neg, J_and, J_or, J_xor, J_shl, J_shr, J_div, J_i2b, J_i2l, J_l2i, J_lcm, J_max, J_min, J_nab, J_nao, rdA, rdF, rdL, wA_fold, wF_fold, wL_fold, wC_fold]
        refine ⟨(ls256 C_h20), _, (lr256_20 C_h20), ?_⟩
        obtain ⟨k26, w⟩ := w
        refine ⟨congrArg Prod.fst (ls266 C_h20), ixs (ls266 C_h20) k26 (by decide), ?_⟩
        exact w
      · have t18 : pS (aI h 266) x1 1 = x2 := ((Jeq (aI_rg _ _ _) k10).mp (Classical.byContradiction c17))
        replace w := w.2 t18
        exact w
theorem m248 {X : Cst} {d : Nat} {p r : Int} {h : AH} {Q : Post} (C : Lay h) (hd : 3 ≤ d) (W : WF 999 (aI h 266)) (hu : 0 ≤ fI h 256 27 ∧ fI h 256 27 ≤ 20) (g1 : -2147483648 ≤ p ∧ p < 2147483648) (g2 : -2147483648 ≤ r ∧ r < 2147483648)
    (k0 : ¬ ((0 ≤ p ∧ p < aI h 266 2) ∧ (0 ≤ r ∧ r < aI h 266 0) ∧ ¬ pS (aI h 266) p 1 = r) → Q (some (.int (J (-1)))) h)
    (k : ((0 ≤ p ∧ p < aI h 266 2) ∧ (0 ≤ r ∧ r < aI h 266 0) ∧ ¬ pS (aI h 266) p 1 = r) → ∀ h', Fr TA h h' → Push (fI h 256 27) (aI h 270) (aI h' 270) (aI h 266) (fI h' 256 27) → aI h' 266 = uu_ (aI h 266) (10 + 6 * p + 1) r → Q (some (.int (J (pS (aI h 266) p 1)))) h') : Ex X PG d 248 0 [some (.ref 256), some (.int (J p)), some (.int (J r)), none] [] h Q := by
  obtain ⟨d, rfl⟩ : ∃ e, d = e + 1 := ⟨d - 1, by omega⟩
  have b := W.1
  unfold WFb at b
  refine r248_0 C (by omega) ⟨g1, fun c => k0 (fun z => c z.1), fun c => ⟨g2, fun c2 => k0 (fun z => c2 z.2.1), fun c2 => ⟨by omega, fun c3 => ⟨hu, fun h20 s20 p20 => ⟨by omega, ?_⟩⟩, fun c3 => k0 (fun z => z.2.2 c3)⟩⟩⟩
  have e6 := p20.1.a 266 (fun k z => by omega)
  rw [e6]
  refine k ⟨c, c2, c3⟩ _ ((p20.1.mo fun c k z => Or.inr z).wA (Or.inl rfl)) ?_ ?_
  · rw [aI_wA_ne (by decide), fI_wA_ne (by decide)]; exact p20.2
  · rw [aI_wA (by omega), e6]
/-- SEND: said behind it -/
def sndS (S : Int → Int) (p d q : Int) : Int → Int :=
  if q = -1 then uu_ (uu_ S (10 + 6 * p + 0) (fr S d)) (10 + 6 * p + 4) (pS S p 4 + 1)
  else uu_ (uu_ (uu_ (uu_ (uu_ S (10 + 6 * p + 0) (fr S d)) (10 + 6 * p + 4) (pS S p 4 + 1)) (10 + 6 * q + 0) (nr S d)) (10 + 6 * q + 3) (pS S q 3 + 1)) (10 + 6 * q + 5) p
def sndP (S : Int → Int) (p d q : Int) : Prop := (0 ≤ p ∧ p < S 2) ∧ (0 ≤ d ∧ d < S 1) ∧ opn S (nightP S) d ∧ pS S p 0 = nr S d ∧ (q = -1 ∨ ((0 ≤ q ∧ q < S 2) ∧ ¬ q = p ∧ pS S q 0 = fr S d))
-- OutwardDoorsModel.send(III)Z at 0
set_option maxRecDepth 20000 in
set_option maxHeartbeats 4000000 in
theorem r249_0 {X : Cst} {d : Nat} {x1 : Int} {x2 : Int} {x3 : Int} {h : AH} {Q : Post} (C_h : Lay h) (hd : 2 ≤ d)
  (w : (-2147483648 ≤ x1 ∧ x1 < 2147483648) ∧ ((¬ (0 ≤ x1 ∧ x1 < aI h 266 2) → Q (some (.int (J 0))) h) ∧ ((0 ≤ x1 ∧ x1 < aI h 266 2) → (-2147483648 ≤ x2 ∧ x2 < 2147483648) ∧ ((¬ (0 ≤ x2 ∧ x2 < aI h 266 1) → Q (some (.int (J 0))) h) ∧ ((0 ≤ x2 ∧ x2 < aI h 266 1) → (WF 999 (aI h 266)) ∧ (0 ≤ x2 ∧ x2 < aI h 266 1) ∧ ((¬ (opn (aI h 266) (nightP (aI h 266)) x2) → Q (some (.int (J 0))) h) ∧ ((opn (aI h 266) (nightP (aI h 266)) x2) → (0 ≤ 10 + 6 * x1 + 0 ∧ 10 + 6 * x1 + 0 < 123) ∧ (0 ≤ x2 ∧ x2 < 14) ∧ ((pS (aI h 266) x1 0 = nr (aI h 266) x2 → (-2147483648 ≤ x3 ∧ x3 < 2147483648) ∧ ((x3 = (-1) → (0 ≤ fI h 256 27 ∧ fI h 256 27 ≤ 20) ∧ (∀ h34, SH h h34 → (Fr (fun c j => c = 270 ∨ (c = 256 ∧ j = 27)) h h34 ∧ Push (fI h 256 27) (aI h 270) (aI h34 270) (aI h 266) (fI h34 256 27)) → (0 ≤ x1 ∧ x1 < 4) ∧ (pS (aI h34 266) x1 4 < 2147483647) ∧ (∀ h37, SH h34 h37 → (Fr (fun c _ => c = 266) h34 h37 ∧ aI h37 266 = uu_ (uu_ (aI h34 266) (10 + 6 * x1 + 0) (fr (aI h34 266) x2)) (10 + 6 * x1 + 4) (pS (aI h34 266) x1 4 + 1)) → Q (some (.int (J 1))) h37))) ∧ (¬ x3 = (-1) → ((¬ (0 ≤ x3 ∧ x3 < aI h 266 2) → Q (some (.int (J 0))) h) ∧ ((0 ≤ x3 ∧ x3 < aI h 266 2) → ((x3 = x1 → Q (some (.int (J 0))) h) ∧ (¬ x3 = x1 → (0 ≤ 10 + 6 * x3 + 0 ∧ 10 + 6 * x3 + 0 < 123) ∧ ((pS (aI h 266) x3 0 = fr (aI h 266) x2 → (0 ≤ fI h 256 27 ∧ fI h 256 27 ≤ 20) ∧ (∀ h69, SH h h69 → (Fr (fun c j => c = 270 ∨ (c = 256 ∧ j = 27)) h h69 ∧ Push (fI h 256 27) (aI h 270) (aI h69 270) (aI h 266) (fI h69 256 27)) → (0 ≤ x1 ∧ x1 < 4) ∧ (pS (aI h69 266) x1 4 < 2147483647) ∧ (∀ h72, SH h69 h72 → (Fr (fun c _ => c = 266) h69 h72 ∧ aI h72 266 = uu_ (uu_ (aI h69 266) (10 + 6 * x1 + 0) (fr (aI h69 266) x2)) (10 + 6 * x1 + 4) (pS (aI h69 266) x1 4 + 1)) → (0 ≤ x3 ∧ x3 < 4) ∧ (pS (aI h72 266) x3 3 < 2147483647) ∧ (∀ h78, SH h72 h78 → (Fr (fun c _ => c = 266) h72 h78 ∧ aI h78 266 = uu_ (uu_ (uu_ (aI h72 266) (10 + 6 * x3 + 0) (nr (aI h72 266) x2)) (10 + 6 * x3 + 3) (pS (aI h72 266) x3 3 + 1)) (10 + 6 * x3 + 5) x1) → Q (some (.int (J 1))) h78)))) ∧ (¬ pS (aI h 266) x3 0 = fr (aI h 266) x2 → Q (some (.int (J 0))) h))))))))) ∧ (¬ pS (aI h 266) x1 0 = nr (aI h 266) x2 → Q (some (.int (J 0))) h))))))))) :
    Ex X PG (d + 1) 249 0 [some (.ref 256), some (.int (J x1)), some (.int (J x2)), some (.int (J x3))] [] h Q := by
  refine wpx_ok (cut := []) 54 d 249 0 _ _ _ _ ?_
  show hs h 256 = (0, 11) ∧ Ex X PG d 213 0 [some (.ref 256), some (.int (J x1))] [] h (fun v1 h2 => ∃ r3, v1 = some (.int r3) ∧ ((r3 = (J 0) → (J 0 = J 0 ∨ J 0 = J 1) ∧ Q (some (.int (J 0))) h2) ∧ (¬ (r3 = (J 0)) → hs h2 256 = (0, 11) ∧ Ex X PG d 228 0 [some (.ref 256), some (.int (J x2))] [] h2 (fun v7 h8 => ∃ r9, v7 = some (.int r9) ∧ ((r9 = (J 0) → (J 0 = J 0 ∨ J 0 = J 1) ∧ Q (some (.int (J 0))) h8) ∧ (¬ (r9 = (J 0)) → hs h8 256 = (0, 11) ∧ Ex X PG d 217 0 [some (.ref 256), some (.int (J x2))] [] h8 (fun v13 h14 => ∃ r15, v13 = some (.int r15) ∧ ((r15 = (J 0) → (J 0 = J 0 ∨ J 0 = J 1) ∧ Q (some (.int (J 0))) h14) ∧ (¬ (r15 = (J 0)) → hs h14 256 = (0, 11) ∧ Ex X PG d 209 0 [some (.ref 256), some (.int (J x1)), some (.int (J 0))] [] h14 (fun v20 h21 => ∃ r22, v20 = some (.int r22) ∧ hs h21 256 = (0, 11) ∧ Ex X PG d 218 0 [some (.ref 256), some (.int (J x2))] [] h21 (fun v24 h25 => ∃ r26, v24 = some (.int r26) ∧ ((r22 = r26 → (((J x3) = (J (-1)) → hs h25 256 = (0, 11) ∧ Ex X PG d 232 0 [some (.ref 256), none] [] h25 (fun v33 h34 => v33 = none ∧ hs h34 256 = (0, 11) ∧ Ex X PG d 245 0 [some (.ref 256), some (.int (J x1)), some (.int (J x2)), none] [] h34 (fun v36 h37 => v36 = none ∧ (((J x3) = (J (-1)) → (J 1 = J 0 ∨ J 1 = J 1) ∧ Q (some (.int (J 1))) h37) ∧ (¬ ((J x3) = (J (-1))) → hs h37 256 = (0, 11) ∧ Ex X PG d 247 0 [some (.ref 256), some (.int (J x3)), some (.int (J x2)), some (.int (J x1)), none] [] h37 (fun v42 h43 => v42 = none ∧ (J 1 = J 0 ∨ J 1 = J 1) ∧ Q (some (.int (J 1))) h43)))))) ∧ (¬ ((J x3) = (J (-1))) → hs h25 256 = (0, 11) ∧ Ex X PG d 213 0 [some (.ref 256), some (.int (J x3))] [] h25 (fun v52 h53 => ∃ r54, v52 = some (.int r54) ∧ ((r54 = (J 0) → (J 0 = J 0 ∨ J 0 = J 1) ∧ Q (some (.int (J 0))) h53) ∧ (¬ (r54 = (J 0)) → (((J x3) = (J x1) → (J 0 = J 0 ∨ J 0 = J 1) ∧ Q (some (.int (J 0))) h53) ∧ (¬ ((J x3) = (J x1)) → hs h53 256 = (0, 11) ∧ Ex X PG d 209 0 [some (.ref 256), some (.int (J x3)), some (.int (J 0))] [] h53 (fun v59 h60 => ∃ r61, v59 = some (.int r61) ∧ hs h60 256 = (0, 11) ∧ Ex X PG d 219 0 [some (.ref 256), some (.int (J x2))] [] h60 (fun v63 h64 => ∃ r65, v63 = some (.int r65) ∧ ((r61 = r65 → hs h64 256 = (0, 11) ∧ Ex X PG d 232 0 [some (.ref 256), none] [] h64 (fun v68 h69 => v68 = none ∧ hs h69 256 = (0, 11) ∧ Ex X PG d 245 0 [some (.ref 256), some (.int (J x1)), some (.int (J x2)), none] [] h69 (fun v71 h72 => v71 = none ∧ (((J x3) = (J (-1)) → (J 1 = J 0 ∨ J 1 = J 1) ∧ Q (some (.int (J 1))) h72) ∧ (¬ ((J x3) = (J (-1))) → hs h72 256 = (0, 11) ∧ Ex X PG d 247 0 [some (.ref 256), some (.int (J x3)), some (.int (J x2)), some (.int (J x1)), none] [] h72 (fun v77 h78 => v77 = none ∧ (J 1 = J 0 ∨ J 1 = J 1) ∧ Q (some (.int (J 1))) h78)))))) ∧ (¬ (r61 = r65) → (J 0 = J 0 ∨ J 0 = J 1) ∧ Q (some (.int (J 0))) h64)))))))))))) ∧ (¬ (r22 = r26) → (J 0 = J 0 ∨ J 0 = J 1) ∧ Q (some (.int (J 0))) h25)))))))))))))
  try simp only [aI_wAL, fI_wAL, aL_wA, aL_wF, aI_wA_ne, aI_wF_ne, fI_wA_ne, fI_wF_ne, fI_wF_nk, aL_wAL_ne, J_sameA, J_sameF, aL_same, Nat.add_left_cancel_iff, Nat.add_eq_left, Nat.left_eq_add, not_false_eq_true, Nat.reduceEqDiff, Nat.reduceAdd, J_add, J_sub, J_mul, J_neg, J_and, J_or, J_xor, J_shl, J_shr, J_div, J_i2b, J_i2l, J_l2i, J_lcm, J_max, J_min, J_nab, J_nao, rdA, rdF, rdL, wA_fold, wF_fold, wL_fold, wC_fold]
  refine ⟨(ls256 C_h), ?_⟩
  obtain ⟨k4, w⟩ := w
  refine m213 (h := h) (x := x1) C_h (by omega) k4 ?_
  refine ⟨_, rfl, ?_⟩
  try simp only [aI_wAL, fI_wAL, aL_wA, aL_wF, aI_wA_ne, aI_wF_ne, fI_wA_ne, fI_wF_ne, fI_wF_nk, aL_wAL_ne, J_sameA, J_sameF, aL_same, Nat.add_left_cancel_iff, Nat.add_eq_left, Nat.left_eq_add, not_false_eq_true, Nat.reduceEqDiff, Nat.reduceAdd, J_add, J_sub, J_mul, J_neg, J_and, J_or, J_xor, J_shl, J_shr, J_div, J_i2b, J_i2l, J_l2i, J_lcm, J_max, J_min, J_nab, J_nao, rdA, rdF, rdL, wA_fold, wF_fold, wL_fold, wC_fold]
  refine ⟨fun c5 => ?_, fun c5 => ?_⟩
  · have t6 : ¬ (0 ≤ x1 ∧ x1 < aI h 266 2) := ((bI0 _).mp c5)
    replace w := w.1 t6
    exact ⟨(Or.inl (by trivial)), w⟩
  · have t6 : (0 ≤ x1 ∧ x1 < aI h 266 2) := (Classical.byContradiction fun n => c5 ((bI0 _).mpr n))
    replace w := w.2 t6
    refine ⟨(ls256 C_h), ?_⟩
    obtain ⟨k10, w⟩ := w
    refine m228 (h := h) (x := x2) C_h (by omega) k10 ?_
    refine ⟨_, rfl, ?_⟩
    try simp only [aI_wAL, fI_wAL, aL_wA, aL_wF, aI_wA_ne, aI_wF_ne, fI_wA_ne, fI_wF_ne, fI_wF_nk, aL_wAL_ne, J_sameA, J_sameF, aL_same, Nat.add_left_cancel_iff, Nat.add_eq_left, Nat.left_eq_add, not_false_eq_true, Nat.reduceEqDiff, Nat.reduceAdd, J_add, J_sub, J_mul, J_neg, J_and, J_or, J_xor, J_shl, J_shr, J_div, J_i2b, J_i2l, J_l2i, J_lcm, J_max, J_min, J_nab, J_nao, rdA, rdF, rdL, wA_fold, wF_fold, wL_fold, wC_fold]
    refine ⟨fun c11 => ?_, fun c11 => ?_⟩
    · have t12 : ¬ (0 ≤ x2 ∧ x2 < aI h 266 1) := ((bI0 _).mp c11)
      replace w := w.1 t12
      exact ⟨(Or.inl (by trivial)), w⟩
    · have t12 : (0 ≤ x2 ∧ x2 < aI h 266 1) := (Classical.byContradiction fun n => c11 ((bI0 _).mpr n))
      replace w := w.2 t12
      refine ⟨(ls256 C_h), ?_⟩
      obtain ⟨k16, w⟩ := w
      obtain ⟨k17, w⟩ := w
      refine m217 (h := h) (x := x2) C_h (by omega) k16 k17 ?_
      refine ⟨_, rfl, ?_⟩
      try simp only [aI_wAL, fI_wAL, aL_wA, aL_wF, aI_wA_ne, aI_wF_ne, fI_wA_ne, fI_wF_ne, fI_wF_nk, aL_wAL_ne, J_sameA, J_sameF, aL_same, Nat.add_left_cancel_iff, Nat.add_eq_left, Nat.left_eq_add, not_false_eq_true, Nat.reduceEqDiff, Nat.reduceAdd, J_add, J_sub, J_mul, J_neg, J_and, J_or, J_xor, J_shl, J_shr, J_div, J_i2b, J_i2l, J_l2i, J_lcm, J_max, J_min, J_nab, J_nao, rdA, rdF, rdL, wA_fold, wF_fold, wL_fold, wC_fold]
      refine ⟨fun c18 => ?_, fun c18 => ?_⟩
      · have t19 : ¬ (opn (aI h 266) (nightP (aI h 266)) x2) := ((bI0 _).mp c18)
        replace w := w.1 t19
        exact ⟨(Or.inl (by trivial)), w⟩
      · have t19 : (opn (aI h 266) (nightP (aI h 266)) x2) := (Classical.byContradiction fun n => c18 ((bI0 _).mpr n))
        replace w := w.2 t19
        refine ⟨(ls256 C_h), ?_⟩
        obtain ⟨k23, w⟩ := w
        refine m209 (h := h) (p := x1) (w := 0) C_h (by omega) k23 ?_
        refine ⟨_, rfl, ?_⟩
        try simp only [aI_wAL, fI_wAL, aL_wA, aL_wF, aI_wA_ne, aI_wF_ne, fI_wA_ne, fI_wF_ne, fI_wF_nk, aL_wAL_ne, J_sameA, J_sameF, aL_same, Nat.add_left_cancel_iff, Nat.add_eq_left, Nat.left_eq_add, not_false_eq_true, Nat.reduceEqDiff, Nat.reduceAdd, J_add, J_sub, J_mul, J_neg, J_and, J_or, J_xor, J_shl, J_shr, J_div, J_i2b, J_i2l, J_l2i, J_lcm, J_max, J_min, J_nab, J_nao, rdA, rdF, rdL, wA_fold, wF_fold, wL_fold, wC_fold]
        refine ⟨(ls256 C_h), ?_⟩
        obtain ⟨k27, w⟩ := w
        refine m218 (h := h) (x := x2) C_h (by omega) k27 ?_
        refine ⟨_, rfl, ?_⟩
        try simp only [aI_wAL, fI_wAL, aL_wA, aL_wF, aI_wA_ne, aI_wF_ne, fI_wA_ne, fI_wF_ne, fI_wF_nk, aL_wAL_ne, J_sameA, J_sameF, aL_same, Nat.add_left_cancel_iff, Nat.add_eq_left, Nat.left_eq_add, not_false_eq_true, Nat.reduceEqDiff, Nat.reduceAdd, J_add, J_sub, J_mul, J_neg, J_and, J_or, J_xor, J_shl, J_shr, J_div, J_i2b, J_i2l, J_l2i, J_lcm, J_max, J_min, J_nab, J_nao, rdA, rdF, rdL, wA_fold, wF_fold, wL_fold, wC_fold]
        refine ⟨fun c28 => ?_, fun c28 => ?_⟩
        · have t29 : pS (aI h 266) x1 0 = nr (aI h 266) x2 := ((Jeq (aI_rg _ _ _) (aI_rg _ _ _)).mp c28)
          replace w := w.1 t29
          obtain ⟨k32, w⟩ := w
          refine ⟨fun c30 => ?_, fun c30 => ?_⟩
          · have t31 : x3 = (-1) := ((Jeq k32 (by decide)).mp c30)
            replace w := w.1 t31
            refine ⟨(ls256 C_h), ?_⟩
            obtain ⟨k35, w⟩ := w
            refine m232 (h := h)  C_h (by omega) k35 ?_
            intro h34 s50 p51
            replace w := w h34 s50 p51
            refine ⟨rfl, ?_⟩
            have C_h34 := Lay_SH s50 C_h
            try simp only [aI_wAL, fI_wAL, aL_wA, aL_wF, aI_wA_ne, aI_wF_ne, fI_wA_ne, fI_wF_ne, fI_wF_nk, aL_wAL_ne, J_sameA, J_sameF, aL_same, Nat.add_left_cancel_iff, Nat.add_eq_left, Nat.left_eq_add, not_false_eq_true, Nat.reduceEqDiff, Nat.reduceAdd, J_add, J_sub, J_mul, J_neg, J_and, J_or, J_xor, J_shl, J_shr, J_div, J_i2b, J_i2l, J_l2i, J_lcm, J_max, J_min, J_nab, J_nao, rdA, rdF, rdL, wA_fold, wF_fold, wL_fold, wC_fold]
            refine ⟨(ls256 C_h34), ?_⟩
            obtain ⟨k38, w⟩ := w
            obtain ⟨k39, w⟩ := w
            refine m245 (h := h34) (p := x1) (x := x2) C_h34 (by omega) k38 k27 k39 ?_
            intro h37 s48 p49
            replace w := w h37 s48 p49
            refine ⟨rfl, ?_⟩
            have C_h37 := Lay_SH s48 C_h34
            try simp only [aI_wAL, fI_wAL, aL_wA, aL_wF, aI_wA_ne, aI_wF_ne, fI_wA_ne, fI_wF_ne, fI_wF_nk, aL_wAL_ne, J_sameA, J_sameF, aL_same, Nat.add_left_cancel_iff, Nat.add_eq_left, Nat.left_eq_add, not_false_eq_true, Nat.reduceEqDiff, Nat.reduceAdd, J_add, J_sub, J_mul, J_neg, J_and, J_or, J_xor, J_shl, J_shr, J_div, J_i2b, J_i2l, J_l2i, J_lcm, J_max, J_min, J_nab, J_nao, rdA, rdF, rdL, wA_fold, wF_fold, wL_fold, wC_fold]
            refine ⟨fun _ => ?_, fun c40 => absurd ((Jeq k32 (by decide)).mpr t31) c40⟩
            exact ⟨(Or.inr (by trivial)), w⟩
          · have t31 : ¬ x3 = (-1) := (fun e => c30 ((Jeq k32 (by decide)).mpr e))
            replace w := w.2 t31
            refine ⟨(ls256 C_h), ?_⟩
            refine m213 (h := h) (x := x3) C_h (by omega) k32 ?_
            refine ⟨_, rfl, ?_⟩
            try simp only [aI_wAL, fI_wAL, aL_wA, aL_wF, aI_wA_ne, aI_wF_ne, fI_wA_ne, fI_wF_ne, fI_wF_nk, aL_wAL_ne, J_sameA, J_sameF, aL_same, Nat.add_left_cancel_iff, Nat.add_eq_left, Nat.left_eq_add, not_false_eq_true, Nat.reduceEqDiff, Nat.reduceAdd, J_add, J_sub, J_mul, J_neg, J_and, J_or, J_xor, J_shl, J_shr, J_div, J_i2b, J_i2l, J_l2i, J_lcm, J_max, J_min, J_nab, J_nao, rdA, rdF, rdL, wA_fold, wF_fold, wL_fold, wC_fold]
            refine ⟨fun c55 => ?_, fun c55 => ?_⟩
            · have t56 : ¬ (0 ≤ x3 ∧ x3 < aI h 266 2) := ((bI0 _).mp c55)
              replace w := w.1 t56
              exact ⟨(Or.inl (by trivial)), w⟩
            · have t56 : (0 ≤ x3 ∧ x3 < aI h 266 2) := (Classical.byContradiction fun n => c55 ((bI0 _).mpr n))
              replace w := w.2 t56
              refine ⟨fun c57 => ?_, fun c57 => ?_⟩
              · have t58 : x3 = x1 := ((Jeq k32 k4).mp c57)
                replace w := w.1 t58
                exact ⟨(Or.inl (by trivial)), w⟩
              · have t58 : ¬ x3 = x1 := (fun e => c57 ((Jeq k32 k4).mpr e))
                replace w := w.2 t58
                refine ⟨(ls256 C_h), ?_⟩
                obtain ⟨k62, w⟩ := w
                refine m209 (h := h) (p := x3) (w := 0) C_h (by omega) k62 ?_
                refine ⟨_, rfl, ?_⟩
                try simp only [aI_wAL, fI_wAL, aL_wA, aL_wF, aI_wA_ne, aI_wF_ne, fI_wA_ne, fI_wF_ne, fI_wF_nk, aL_wAL_ne, J_sameA, J_sameF, aL_same, Nat.add_left_cancel_iff, Nat.add_eq_left, Nat.left_eq_add, not_false_eq_true, Nat.reduceEqDiff, Nat.reduceAdd, J_add, J_sub, J_mul, J_neg, J_and, J_or, J_xor, J_shl, J_shr, J_div, J_i2b, J_i2l, J_l2i, J_lcm, J_max, J_min, J_nab, J_nao, rdA, rdF, rdL, wA_fold, wF_fold, wL_fold, wC_fold]
                refine ⟨(ls256 C_h), ?_⟩
                refine m219 (h := h) (x := x2) C_h (by omega) k27 ?_
                refine ⟨_, rfl, ?_⟩
                try simp only [aI_wAL, fI_wAL, aL_wA, aL_wF, aI_wA_ne, aI_wF_ne, fI_wA_ne, fI_wF_ne, fI_wF_nk, aL_wAL_ne, J_sameA, J_sameF, aL_same, Nat.add_left_cancel_iff, Nat.add_eq_left, Nat.left_eq_add, not_false_eq_true, Nat.reduceEqDiff, Nat.reduceAdd, J_add, J_sub, J_mul, J_neg, J_and, J_or, J_xor, J_shl, J_shr, J_div, J_i2b, J_i2l, J_l2i, J_lcm, J_max, J_min, J_nab, J_nao, rdA, rdF, rdL, wA_fold, wF_fold, wL_fold, wC_fold]
                refine ⟨fun c66 => ?_, fun c66 => ?_⟩
                · have t67 : pS (aI h 266) x3 0 = fr (aI h 266) x2 := ((Jeq (aI_rg _ _ _) (aI_rg _ _ _)).mp c66)
                  replace w := w.1 t67
                  refine ⟨(ls256 C_h), ?_⟩
                  obtain ⟨k70, w⟩ := w
                  refine m232 (h := h)  C_h (by omega) k70 ?_
                  intro h69 s85 p86
                  replace w := w h69 s85 p86
                  refine ⟨rfl, ?_⟩
                  have C_h69 := Lay_SH s85 C_h
                  try simp only [aI_wAL, fI_wAL, aL_wA, aL_wF, aI_wA_ne, aI_wF_ne, fI_wA_ne, fI_wF_ne, fI_wF_nk, aL_wAL_ne, J_sameA, J_sameF, aL_same, Nat.add_left_cancel_iff, Nat.add_eq_left, Nat.left_eq_add, not_false_eq_true, Nat.reduceEqDiff, Nat.reduceAdd, J_add, J_sub, J_mul, J_neg, J_and, J_or, J_xor, J_shl, J_shr, J_div, J_i2b, J_i2l, J_l2i, J_lcm, J_max, J_min, J_nab, J_nao, rdA, rdF, rdL, wA_fold, wF_fold, wL_fold, wC_fold]
                  refine ⟨(ls256 C_h69), ?_⟩
                  obtain ⟨k73, w⟩ := w
                  obtain ⟨k74, w⟩ := w
                  refine m245 (h := h69) (p := x1) (x := x2) C_h69 (by omega) k73 k27 k74 ?_
                  intro h72 s83 p84
                  replace w := w h72 s83 p84
                  refine ⟨rfl, ?_⟩
                  have C_h72 := Lay_SH s83 C_h69
                  try simp only [aI_wAL, fI_wAL, aL_wA, aL_wF, aI_wA_ne, aI_wF_ne, fI_wA_ne, fI_wF_ne, fI_wF_nk, aL_wAL_ne, J_sameA, J_sameF, aL_same, Nat.add_left_cancel_iff, Nat.add_eq_left, Nat.left_eq_add, not_false_eq_true, Nat.reduceEqDiff, Nat.reduceAdd, J_add, J_sub, J_mul, J_neg, J_and, J_or, J_xor, J_shl, J_shr, J_div, J_i2b, J_i2l, J_l2i, J_lcm, J_max, J_min, J_nab, J_nao, rdA, rdF, rdL, wA_fold, wF_fold, wL_fold, wC_fold]
                  refine ⟨fun c75 => absurd c75 (fun e => t31 ((Jeq k32 (by decide)).mp e)), fun _ => ?_⟩
                  refine ⟨(ls256 C_h72), ?_⟩
                  obtain ⟨k79, w⟩ := w
                  obtain ⟨k80, w⟩ := w
                  refine m247 (h := h72) (p := x3) (x := x2) (b := x1) C_h72 (by omega) k79 k27 k4 k80 ?_
                  intro h78 s81 p82
                  replace w := w h78 s81 p82
                  refine ⟨rfl, ?_⟩
                  have C_h78 := Lay_SH s81 C_h72
                  try simp only [aI_wAL, fI_wAL, aL_wA, aL_wF, aI_wA_ne, aI_wF_ne, fI_wA_ne, fI_wF_ne, fI_wF_nk, aL_wAL_ne, J_sameA, J_sameF, aL_same, Nat.add_left_cancel_iff, Nat.add_eq_left, Nat.left_eq_add, not_false_eq_true, Nat.reduceEqDiff, Nat.reduceAdd, J_add, J_sub, J_mul, J_neg, J_and, J_or, J_xor, J_shl, J_shr, J_div, J_i2b, J_i2l, J_l2i, J_lcm, J_max, J_min, J_nab, J_nao, rdA, rdF, rdL, wA_fold, wF_fold, wL_fold, wC_fold]
                  exact ⟨(Or.inr (by trivial)), w⟩
                · have t67 : ¬ pS (aI h 266) x3 0 = fr (aI h 266) x2 := (fun e => c66 ((Jeq (aI_rg _ _ _) (aI_rg _ _ _)).mpr e))
                  replace w := w.2 t67
                  exact ⟨(Or.inl (by trivial)), w⟩
        · have t29 : ¬ pS (aI h 266) x1 0 = nr (aI h 266) x2 := (fun e => c28 ((Jeq (aI_rg _ _ _) (aI_rg _ _ _)).mpr e))
          replace w := w.2 t29
          exact ⟨(Or.inl (by trivial)), w⟩
theorem m249 {X : Cst} {d : Nat} {p x q : Int} {h : AH} {Q : Post} (C : Lay h) (hd : 4 ≤ d) (W : WF 999 (aI h 266)) (hu : 0 ≤ fI h 256 27 ∧ fI h 256 27 ≤ 20) (g1 : -2147483648 ≤ p ∧ p < 2147483648) (g2 : -2147483648 ≤ x ∧ x < 2147483648) (g3 : -2147483648 ≤ q ∧ q < 2147483648)
    (k0 : ¬ sndP (aI h 266) p x q → Q (some (.int (J 0))) h)
    (k : sndP (aI h 266) p x q → ∀ h', Fr TA h h' → Push (fI h 256 27) (aI h 270) (aI h' 270) (aI h 266) (fI h' 256 27) → aI h' 266 = sndS (aI h 266) p x q → Q (some (.int (J 1))) h') : Ex X PG d 249 0 [some (.ref 256), some (.int (J p)), some (.int (J x)), some (.int (J q))] [] h Q := by
  obtain ⟨d, rfl⟩ : ∃ e, d = e + 1 := ⟨d - 1, by omega⟩
  have b := W.1
  unfold WFb at b
  unfold sndP at k0 k
  refine r249_0 C (by omega) ⟨g1, fun c => k0 (fun z => c z.1), fun c => ⟨g2, fun c2 => k0 (fun z => c2 z.2.1), fun c2 => ⟨W, c2, fun c3 => k0 (fun z => c3 z.2.2.1), fun c3 => ⟨by omega, by omega, fun c4 => ⟨g3, fun c5 => ⟨hu, fun h34 s34 p34 => ?_⟩, fun c5 => ⟨fun c6 => k0 (fun z => by rcases z.2.2.2.2 with z | z; exact c5 z; exact c6 z.1), fun c6 => ⟨fun c7 => k0 (fun z => by rcases z.2.2.2.2 with z | z; exact c5 z; exact z.2.1 c7), fun c7 => ⟨by omega, fun c8 => ⟨hu, fun h67 s67 p67 => ?_⟩, fun c8 => k0 (fun z => by rcases z.2.2.2.2 with z | z; exact c5 z; exact c8 z.2.2)⟩⟩⟩⟩, fun c4 => k0 (fun z => c4 z.2.2.2.1)⟩⟩⟩⟩
  · have pp := W.2.1 p c.1 c.2
    have e6 := p34.1.a 266 (fun k z => by omega)
    rw [e6]
    refine ⟨by omega, by omega, fun h36 s36 p36 => ?_⟩
    refine k ⟨c, c2, c3, c4, Or.inl c5⟩ h36 ((p34.1.mo fun c k z => Or.inr z).tr (p36.1.mo fun c k z => Or.inl z)) ?_ ?_
    · rw [p36.1.a 270 (fun k => by decide), p36.1.f 256 27 (by decide)]; exact p34.2
    · rw [p36.2]; unfold sndS; rw [if_pos c5]
  · have pp := W.2.1 p c.1 c.2
    have pq := W.2.1 q c6.1 c6.2
    have e6 := p67.1.a 266 (fun k z => by omega)
    rw [e6]
    refine ⟨by omega, by omega, fun h69 s69 p69 => ?_⟩
    have n1 : nr (aI h69 266) x = nr (aI h 266) x := by
      rw [p69.2]; unfold nr; rw [uu_ne (by omega) (by omega) (by omega), uu_ne (by omega) (by omega) (by omega)]
    have n2 : pS (aI h69 266) q 3 = pS (aI h 266) q 3 := by
      rw [p69.2]; unfold pS; rw [uu_ne (by omega) (by omega) (by omega), uu_ne (by omega) (by omega) (by omega)]
    rw [n1, n2]
    refine ⟨by omega, by omega, fun h75 s75 p75 => ?_⟩
    refine k ⟨c, c2, c3, c4, Or.inr ⟨c6, c7, c8⟩⟩ h75 (((p67.1.mo fun c k z => Or.inr z).tr (p69.1.mo fun c k z => Or.inl z)).tr (p75.1.mo fun c k z => Or.inl z)) ?_ ?_
    · rw [p75.1.a 270 (fun k => by decide), p75.1.f 256 27 (by decide), p69.1.a 270 (fun k => by decide), p69.1.f 256 27 (by decide)]; exact p67.2
    · rw [p75.2, p69.2]; unfold sndS; rw [if_neg c5]
-- OutwardDoorsModel.force(I)I at 0
set_option maxRecDepth 20000 in
set_option maxHeartbeats 4000000 in
theorem r210_0 {X : Cst} {d : Nat} {x1 : Int} {h : AH} {Q : Post} (C_h : Lay h) (hd : 1 ≤ d)
  (w : (-2147483648 ≤ x1 ∧ x1 < 2147483648) ∧ ((x1 = (-1) → Q (some (.int (J (fI h 256 21)))) (wF h 256 21 x1)) ∧ (¬ x1 = (-1) → (((0 ≤ x1 ∧ x1 < fI h 256 2) → Q (some (.int (J (fI h 256 21)))) (wF h 256 21 x1)) ∧ (¬ (0 ≤ x1 ∧ x1 < fI h 256 2) → Q (some (.int (J (-2)))) h))))) :
    Ex X PG (d + 1) 210 0 [some (.ref 256), some (.int (J x1)), none] [] h Q := by
  refine wpx_ok (cut := []) 15 d 210 0 _ _ _ _ ?_
  show (((J x1) = (J (-1)) → hs h 256 = (0, 11) ∧ hs h 256 = (0, 11) ∧ Q (some (.int (hF h 256 21))) (wG h 256 21 (J x1))) ∧ (¬ ((J x1) = (J (-1))) → hs h 256 = (0, 11) ∧ Ex X PG d 211 0 [some (.ref 256), some (.int (J x1))] [] h (fun v4 h5 => ∃ r6, v4 = some (.int r6) ∧ ((¬ r6 = (J 0) → hs h5 256 = (0, 11) ∧ hs h5 256 = (0, 11) ∧ Q (some (.int (hF h5 256 21))) (wG h5 256 21 (J x1))) ∧ (¬ (¬ r6 = (J 0)) → Q (some (.int (J (-2)))) h5)))))
  try simp only [aI_wAL, fI_wAL, aL_wA, aL_wF, aI_wA_ne, aI_wF_ne, fI_wA_ne, fI_wF_ne, fI_wF_nk, aL_wAL_ne, J_sameA, J_sameF, aL_same, Nat.add_left_cancel_iff, Nat.add_eq_left, Nat.left_eq_add, not_false_eq_true, Nat.reduceEqDiff, Nat.reduceAdd, J_add, J_sub, J_mul, J_neg, J_and, J_or, J_xor, J_shl, J_shr, J_div, J_i2b, J_i2l, J_l2i, J_lcm, J_max, J_min, J_nab, J_nao, rdA, rdF, rdL, wA_fold, wF_fold, wL_fold, wC_fold]
  obtain ⟨k3, w⟩ := w
  refine ⟨fun c1 => ?_, fun c1 => ?_⟩
  · have t2 : x1 = (-1) := ((Jeq k3 (by decide)).mp c1)
    replace w := w.1 t2
    refine ⟨(ls256 C_h), ?_⟩
    refine ⟨(ls256 C_h), ?_⟩
    exact w
  · have t2 : ¬ x1 = (-1) := (fun e => c1 ((Jeq k3 (by decide)).mpr e))
    replace w := w.2 t2
    refine ⟨(ls256 C_h), ?_⟩
    refine m211 (h := h) (x := x1) C_h (by omega) k3 ?_
    refine ⟨_, rfl, ?_⟩
    try simp only [aI_wAL, fI_wAL, aL_wA, aL_wF, aI_wA_ne, aI_wF_ne, fI_wA_ne, fI_wF_ne, fI_wF_nk, aL_wAL_ne, J_sameA, J_sameF, aL_same, Nat.add_left_cancel_iff, Nat.add_eq_left, Nat.left_eq_add, not_false_eq_true, Nat.reduceEqDiff, Nat.reduceAdd, J_add, J_sub, J_mul, J_neg, J_and, J_or, J_xor, J_shl, J_shr, J_div, J_i2b, J_i2l, J_l2i, J_lcm, J_max, J_min, J_nab, J_nao, rdA, rdF, rdL, wA_fold, wF_fold, wL_fold, wC_fold]
    refine ⟨fun c7 => ?_, fun c7 => ?_⟩
    · have t8 : (0 ≤ x1 ∧ x1 < fI h 256 2) := (Classical.byContradiction fun n => c7 ((bI0 _).mpr n))
      replace w := w.1 t8
      refine ⟨(ls256 C_h), ?_⟩
      refine ⟨(ls256 C_h), ?_⟩
      exact w
    · have t8 : ¬ (0 ≤ x1 ∧ x1 < fI h 256 2) := ((bI0 _).mp (Classical.byContradiction fun n => c7 n))
      replace w := w.2 t8
      exact w
theorem m210 {X : Cst} {d : Nat} {r : Int} {h : AH} {Q : Post} (C : Lay h) (hd : 2 ≤ d) (g1 : -2147483648 ≤ r ∧ r < 2147483648)
    (k0 : ¬ (r = -1 ∨ (0 ≤ r ∧ r < fI h 256 2)) → Q (some (.int (J (-2)))) h) (k : (r = -1 ∨ (0 ≤ r ∧ r < fI h 256 2)) → Q (some (.int (J (fI h 256 21)))) (wF h 256 21 r)) : Ex X PG d 210 0 [some (.ref 256), some (.int (J r)), none] [] h Q := by
  obtain ⟨d, rfl⟩ : ∃ e, d = e + 1 := ⟨d - 1, by omega⟩
  exact r210_0 C (by omega) ⟨g1, fun c => k (Or.inl c), fun c => ⟨fun c2 => k (Or.inr c2), fun c2 => k0 (fun z => z.elim c c2)⟩⟩
-- OutwardDoorsModel.seed(I)I at 0
set_option maxRecDepth 20000 in
set_option maxHeartbeats 4000000 in
theorem r282_0 {X : Cst} {d : Nat} {x1 : Int} {h : AH} {Q : Post} (C_h : Lay h)
  (w : (-2147483648 ≤ x1 ∧ x1 < 2147483648) ∧ ((0 ≤ x1 → Q (some (.int (J (fI h 256 22)))) (wF h 256 22 x1)) ∧ (¬ 0 ≤ x1 → Q (some (.int (J (-1)))) h))) :
    Ex X PG (d + 1) 282 0 [some (.ref 256), some (.int (J x1)), none] [] h Q := by
  refine wpx_ok (cut := []) 10 d 282 0 _ _ _ _ ?_
  show (((J 0) ≤ (J x1) → hs h 256 = (0, 11) ∧ hs h 256 = (0, 11) ∧ Q (some (.int (hF h 256 22))) (wG h 256 22 (J x1))) ∧ (¬ ((J 0) ≤ (J x1)) → Q (some (.int (J (-1)))) h))
  try simp only [aI_wAL, fI_wAL, aL_wA, aL_wF, aI_wA_ne, aI_wF_ne, fI_wA_ne, fI_wF_ne, fI_wF_nk, aL_wAL_ne, J_sameA, J_sameF, aL_same, Nat.add_left_cancel_iff, Nat.add_eq_left, Nat.left_eq_add, not_false_eq_true, Nat.reduceEqDiff, Nat.reduceAdd, J_add, J_sub, J_mul, J_neg, J_and, J_or, J_xor, J_shl, J_shr, J_div, J_i2b, J_i2l, J_l2i, J_lcm, J_max, J_min, J_nab, J_nao, rdA, rdF, rdL, wA_fold, wF_fold, wL_fold, wC_fold]
  obtain ⟨k3, w⟩ := w
  refine ⟨fun c1 => ?_, fun c1 => ?_⟩
  · have t2 : 0 ≤ x1 := ((Jle (by decide) k3).mp c1)
    replace w := w.1 t2
    refine ⟨(ls256 C_h), ?_⟩
    refine ⟨(ls256 C_h), ?_⟩
    exact w
  · have t2 : ¬ 0 ≤ x1 := (fun e => c1 ((Jle (by decide) k3).mpr e))
    replace w := w.2 t2
    exact w
theorem m282 {X : Cst} {d : Nat} {r : Int} {h : AH} {Q : Post} (C : Lay h) (hd : 1 ≤ d) (g1 : -2147483648 ≤ r ∧ r < 2147483648)
    (k0 : ¬ 0 ≤ r → Q (some (.int (J (-1)))) h) (k : 0 ≤ r → Q (some (.int (J (fI h 256 22)))) (wF h 256 22 r)) : Ex X PG d 282 0 [some (.ref 256), some (.int (J r)), none] [] h Q := by
  obtain ⟨d, rfl⟩ : ∃ e, d = e + 1 := ⟨d - 1, by omega⟩
  exact r282_0 C ⟨g1, fun c => k c, fun c => k0 c⟩
/-- COUNT: n rules, f in force, u acts, x, l bytes -/
noncomputable def anCount (S : Int → Int) (n f u x l w : Int) : Int :=
  if w = 0 then S 0 else if w = 1 then S 1 else if w = 2 then S 2 else if w = 3 then n else if w = 4 then f else if w = 5 then S 3 else if w = 6 then bI (nightP S)
  else if w = 7 then sumN (S 2).toNat (fun p => pS S p 3) else if w = 8 then sumN (S 2).toNat (fun p => pS S p 4) else if w = 9 then S 114 else if w = 10 then u else if w = 11 then x else if w = 12 then l else -1
-- OutwardDoorsModel.count(I)I at 0
set_option maxRecDepth 20000 in
set_option maxHeartbeats 4000000 in
theorem r287_0 {X : Cst} {d : Nat} {x1 : Int} {h : AH} {Q : Post} (C_h : Lay h) (hd : 2 ≤ d)
  (w : (-2147483648 ≤ x1 ∧ x1 < 2147483648) ∧ ((x1 = 0 → (0 ≤ x1 ∧ x1 < 123) ∧ Q (some (.int (J (aI h 266 x1)))) h) ∧ (¬ x1 = 0 → ((x1 = 1 → (0 ≤ x1 ∧ x1 < 123) ∧ Q (some (.int (J (aI h 266 x1)))) h) ∧ (¬ x1 = 1 → ((x1 = 2 → (0 ≤ x1 ∧ x1 < 123) ∧ Q (some (.int (J (aI h 266 x1)))) h) ∧ (¬ x1 = 2 → ((x1 = 3 → Q (some (.int (J (fI h 256 2)))) h) ∧ (¬ x1 = 3 → ((x1 = 4 → Q (some (.int (J (fI h 256 21)))) h) ∧ (¬ x1 = 4 → ((x1 = 5 → Q (some (.int (J (aI h 266 3)))) h) ∧ (¬ x1 = 5 → ((x1 = 6 → (WF 999 (aI h 266)) ∧ ((¬ (nightP (aI h 266)) → Q (some (.int (J 0))) h) ∧ ((nightP (aI h 266)) → Q (some (.int (J 1))) h))) ∧ (¬ x1 = 6 → ((x1 = 7 → (WF 999 (aI h 266)) ∧ Q (some (.int (J (sumN (aI h 266 2).toNat (fun p => pS (aI h 266) p 3))))) h) ∧ (¬ x1 = 7 → ((x1 = 8 → (WF 999 (aI h 266)) ∧ Q (some (.int (J (sumN (aI h 266 2).toNat (fun p => pS (aI h 266) p 4))))) h) ∧ (¬ x1 = 8 → ((x1 = 9 → Q (some (.int (J (aI h 266 114)))) h) ∧ (¬ x1 = 9 → ((x1 = 10 → Q (some (.int (J (fI h 256 27)))) h) ∧ (¬ x1 = 10 → ((x1 = 11 → Q (some (.int (J (fI h 256 22)))) h) ∧ (¬ x1 = 11 → ((x1 = 12 → Q (some (.int (J (fI h 256 1)))) h) ∧ (¬ x1 = 12 → Q (some (.int (J (-1)))) h))))))))))))))))))))))))))) :
    Ex X PG (d + 1) 287 0 [some (.ref 256), some (.int (J x1))] [] h Q := by
  refine wpx_ok (cut := []) 8 d 287 0 _ _ _ _ ?_
  show (((J x1) = J 0 → hs h 256 = (0, 11) ∧ ∃ q2, hR h 256 20 = some q2 ∧ (hs h q2).1 = 1 ∧ ix (J x1) (hs h q2).2 ∧ Q (some (.int (hI h q2 (Int32.toNatClampNeg (J x1))))) h) ∧ (¬ (J x1) = J 0 → (((J x1) = J 1 → hs h 256 = (0, 11) ∧ ∃ q5, hR h 256 20 = some q5 ∧ (hs h q5).1 = 1 ∧ ix (J x1) (hs h q5).2 ∧ Q (some (.int (hI h q5 (Int32.toNatClampNeg (J x1))))) h) ∧ (¬ (J x1) = J 1 → (((J x1) = J 2 → hs h 256 = (0, 11) ∧ ∃ q8, hR h 256 20 = some q8 ∧ (hs h q8).1 = 1 ∧ ix (J x1) (hs h q8).2 ∧ Q (some (.int (hI h q8 (Int32.toNatClampNeg (J x1))))) h) ∧ (¬ (J x1) = J 2 → (((J x1) = J 3 → hs h 256 = (0, 11) ∧ Q (some (.int (hF h 256 2))) h) ∧ (¬ (J x1) = J 3 → (((J x1) = J 4 → hs h 256 = (0, 11) ∧ Q (some (.int (hF h 256 21))) h) ∧ (¬ (J x1) = J 4 → (((J x1) = J 5 → hs h 256 = (0, 11) ∧ ∃ q13, hR h 256 20 = some q13 ∧ (hs h q13).1 = 1 ∧ ix (J 3) (hs h q13).2 ∧ Q (some (.int (hI h q13 (Int32.toNatClampNeg (J 3))))) h) ∧ (¬ (J x1) = J 5 → (((J x1) = J 6 → hs h 256 = (0, 11) ∧ Ex X PG d 220 0 [some (.ref 256), none] [] h (fun v15 h16 => ∃ r17, v15 = some (.int r17) ∧ ((r17 = (J 0) → Q (some (.int (J 0))) h16) ∧ (¬ (r17 = (J 0)) → Q (some (.int (J 1))) h16)))) ∧ (¬ (J x1) = J 6 → (((J x1) = J 7 → hs h 256 = (0, 11) ∧ Ex X PG d 284 0 [some (.ref 256), some (.int (J 3)), none, none] [] h (fun v22 h23 => ∃ r24, v22 = some (.int r24) ∧ Q (some (.int r24)) h23)) ∧ (¬ (J x1) = J 7 → (((J x1) = J 8 → hs h 256 = (0, 11) ∧ Ex X PG d 284 0 [some (.ref 256), some (.int (J 4)), none, none] [] h (fun v27 h28 => ∃ r29, v27 = some (.int r29) ∧ Q (some (.int r29)) h28)) ∧ (¬ (J x1) = J 8 → (((J x1) = J 9 → hs h 256 = (0, 11) ∧ ∃ q32, hR h 256 20 = some q32 ∧ (hs h q32).1 = 1 ∧ ix (J 114) (hs h q32).2 ∧ Q (some (.int (hI h q32 (Int32.toNatClampNeg (J 114))))) h) ∧ (¬ (J x1) = J 9 → (((J x1) = J 10 → hs h 256 = (0, 11) ∧ Q (some (.int (hF h 256 27))) h) ∧ (¬ (J x1) = J 10 → (((J x1) = J 11 → hs h 256 = (0, 11) ∧ Q (some (.int (hF h 256 22))) h) ∧ (¬ (J x1) = J 11 → (((J x1) = J 12 → hs h 256 = (0, 11) ∧ Q (some (.int (hF h 256 1))) h) ∧ (¬ (J x1) = J 12 → Q (some (.int (J (-1)))) h))))))))))))))))))))))))))
  try simp only [aI_wAL, fI_wAL, aL_wA, aL_wF, aI_wA_ne, aI_wF_ne, fI_wA_ne, fI_wF_ne, fI_wF_nk, aL_wAL_ne, J_sameA, J_sameF, aL_same, Nat.add_left_cancel_iff, Nat.add_eq_left, Nat.left_eq_add, not_false_eq_true, Nat.reduceEqDiff, Nat.reduceAdd, J_add, J_sub, J_mul, J_neg, J_and, J_or, J_xor, J_shl, J_shr, J_div, J_i2b, J_i2l, J_l2i, J_lcm, J_max, J_min, J_nab, J_nao, rdA, rdF, rdL, wA_fold, wF_fold, wL_fold, wC_fold]
  obtain ⟨k1, w⟩ := w
  refine ⟨fun c4 => ?_, fun c4 => ?_⟩
  · replace w := w.1 ((Jeq k1 (by decide)).mp c4)
    refine ⟨(ls256 C_h), _, (lr256_20 C_h), ?_⟩
    obtain ⟨k3, w⟩ := w
    refine ⟨congrArg Prod.fst (ls266 C_h), ixs (ls266 C_h) k3 (by decide), ?_⟩
    exact w
  · replace w := w.2 (fun e => c4 ((Jeq k1 (by decide)).mpr e))
    refine ⟨fun c7 => ?_, fun c7 => ?_⟩
    · replace w := w.1 ((Jeq k1 (by decide)).mp c7)
      refine ⟨(ls256 C_h), _, (lr256_20 C_h), ?_⟩
      obtain ⟨k6, w⟩ := w
      refine ⟨congrArg Prod.fst (ls266 C_h), ixs (ls266 C_h) k6 (by decide), ?_⟩
      exact w
    · replace w := w.2 (fun e => c7 ((Jeq k1 (by decide)).mpr e))
      refine ⟨fun c10 => ?_, fun c10 => ?_⟩
      · replace w := w.1 ((Jeq k1 (by decide)).mp c10)
        refine ⟨(ls256 C_h), _, (lr256_20 C_h), ?_⟩
        obtain ⟨k9, w⟩ := w
        refine ⟨congrArg Prod.fst (ls266 C_h), ixs (ls266 C_h) k9 (by decide), ?_⟩
        exact w
      · replace w := w.2 (fun e => c10 ((Jeq k1 (by decide)).mpr e))
        refine ⟨fun c11 => ?_, fun c11 => ?_⟩
        · replace w := w.1 ((Jeq k1 (by decide)).mp c11)
          refine ⟨(ls256 C_h), ?_⟩
          exact w
        · replace w := w.2 (fun e => c11 ((Jeq k1 (by decide)).mpr e))
          refine ⟨fun c12 => ?_, fun c12 => ?_⟩
          · replace w := w.1 ((Jeq k1 (by decide)).mp c12)
            refine ⟨(ls256 C_h), ?_⟩
            exact w
          · replace w := w.2 (fun e => c12 ((Jeq k1 (by decide)).mpr e))
            refine ⟨fun c14 => ?_, fun c14 => ?_⟩
            · replace w := w.1 ((Jeq k1 (by decide)).mp c14)
              refine ⟨(ls256 C_h), _, (lr256_20 C_h), ?_⟩
              refine ⟨congrArg Prod.fst (ls266 C_h), ixs (ls266 C_h) (by decide) (by decide), ?_⟩
              exact w
            · replace w := w.2 (fun e => c14 ((Jeq k1 (by decide)).mpr e))
              refine ⟨fun c21 => ?_, fun c21 => ?_⟩
              · replace w := w.1 ((Jeq k1 (by decide)).mp c21)
                refine ⟨(ls256 C_h), ?_⟩
                obtain ⟨k18, w⟩ := w
                refine m220 (h := h)  C_h (by omega) k18 ?_
                refine ⟨_, rfl, ?_⟩
                try simp only [aI_wAL, fI_wAL, aL_wA, aL_wF, aI_wA_ne, aI_wF_ne, fI_wA_ne, fI_wF_ne, fI_wF_nk, aL_wAL_ne, J_sameA, J_sameF, aL_same, Nat.add_left_cancel_iff, Nat.add_eq_left, Nat.left_eq_add, not_false_eq_true, Nat.reduceEqDiff, Nat.reduceAdd, J_add, J_sub, J_mul, J_neg, J_and, J_or, J_xor, J_shl, J_shr, J_div, J_i2b, J_i2l, J_l2i, J_lcm, J_max, J_min, J_nab, J_nao, rdA, rdF, rdL, wA_fold, wF_fold, wL_fold, wC_fold]
                refine ⟨fun c19 => ?_, fun c19 => ?_⟩
                · have t20 : ¬ (nightP (aI h 266)) := ((bI0 _).mp c19)
                  replace w := w.1 t20
                  exact w
                · have t20 : (nightP (aI h 266)) := (Classical.byContradiction fun n => c19 ((bI0 _).mpr n))
                  replace w := w.2 t20
                  exact w
              · replace w := w.2 (fun e => c21 ((Jeq k1 (by decide)).mpr e))
                refine ⟨fun c26 => ?_, fun c26 => ?_⟩
                · replace w := w.1 ((Jeq k1 (by decide)).mp c26)
                  refine ⟨(ls256 C_h), ?_⟩
                  obtain ⟨k25, w⟩ := w
                  refine m284 (h := h) (w := 3) C_h (by omega) k25 (by decide) ?_
                  refine ⟨_, rfl, ?_⟩
                  try simp only [aI_wAL, fI_wAL, aL_wA, aL_wF, aI_wA_ne, aI_wF_ne, fI_wA_ne, fI_wF_ne, fI_wF_nk, aL_wAL_ne, J_sameA, J_sameF, aL_same, Nat.add_left_cancel_iff, Nat.add_eq_left, Nat.left_eq_add, not_false_eq_true, Nat.reduceEqDiff, Nat.reduceAdd, J_add, J_sub, J_mul, J_neg, J_and, J_or, J_xor, J_shl, J_shr, J_div, J_i2b, J_i2l, J_l2i, J_lcm, J_max, J_min, J_nab, J_nao, rdA, rdF, rdL, wA_fold, wF_fold, wL_fold, wC_fold]
                  exact w
                · replace w := w.2 (fun e => c26 ((Jeq k1 (by decide)).mpr e))
                  refine ⟨fun c31 => ?_, fun c31 => ?_⟩
                  · replace w := w.1 ((Jeq k1 (by decide)).mp c31)
                    refine ⟨(ls256 C_h), ?_⟩
                    obtain ⟨k30, w⟩ := w
                    refine m284 (h := h) (w := 4) C_h (by omega) k30 (by decide) ?_
                    refine ⟨_, rfl, ?_⟩
                    try simp only [aI_wAL, fI_wAL, aL_wA, aL_wF, aI_wA_ne, aI_wF_ne, fI_wA_ne, fI_wF_ne, fI_wF_nk, aL_wAL_ne, J_sameA, J_sameF, aL_same, Nat.add_left_cancel_iff, Nat.add_eq_left, Nat.left_eq_add, not_false_eq_true, Nat.reduceEqDiff, Nat.reduceAdd, J_add, J_sub, J_mul, J_neg, J_and, J_or, J_xor, J_shl, J_shr, J_div, J_i2b, J_i2l, J_l2i, J_lcm, J_max, J_min, J_nab, J_nao, rdA, rdF, rdL, wA_fold, wF_fold, wL_fold, wC_fold]
                    exact w
                  · replace w := w.2 (fun e => c31 ((Jeq k1 (by decide)).mpr e))
                    refine ⟨fun c33 => ?_, fun c33 => ?_⟩
                    · replace w := w.1 ((Jeq k1 (by decide)).mp c33)
                      refine ⟨(ls256 C_h), _, (lr256_20 C_h), ?_⟩
                      refine ⟨congrArg Prod.fst (ls266 C_h), ixs (ls266 C_h) (by decide) (by decide), ?_⟩
                      exact w
                    · replace w := w.2 (fun e => c33 ((Jeq k1 (by decide)).mpr e))
                      refine ⟨fun c34 => ?_, fun c34 => ?_⟩
                      · replace w := w.1 ((Jeq k1 (by decide)).mp c34)
                        refine ⟨(ls256 C_h), ?_⟩
                        exact w
                      · replace w := w.2 (fun e => c34 ((Jeq k1 (by decide)).mpr e))
                        refine ⟨fun c35 => ?_, fun c35 => ?_⟩
                        · replace w := w.1 ((Jeq k1 (by decide)).mp c35)
                          refine ⟨(ls256 C_h), ?_⟩
                          exact w
                        · replace w := w.2 (fun e => c35 ((Jeq k1 (by decide)).mpr e))
                          refine ⟨fun c36 => ?_, fun c36 => ?_⟩
                          · replace w := w.1 ((Jeq k1 (by decide)).mp c36)
                            refine ⟨(ls256 C_h), ?_⟩
                            exact w
                          · replace w := w.2 (fun e => c36 ((Jeq k1 (by decide)).mpr e))
                            exact w
theorem m287 {X : Cst} {d : Nat} {w : Int} {h : AH} {Q : Post} (C : Lay h) (hd : 3 ≤ d) (W : WF 999 (aI h 266)) (g1 : -2147483648 ≤ w ∧ w < 2147483648)
    (k : Q (some (.int (J (anCount (aI h 266) (fI h 256 2) (fI h 256 21) (fI h 256 27) (fI h 256 22) (fI h 256 1) w)))) h) : Ex X PG d 287 0 [some (.ref 256), some (.int (J w))] [] h Q := by
  obtain ⟨d, rfl⟩ : ∃ e, d = e + 1 := ⟨d - 1, by omega⟩
  unfold anCount at k
  refine r287_0 C (by omega) ⟨g1, fun c => ⟨by omega, ?_⟩, fun c0 => ⟨fun c => ⟨by omega, ?_⟩, fun c1 => ⟨fun c => ⟨by omega, ?_⟩, fun c2 => ⟨fun c => ?_, fun c3 => ⟨fun c => ?_, fun c4 => ⟨fun c => ?_, fun c5 => ⟨fun c => ⟨W, fun e => ?_, fun e => ?_⟩, fun c6 => ⟨fun c => ⟨W, ?_⟩, fun c7 => ⟨fun c => ⟨W, ?_⟩, fun c8 => ⟨fun c => ?_, fun c9 => ⟨fun c => ?_, fun c10 => ⟨fun c => ?_, fun c11 => ⟨fun c => ?_, fun c12 => ?_⟩⟩⟩⟩⟩⟩⟩⟩⟩⟩⟩⟩⟩
  · rw [if_pos c] at k; rw [c]; exact k
  · rw [if_neg c0, if_pos c] at k; rw [c]; exact k
  · rw [if_neg c0, if_neg c1, if_pos c] at k; rw [c]; exact k
  · rw [if_neg c0, if_neg c1, if_neg c2, if_pos c] at k; exact k
  · rw [if_neg c0, if_neg c1, if_neg c2, if_neg c3, if_pos c] at k; exact k
  · rw [if_neg c0, if_neg c1, if_neg c2, if_neg c3, if_neg c4, if_pos c] at k; exact k
  · rw [if_neg c0, if_neg c1, if_neg c2, if_neg c3, if_neg c4, if_neg c5, if_pos c, bI_neg e] at k; exact k
  · rw [if_neg c0, if_neg c1, if_neg c2, if_neg c3, if_neg c4, if_neg c5, if_pos c, bI_pos e] at k; exact k
  · rw [if_neg c0, if_neg c1, if_neg c2, if_neg c3, if_neg c4, if_neg c5, if_neg c6, if_pos c] at k; exact k
  · rw [if_neg c0, if_neg c1, if_neg c2, if_neg c3, if_neg c4, if_neg c5, if_neg c6, if_neg c7, if_pos c] at k; exact k
  · rw [if_neg c0, if_neg c1, if_neg c2, if_neg c3, if_neg c4, if_neg c5, if_neg c6, if_neg c7, if_neg c8, if_pos c] at k; exact k
  · rw [if_neg c0, if_neg c1, if_neg c2, if_neg c3, if_neg c4, if_neg c5, if_neg c6, if_neg c7, if_neg c8, if_neg c9, if_pos c] at k; exact k
  · rw [if_neg c0, if_neg c1, if_neg c2, if_neg c3, if_neg c4, if_neg c5, if_neg c6, if_neg c7, if_neg c8, if_neg c9, if_neg c10, if_pos c] at k; exact k
  · rw [if_neg c0, if_neg c1, if_neg c2, if_neg c3, if_neg c4, if_neg c5, if_neg c6, if_neg c7, if_neg c8, if_neg c9, if_neg c10, if_neg c11, if_pos c] at k; exact k
  · rw [if_neg c0, if_neg c1, if_neg c2, if_neg c3, if_neg c4, if_neg c5, if_neg c6, if_neg c7, if_neg c8, if_neg c9, if_neg c10, if_neg c11, if_neg c12] at k; exact k
/-- NOTE: said behind it -/
def notS (S : Int → Int) (n p r : Int) : Int → Int := uu_ (uu_ (uu_ (uu_ S (84 + 3 * S 114) n) (84 + 3 * S 114 + 1) p) (84 + 3 * S 114 + 2) r) 114 (S 114 + 1)
def notP (S : Int → Int) (n p r : Int) : Prop := (0 ≤ n ∧ n ≤ 60) ∧ (0 ≤ p ∧ p < S 2) ∧ (0 ≤ r ∧ r < S 0) ∧ ¬ S 114 = 10
-- OutwardDoorsModel.note(III)I at 0
set_option maxRecDepth 20000 in
set_option maxHeartbeats 4000000 in
theorem r275_0 {X : Cst} {d : Nat} {x1 : Int} {x2 : Int} {x3 : Int} {h : AH} {Q : Post} (C_h : Lay h) (hd : 1 ≤ d)
  (w : (-2147483648 ≤ x1 ∧ x1 < 2147483648) ∧ ((¬ x1 = (-1) → ((¬ (0 ≤ x1 ∧ x1 ≤ 60) → Q (some (.int (J (-2)))) h) ∧ ((0 ≤ x1 ∧ x1 ≤ 60) → (-2147483648 ≤ x2 ∧ x2 < 2147483648) ∧ ((¬ (0 ≤ x2 ∧ x2 < aI h 266 2) → Q (some (.int (J (-2)))) h) ∧ ((0 ≤ x2 ∧ x2 < aI h 266 2) → (-2147483648 ≤ x3 ∧ x3 < 2147483648) ∧ ((¬ (0 ≤ x3 ∧ x3 < aI h 266 0) → Q (some (.int (J (-2)))) h) ∧ ((0 ≤ x3 ∧ x3 < aI h 266 0) → ((¬ aI h 266 114 = 10 → (0 ≤ 84 + (3 * (aI h 266 114)) ∧ 84 + (3 * (aI h 266 114)) < 123) ∧ (0 ≤ (84 + (3 * (aI h 266 114))) + 1 ∧ (84 + (3 * (aI h 266 114))) + 1 < 123) ∧ (0 ≤ (84 + (3 * (aI h 266 114))) + 2 ∧ (84 + (3 * (aI h 266 114))) + 2 < 123) ∧ (-2147483648 ≤ (aI (wA (wA (wA h 266 (84 + (3 * (aI h 266 114))) x1) 266 ((84 + (3 * (aI h 266 114))) + 1) x2) 266 ((84 + (3 * (aI h 266 114))) + 2) x3) 266 114) + 1 ∧ (aI (wA (wA (wA h 266 (84 + (3 * (aI h 266 114))) x1) 266 ((84 + (3 * (aI h 266 114))) + 1) x2) 266 ((84 + (3 * (aI h 266 114))) + 2) x3) 266 114) + 1 < 2147483648) ∧ Q (some (.int (J ((aI (wA (wA (wA h 266 (84 + (3 * (aI h 266 114))) x1) 266 ((84 + (3 * (aI h 266 114))) + 1) x2) 266 ((84 + (3 * (aI h 266 114))) + 2) x3) 266 114) + 1)))) (wA (wA (wA (wA h 266 (84 + (3 * (aI h 266 114))) x1) 266 ((84 + (3 * (aI h 266 114))) + 1) x2) 266 ((84 + (3 * (aI h 266 114))) + 2) x3) 266 114 ((aI (wA (wA (wA h 266 (84 + (3 * (aI h 266 114))) x1) 266 ((84 + (3 * (aI h 266 114))) + 1) x2) 266 ((84 + (3 * (aI h 266 114))) + 2) x3) 266 114) + 1))) ∧ (aI h 266 114 = 10 → Q (some (.int (J (-2)))) h))))))))) ∧ (x1 = (-1) → Q (some (.int (J 0))) (wA h 266 114 0)))) :
    Ex X PG (d + 1) 275 0 [some (.ref 256), some (.int (J x1)), some (.int (J x2)), some (.int (J x3)), none] [] h Q := by
  refine wpx_ok (cut := []) 64 d 275 0 _ _ _ _ ?_
  show ((¬ (J x1) = (J (-1)) → Ex X PG d 186 0 [some (.long (Int32.toInt64 (J x1))), none, some (.long (0 : Int64)), none, some (.long (60 : Int64)), none] [] h (fun v4 h5 => ∃ r6, v4 = some (.int r6) ∧ ((r6 = (J 0) → Q (some (.int (J (-2)))) h5) ∧ (¬ (r6 = (J 0)) → hs h5 256 = (0, 11) ∧ Ex X PG d 213 0 [some (.ref 256), some (.int (J x2))] [] h5 (fun v9 h10 => ∃ r11, v9 = some (.int r11) ∧ ((r11 = (J 0) → Q (some (.int (J (-2)))) h10) ∧ (¬ (r11 = (J 0)) → hs h10 256 = (0, 11) ∧ Ex X PG d 223 0 [some (.ref 256), some (.int (J x3))] [] h10 (fun v15 h16 => ∃ r17, v15 = some (.int r17) ∧ ((r17 = (J 0) → Q (some (.int (J (-2)))) h16) ∧ (¬ (r17 = (J 0)) → hs h16 256 = (0, 11) ∧ ∃ q21, hR h16 256 20 = some q21 ∧ (hs h16 q21).1 = 1 ∧ ix (J 114) (hs h16 q21).2 ∧ ((¬ (hI h16 q21 (Int32.toNatClampNeg (J 114))) = (J 10) → hs h16 256 = (0, 11) ∧ ∃ q24, hR h16 256 20 = some q24 ∧ (hs h16 q24).1 = 1 ∧ ix (J 114) (hs h16 q24).2 ∧ hs h16 256 = (0, 11) ∧ ∃ q25, hR h16 256 20 = some q25 ∧ (hs h16 q25).1 = 1 ∧ ix ((J 84) + ((J 3) * (hI h16 q24 (Int32.toNatClampNeg (J 114))))) (hs h16 q25).2 ∧ hs (wI h16 q25 (Int32.toNatClampNeg ((J 84) + ((J 3) * (hI h16 q24 (Int32.toNatClampNeg (J 114)))))) (J x1)) 256 = (0, 11) ∧ ∃ q27, hR (wI h16 q25 (Int32.toNatClampNeg ((J 84) + ((J 3) * (hI h16 q24 (Int32.toNatClampNeg (J 114)))))) (J x1)) 256 20 = some q27 ∧ (hs (wI h16 q25 (Int32.toNatClampNeg ((J 84) + ((J 3) * (hI h16 q24 (Int32.toNatClampNeg (J 114)))))) (J x1)) q27).1 = 1 ∧ ix (((J 84) + ((J 3) * (hI h16 q24 (Int32.toNatClampNeg (J 114))))) + (J 1)) (hs (wI h16 q25 (Int32.toNatClampNeg ((J 84) + ((J 3) * (hI h16 q24 (Int32.toNatClampNeg (J 114)))))) (J x1)) q27).2 ∧ hs (wI (wI h16 q25 (Int32.toNatClampNeg ((J 84) + ((J 3) * (hI h16 q24 (Int32.toNatClampNeg (J 114)))))) (J x1)) q27 (Int32.toNatClampNeg (((J 84) + ((J 3) * (hI h16 q24 (Int32.toNatClampNeg (J 114))))) + (J 1))) (J x2)) 256 = (0, 11) ∧ ∃ q29, hR (wI (wI h16 q25 (Int32.toNatClampNeg ((J 84) + ((J 3) * (hI h16 q24 (Int32.toNatClampNeg (J 114)))))) (J x1)) q27 (Int32.toNatClampNeg (((J 84) + ((J 3) * (hI h16 q24 (Int32.toNatClampNeg (J 114))))) + (J 1))) (J x2)) 256 20 = some q29 ∧ (hs (wI (wI h16 q25 (Int32.toNatClampNeg ((J 84) + ((J 3) * (hI h16 q24 (Int32.toNatClampNeg (J 114)))))) (J x1)) q27 (Int32.toNatClampNeg (((J 84) + ((J 3) * (hI h16 q24 (Int32.toNatClampNeg (J 114))))) + (J 1))) (J x2)) q29).1 = 1 ∧ ix (((J 84) + ((J 3) * (hI h16 q24 (Int32.toNatClampNeg (J 114))))) + (J 2)) (hs (wI (wI h16 q25 (Int32.toNatClampNeg ((J 84) + ((J 3) * (hI h16 q24 (Int32.toNatClampNeg (J 114)))))) (J x1)) q27 (Int32.toNatClampNeg (((J 84) + ((J 3) * (hI h16 q24 (Int32.toNatClampNeg (J 114))))) + (J 1))) (J x2)) q29).2 ∧ hs (wI (wI (wI h16 q25 (Int32.toNatClampNeg ((J 84) + ((J 3) * (hI h16 q24 (Int32.toNatClampNeg (J 114)))))) (J x1)) q27 (Int32.toNatClampNeg (((J 84) + ((J 3) * (hI h16 q24 (Int32.toNatClampNeg (J 114))))) + (J 1))) (J x2)) q29 (Int32.toNatClampNeg (((J 84) + ((J 3) * (hI h16 q24 (Int32.toNatClampNeg (J 114))))) + (J 2))) (J x3)) 256 = (0, 11) ∧ ∃ q31, hR (wI (wI (wI h16 q25 (Int32.toNatClampNeg ((J 84) + ((J 3) * (hI h16 q24 (Int32.toNatClampNeg (J 114)))))) (J x1)) q27 (Int32.toNatClampNeg (((J 84) + ((J 3) * (hI h16 q24 (Int32.toNatClampNeg (J 114))))) + (J 1))) (J x2)) q29 (Int32.toNatClampNeg (((J 84) + ((J 3) * (hI h16 q24 (Int32.toNatClampNeg (J 114))))) + (J 2))) (J x3)) 256 20 = some q31 ∧ (hs (wI (wI (wI h16 q25 (Int32.toNatClampNeg ((J 84) + ((J 3) * (hI h16 q24 (Int32.toNatClampNeg (J 114)))))) (J x1)) q27 (Int32.toNatClampNeg (((J 84) + ((J 3) * (hI h16 q24 (Int32.toNatClampNeg (J 114))))) + (J 1))) (J x2)) q29 (Int32.toNatClampNeg (((J 84) + ((J 3) * (hI h16 q24 (Int32.toNatClampNeg (J 114))))) + (J 2))) (J x3)) q31).1 = 1 ∧ ix (J 114) (hs (wI (wI (wI h16 q25 (Int32.toNatClampNeg ((J 84) + ((J 3) * (hI h16 q24 (Int32.toNatClampNeg (J 114)))))) (J x1)) q27 (Int32.toNatClampNeg (((J 84) + ((J 3) * (hI h16 q24 (Int32.toNatClampNeg (J 114))))) + (J 1))) (J x2)) q29 (Int32.toNatClampNeg (((J 84) + ((J 3) * (hI h16 q24 (Int32.toNatClampNeg (J 114))))) + (J 2))) (J x3)) q31).2 ∧ (hs (wI (wI (wI h16 q25 (Int32.toNatClampNeg ((J 84) + ((J 3) * (hI h16 q24 (Int32.toNatClampNeg (J 114)))))) (J x1)) q27 (Int32.toNatClampNeg (((J 84) + ((J 3) * (hI h16 q24 (Int32.toNatClampNeg (J 114))))) + (J 1))) (J x2)) q29 (Int32.toNatClampNeg (((J 84) + ((J 3) * (hI h16 q24 (Int32.toNatClampNeg (J 114))))) + (J 2))) (J x3)) q31).1 = 1 ∧ ix (J 114) (hs (wI (wI (wI h16 q25 (Int32.toNatClampNeg ((J 84) + ((J 3) * (hI h16 q24 (Int32.toNatClampNeg (J 114)))))) (J x1)) q27 (Int32.toNatClampNeg (((J 84) + ((J 3) * (hI h16 q24 (Int32.toNatClampNeg (J 114))))) + (J 1))) (J x2)) q29 (Int32.toNatClampNeg (((J 84) + ((J 3) * (hI h16 q24 (Int32.toNatClampNeg (J 114))))) + (J 2))) (J x3)) q31).2 ∧ hs (wI (wI (wI (wI h16 q25 (Int32.toNatClampNeg ((J 84) + ((J 3) * (hI h16 q24 (Int32.toNatClampNeg (J 114)))))) (J x1)) q27 (Int32.toNatClampNeg (((J 84) + ((J 3) * (hI h16 q24 (Int32.toNatClampNeg (J 114))))) + (J 1))) (J x2)) q29 (Int32.toNatClampNeg (((J 84) + ((J 3) * (hI h16 q24 (Int32.toNatClampNeg (J 114))))) + (J 2))) (J x3)) q31 (Int32.toNatClampNeg (J 114)) ((hI (wI (wI (wI h16 q25 (Int32.toNatClampNeg ((J 84) + ((J 3) * (hI h16 q24 (Int32.toNatClampNeg (J 114)))))) (J x1)) q27 (Int32.toNatClampNeg (((J 84) + ((J 3) * (hI h16 q24 (Int32.toNatClampNeg (J 114))))) + (J 1))) (J x2)) q29 (Int32.toNatClampNeg (((J 84) + ((J 3) * (hI h16 q24 (Int32.toNatClampNeg (J 114))))) + (J 2))) (J x3)) q31 (Int32.toNatClampNeg (J 114))) + (J 1))) 256 = (0, 11) ∧ ∃ q32, hR (wI (wI (wI (wI h16 q25 (Int32.toNatClampNeg ((J 84) + ((J 3) * (hI h16 q24 (Int32.toNatClampNeg (J 114)))))) (J x1)) q27 (Int32.toNatClampNeg (((J 84) + ((J 3) * (hI h16 q24 (Int32.toNatClampNeg (J 114))))) + (J 1))) (J x2)) q29 (Int32.toNatClampNeg (((J 84) + ((J 3) * (hI h16 q24 (Int32.toNatClampNeg (J 114))))) + (J 2))) (J x3)) q31 (Int32.toNatClampNeg (J 114)) ((hI (wI (wI (wI h16 q25 (Int32.toNatClampNeg ((J 84) + ((J 3) * (hI h16 q24 (Int32.toNatClampNeg (J 114)))))) (J x1)) q27 (Int32.toNatClampNeg (((J 84) + ((J 3) * (hI h16 q24 (Int32.toNatClampNeg (J 114))))) + (J 1))) (J x2)) q29 (Int32.toNatClampNeg (((J 84) + ((J 3) * (hI h16 q24 (Int32.toNatClampNeg (J 114))))) + (J 2))) (J x3)) q31 (Int32.toNatClampNeg (J 114))) + (J 1))) 256 20 = some q32 ∧ (hs (wI (wI (wI (wI h16 q25 (Int32.toNatClampNeg ((J 84) + ((J 3) * (hI h16 q24 (Int32.toNatClampNeg (J 114)))))) (J x1)) q27 (Int32.toNatClampNeg (((J 84) + ((J 3) * (hI h16 q24 (Int32.toNatClampNeg (J 114))))) + (J 1))) (J x2)) q29 (Int32.toNatClampNeg (((J 84) + ((J 3) * (hI h16 q24 (Int32.toNatClampNeg (J 114))))) + (J 2))) (J x3)) q31 (Int32.toNatClampNeg (J 114)) ((hI (wI (wI (wI h16 q25 (Int32.toNatClampNeg ((J 84) + ((J 3) * (hI h16 q24 (Int32.toNatClampNeg (J 114)))))) (J x1)) q27 (Int32.toNatClampNeg (((J 84) + ((J 3) * (hI h16 q24 (Int32.toNatClampNeg (J 114))))) + (J 1))) (J x2)) q29 (Int32.toNatClampNeg (((J 84) + ((J 3) * (hI h16 q24 (Int32.toNatClampNeg (J 114))))) + (J 2))) (J x3)) q31 (Int32.toNatClampNeg (J 114))) + (J 1))) q32).1 = 1 ∧ ix (J 114) (hs (wI (wI (wI (wI h16 q25 (Int32.toNatClampNeg ((J 84) + ((J 3) * (hI h16 q24 (Int32.toNatClampNeg (J 114)))))) (J x1)) q27 (Int32.toNatClampNeg (((J 84) + ((J 3) * (hI h16 q24 (Int32.toNatClampNeg (J 114))))) + (J 1))) (J x2)) q29 (Int32.toNatClampNeg (((J 84) + ((J 3) * (hI h16 q24 (Int32.toNatClampNeg (J 114))))) + (J 2))) (J x3)) q31 (Int32.toNatClampNeg (J 114)) ((hI (wI (wI (wI h16 q25 (Int32.toNatClampNeg ((J 84) + ((J 3) * (hI h16 q24 (Int32.toNatClampNeg (J 114)))))) (J x1)) q27 (Int32.toNatClampNeg (((J 84) + ((J 3) * (hI h16 q24 (Int32.toNatClampNeg (J 114))))) + (J 1))) (J x2)) q29 (Int32.toNatClampNeg (((J 84) + ((J 3) * (hI h16 q24 (Int32.toNatClampNeg (J 114))))) + (J 2))) (J x3)) q31 (Int32.toNatClampNeg (J 114))) + (J 1))) q32).2 ∧ Q (some (.int (hI (wI (wI (wI (wI h16 q25 (Int32.toNatClampNeg ((J 84) + ((J 3) * (hI h16 q24 (Int32.toNatClampNeg (J 114)))))) (J x1)) q27 (Int32.toNatClampNeg (((J 84) + ((J 3) * (hI h16 q24 (Int32.toNatClampNeg (J 114))))) + (J 1))) (J x2)) q29 (Int32.toNatClampNeg (((J 84) + ((J 3) * (hI h16 q24 (Int32.toNatClampNeg (J 114))))) + (J 2))) (J x3)) q31 (Int32.toNatClampNeg (J 114)) ((hI (wI (wI (wI h16 q25 (Int32.toNatClampNeg ((J 84) + ((J 3) * (hI h16 q24 (Int32.toNatClampNeg (J 114)))))) (J x1)) q27 (Int32.toNatClampNeg (((J 84) + ((J 3) * (hI h16 q24 (Int32.toNatClampNeg (J 114))))) + (J 1))) (J x2)) q29 (Int32.toNatClampNeg (((J 84) + ((J 3) * (hI h16 q24 (Int32.toNatClampNeg (J 114))))) + (J 2))) (J x3)) q31 (Int32.toNatClampNeg (J 114))) + (J 1))) q32 (Int32.toNatClampNeg (J 114))))) (wI (wI (wI (wI h16 q25 (Int32.toNatClampNeg ((J 84) + ((J 3) * (hI h16 q24 (Int32.toNatClampNeg (J 114)))))) (J x1)) q27 (Int32.toNatClampNeg (((J 84) + ((J 3) * (hI h16 q24 (Int32.toNatClampNeg (J 114))))) + (J 1))) (J x2)) q29 (Int32.toNatClampNeg (((J 84) + ((J 3) * (hI h16 q24 (Int32.toNatClampNeg (J 114))))) + (J 2))) (J x3)) q31 (Int32.toNatClampNeg (J 114)) ((hI (wI (wI (wI h16 q25 (Int32.toNatClampNeg ((J 84) + ((J 3) * (hI h16 q24 (Int32.toNatClampNeg (J 114)))))) (J x1)) q27 (Int32.toNatClampNeg (((J 84) + ((J 3) * (hI h16 q24 (Int32.toNatClampNeg (J 114))))) + (J 1))) (J x2)) q29 (Int32.toNatClampNeg (((J 84) + ((J 3) * (hI h16 q24 (Int32.toNatClampNeg (J 114))))) + (J 2))) (J x3)) q31 (Int32.toNatClampNeg (J 114))) + (J 1)))) ∧ (¬ (¬ (hI h16 q21 (Int32.toNatClampNeg (J 114))) = (J 10)) → Q (some (.int (J (-2)))) h16)))))))))))) ∧ (¬ (¬ (J x1) = (J (-1))) → hs h 256 = (0, 11) ∧ ∃ q34, hR h 256 20 = some q34 ∧ (hs h q34).1 = 1 ∧ ix (J 114) (hs h q34).2 ∧ Q (some (.int (J 0))) (wI h q34 (Int32.toNatClampNeg (J 114)) (J 0))))
  try simp only [aI_wAL, fI_wAL, aL_wA, aL_wF, aI_wA_ne, aI_wF_ne, fI_wA_ne, fI_wF_ne, fI_wF_nk, aL_wAL_ne, J_sameA, J_sameF, aL_same, Nat.add_left_cancel_iff, Nat.add_eq_left, Nat.left_eq_add, not_false_eq_true, Nat.reduceEqDiff, Nat.reduceAdd, J_add, J_sub, J_mul, J_neg, J_and, J_or, J_xor, J_shl, J_shr, J_div, J_i2b, J_i2l, J_l2i, J_lcm, J_max, J_min, J_nab, J_nao, rdA, rdF, rdL, wA_fold, wF_fold, wL_fold, wC_fold]
  obtain ⟨k3, w⟩ := w
  refine ⟨fun c1 => ?_, fun c1 => ?_⟩
  · have t2 : ¬ x1 = (-1) := (fun e => c1 ((Jeq k3 (by decide)).mpr e))
    replace w := w.1 t2
    refine m186 (h := h) (v := x1) (lo := 0) (hi := 60) C_h (by omega) k3 (by decide) (by decide) ?_
    refine ⟨_, rfl, ?_⟩
    try simp only [aI_wAL, fI_wAL, aL_wA, aL_wF, aI_wA_ne, aI_wF_ne, fI_wA_ne, fI_wF_ne, fI_wF_nk, aL_wAL_ne, J_sameA, J_sameF, aL_same, Nat.add_left_cancel_iff, Nat.add_eq_left, Nat.left_eq_add, not_false_eq_true, Nat.reduceEqDiff, Nat.reduceAdd, J_add, J_sub, J_mul, J_neg, J_and, J_or, J_xor, J_shl, J_shr, J_div, J_i2b, J_i2l, J_l2i, J_lcm, J_max, J_min, J_nab, J_nao, rdA, rdF, rdL, wA_fold, wF_fold, wL_fold, wC_fold]
    refine ⟨fun c7 => ?_, fun c7 => ?_⟩
    · have t8 : ¬ (0 ≤ x1 ∧ x1 ≤ 60) := ((bI0 _).mp c7)
      replace w := w.1 t8
      exact w
    · have t8 : (0 ≤ x1 ∧ x1 ≤ 60) := (Classical.byContradiction fun n => c7 ((bI0 _).mpr n))
      replace w := w.2 t8
      refine ⟨(ls256 C_h), ?_⟩
      obtain ⟨k12, w⟩ := w
      refine m213 (h := h) (x := x2) C_h (by omega) k12 ?_
      refine ⟨_, rfl, ?_⟩
      try simp only [aI_wAL, fI_wAL, aL_wA, aL_wF, aI_wA_ne, aI_wF_ne, fI_wA_ne, fI_wF_ne, fI_wF_nk, aL_wAL_ne, J_sameA, J_sameF, aL_same, Nat.add_left_cancel_iff, Nat.add_eq_left, Nat.left_eq_add, not_false_eq_true, Nat.reduceEqDiff, Nat.reduceAdd, J_add, J_sub, J_mul, J_neg, J_and, J_or, J_xor, J_shl, J_shr, J_div, J_i2b, J_i2l, J_l2i, J_lcm, J_max, J_min, J_nab, J_nao, rdA, rdF, rdL, wA_fold, wF_fold, wL_fold, wC_fold]
      refine ⟨fun c13 => ?_, fun c13 => ?_⟩
      · have t14 : ¬ (0 ≤ x2 ∧ x2 < aI h 266 2) := ((bI0 _).mp c13)
        replace w := w.1 t14
        exact w
      · have t14 : (0 ≤ x2 ∧ x2 < aI h 266 2) := (Classical.byContradiction fun n => c13 ((bI0 _).mpr n))
        replace w := w.2 t14
        refine ⟨(ls256 C_h), ?_⟩
        obtain ⟨k18, w⟩ := w
        refine m223 (h := h) (x := x3) C_h (by omega) k18 ?_
        refine ⟨_, rfl, ?_⟩
        try simp only [aI_wAL, fI_wAL, aL_wA, aL_wF, aI_wA_ne, aI_wF_ne, fI_wA_ne, fI_wF_ne, fI_wF_nk, aL_wAL_ne, J_sameA, J_sameF, aL_same, Nat.add_left_cancel_iff, Nat.add_eq_left, Nat.left_eq_add, not_false_eq_true, Nat.reduceEqDiff, Nat.reduceAdd, J_add, J_sub, J_mul, J_neg, J_and, J_or, J_xor, J_shl, J_shr, J_div, J_i2b, J_i2l, J_l2i, J_lcm, J_max, J_min, J_nab, J_nao, rdA, rdF, rdL, wA_fold, wF_fold, wL_fold, wC_fold]
        refine ⟨fun c19 => ?_, fun c19 => ?_⟩
        · have t20 : ¬ (0 ≤ x3 ∧ x3 < aI h 266 0) := ((bI0 _).mp c19)
          replace w := w.1 t20
          exact w
        · have t20 : (0 ≤ x3 ∧ x3 < aI h 266 0) := (Classical.byContradiction fun n => c19 ((bI0 _).mpr n))
          replace w := w.2 t20
          refine ⟨(ls256 C_h), _, (lr256_20 C_h), ?_⟩
          refine ⟨congrArg Prod.fst (ls266 C_h), ixs (ls266 C_h) (by decide) (by decide), ?_⟩
          refine ⟨fun c22 => ?_, fun c22 => ?_⟩
          · have t23 : ¬ aI h 266 114 = 10 := (fun e => c22 ((Jeq (rg_toInt _) (by decide)).mpr e))
            replace w := w.1 t23
            refine ⟨(ls256 C_h), _, (lr256_20 C_h), ?_⟩
            refine ⟨congrArg Prod.fst (ls266 C_h), ixs (ls266 C_h) (by decide) (by decide), ?_⟩
            refine ⟨(ls256 C_h), _, (lr256_20 C_h), ?_⟩
            obtain ⟨k26, w⟩ := w
            refine ⟨congrArg Prod.fst (ls266 C_h), ixs (ls266 C_h) k26 (by decide), ?_⟩
            refine ⟨(ls256 C_h), _, (lr256_20 C_h), ?_⟩
            obtain ⟨k28, w⟩ := w
            refine ⟨congrArg Prod.fst (ls266 C_h), ixs (ls266 C_h) k28 (by decide), ?_⟩
            refine ⟨(ls256 C_h), _, (lr256_20 C_h), ?_⟩
            obtain ⟨k30, w⟩ := w
            refine ⟨congrArg Prod.fst (ls266 C_h), ixs (ls266 C_h) k30 (by decide), ?_⟩
            refine ⟨(ls256 C_h), _, (lr256_20 C_h), ?_⟩
            refine ⟨congrArg Prod.fst (ls266 C_h), ixs (ls266 C_h) (by decide) (by decide), ?_⟩
            refine ⟨congrArg Prod.fst (ls266 C_h), ixs (ls266 C_h) (by decide) (by decide), ?_⟩
            refine ⟨(ls256 C_h), _, (lr256_20 C_h), ?_⟩
            refine ⟨congrArg Prod.fst (ls266 C_h), ixs (ls266 C_h) (by decide) (by decide), ?_⟩
            obtain ⟨k33, w⟩ := w
            try simp only [aI_wAL, fI_wAL, aL_wA, aL_wF, aI_wA_ne, aI_wF_ne, fI_wA_ne, fI_wF_ne, fI_wF_nk, aL_wAL_ne, J_sameA, J_sameF, aL_same, Nat.add_left_cancel_iff, Nat.add_eq_left, Nat.left_eq_add, not_false_eq_true, Nat.reduceEqDiff, Nat.reduceAdd, same_aI k33]
            exact w
          · have t23 : aI h 266 114 = 10 := ((Jeq (rg_toInt _) (by decide)).mp (Classical.byContradiction c22))
            replace w := w.2 t23
            exact w
  · have t2 : x1 = (-1) := ((Jeq k3 (by decide)).mp (Classical.byContradiction c1))
    replace w := w.2 t2
    refine ⟨(ls256 C_h), _, (lr256_20 C_h), ?_⟩
    refine ⟨congrArg Prod.fst (ls266 C_h), ixs (ls266 C_h) (by decide) (by decide), ?_⟩
    exact w
theorem m275 {X : Cst} {d : Nat} {n p r : Int} {h : AH} {Q : Post} (C : Lay h) (hd : 2 ≤ d) (W : WF 999 (aI h 266)) (g1 : -2147483648 ≤ n ∧ n < 2147483648) (g2 : -2147483648 ≤ p ∧ p < 2147483648) (g3 : -2147483648 ≤ r ∧ r < 2147483648)
    (kn : n = -1 → ∀ h', Fr (fun c _ => c = 266) h h' → aI h' 266 = uu_ (aI h 266) 114 0 → Q (some (.int (J 0))) h')
    (k0 : ¬ n = -1 → ¬ notP (aI h 266) n p r → Q (some (.int (J (-2)))) h)
    (k : ¬ n = -1 → notP (aI h 266) n p r → ∀ h', Fr (fun c _ => c = 266) h h' → aI h' 266 = notS (aI h 266) n p r → Q (some (.int (J (aI h 266 114 + 1)))) h') : Ex X PG d 275 0 [some (.ref 256), some (.int (J n)), some (.int (J p)), some (.int (J r)), none] [] h Q := by
  obtain ⟨d, rfl⟩ : ∃ e, d = e + 1 := ⟨d - 1, by omega⟩
  have b := W.1
  unfold WFb at b
  have nn := W.2.2.2.2.2.1
  have n0 := nn.1
  have n1 := nn.2.1
  refine r275_0 C (by omega) ⟨g1, fun c => ⟨fun c1 => k0 c (fun z => c1 z.1), fun c1 => ⟨g2, fun c2 => k0 c (fun z => c2 z.2.1), fun c2 => ⟨g3, fun c3 => k0 c (fun z => c3 z.2.2.1), fun c3 => ⟨fun c4 => ?_, fun c4 => k0 c (fun z => z.2.2.2 c4)⟩⟩⟩⟩, fun c => ?_⟩
  · have r3 : aI (wA (wA (wA h 266 (84 + 3 * aI h 266 114) n) 266 (84 + 3 * aI h 266 114 + 1) p) 266 (84 + 3 * aI h 266 114 + 2) r) 266 = uu_ (uu_ (uu_ (aI h 266) (84 + 3 * aI h 266 114) n) (84 + 3 * aI h 266 114 + 1) p) (84 + 3 * aI h 266 114 + 2) r := by rw [aI_wA g3, aI_wA g2, aI_wA g1]
    have v : aI (wA (wA (wA h 266 (84 + 3 * aI h 266 114) n) 266 (84 + 3 * aI h 266 114 + 1) p) 266 (84 + 3 * aI h 266 114 + 2) r) 266 114 = aI h 266 114 := by
      rw [r3, uu_ne (by omega) (by omega) (by omega), uu_ne (by omega) (by omega) (by omega), uu_ne (by omega) (by omega) (by omega)]
    rw [v]
    refine ⟨by omega, by omega, by omega, by omega, ?_⟩
    refine k c ⟨c1, c2, c3, c4⟩ _ (((((Fr.rf (T := fun c _ => c = 266)).wA rfl).wA rfl).wA rfl).wA rfl) ?_
    rw [aI_wA (by omega), r3]; rfl
  · refine kn c _ ((Fr.rf (T := fun c _ => c = 266)).wA rfl) ?_
    rw [aI_wA (by decide)]
