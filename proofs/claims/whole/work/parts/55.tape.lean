/-! THE TAPE, fed: reference and class. -/
def byv (v s : Int) : Int := nab (i2b (shr v (iand s 31)))
def put4 (A : Int → Int) (l v : Int) : Int → Int := uu_ (uu_ (uu_ (uu_ A l (byv v 24)) (l + 1) (byv v 16)) (l + 2) (byv v 8)) (l + 3) (byv v 0)
def put20 (A : Int → Int) (l a b c d e : Int) : Int → Int := put4 (put4 (put4 (put4 (put4 A l a) (l + 4) b) (l + 8) c) (l + 12) d) (l + 16) e
theorem byv_rg (v s : Int) : -2147483648 ≤ byv v s ∧ byv v s < 2147483648 := rg_toInt _
-- OutwardDoorsModel.four(I)V at 0
set_option maxRecDepth 20000 in
set_option maxHeartbeats 4000000 in
theorem r170_0 {X : Cst} {d : Nat} {x1 : Int} {h : AH} {Q : Post} (C_h : Lay h)
  (w : Ex X PG (d + 1) 170 3 [some (.ref 256), some (.int (J x1)), some (.int (J 24))] [] h Q) :
    Ex X PG (d + 1) 170 0 [some (.ref 256), some (.int (J x1)), none] [] h Q := by
  refine wpx_ok (cut := [3]) 2 d 170 0 _ _ _ _ ?_
  show Ex X PG (d + 1) 170 3 [some (.ref 256), some (.int (J x1)), some (.int (J 24))] [] h Q
  try simp only [aI_wAL, fI_wAL, aL_wA, aL_wF, aI_wA_ne, aI_wF_ne, fI_wA_ne, fI_wF_ne, fI_wF_nk, aL_wAL_ne, J_sameA, J_sameF, aL_same, Nat.add_left_cancel_iff, Nat.add_eq_left, Nat.left_eq_add, not_false_eq_true, Nat.reduceEqDiff, Nat.reduceAdd, J_add, J_sub, J_mul, J_neg, J_and, J_or, J_xor, J_shl, J_shr, J_div, J_i2b, J_i2l, J_l2i, J_lcm, J_max, J_min, J_nab, J_nao, rdA, rdF, rdL, wA_fold, wF_fold, wL_fold, wC_fold]
  exact w
-- OutwardDoorsModel.four(I)V at 3
set_option maxRecDepth 20000 in
set_option maxHeartbeats 4000000 in
theorem r170_3 {X : Cst} {d : Nat} {x1 : Int} {x2 : Int} {h : AH} {Q : Post} (C_h : Lay h)
  (w : (-2147483648 ≤ x2 ∧ x2 < 2147483648) ∧ ((x2 < 0 → Q none h) ∧ (¬ x2 < 0 → (0 ≤ fI h 256 1 ∧ fI h 256 1 < 400) ∧ Ex X PG (d + 1) 170 3 [some (.ref 256), some (.int (J x1)), some (.int (J (x2 + (-8))))] [] (wF (wA h 257 (fI h 256 1) (nab (i2b (shr x1 (iand x2 31))))) 256 1 ((fI h 256 1) + 1)) Q))) :
    Ex X PG (d + 1) 170 3 [some (.ref 256), some (.int (J x1)), some (.int (J x2))] [] h Q := by
  refine wpx_ok (cut := [3]) 19 d 170 3 _ _ _ _ ?_
  show (((J x2) < (J 0) → Q none h) ∧ (¬ ((J x2) < (J 0)) → hs h 256 = (0, 11) ∧ ∃ q4, hR h 256 0 = some q4 ∧ hs h 256 = (0, 11) ∧ (((hs h q4).1 = 3 ∧ ix (hF h 256 1) (hs h q4).2 ∧ hs (wI h q4 (Int32.toNatClampNeg (hF h 256 1)) (vp_nar .byte ((Int32.toInt8 ((J x1) >>> ((J x2) &&& J 31))).toInt32))) 256 = (0, 11) ∧ hs (wI h q4 (Int32.toNatClampNeg (hF h 256 1)) (vp_nar .byte ((Int32.toInt8 ((J x1) >>> ((J x2) &&& J 31))).toInt32))) 256 = (0, 11) ∧ Ex X PG (d + 1) 170 3 [some (.ref 256), some (.int (J x1)), some (.int ((J x2) + (J (-8))))] [] (wG (wI h q4 (Int32.toNatClampNeg (hF h 256 1)) (vp_nar .byte ((Int32.toInt8 ((J x1) >>> ((J x2) &&& J 31))).toInt32))) 256 1 ((hF (wI h q4 (Int32.toNatClampNeg (hF h 256 1)) (vp_nar .byte ((Int32.toInt8 ((J x1) >>> ((J x2) &&& J 31))).toInt32))) 256 1) + (J 1))) Q) ∨ ((hs h q4).1 = 4 ∧ ix (hF h 256 1) (hs h q4).2 ∧ hs (wI h q4 (Int32.toNatClampNeg (hF h 256 1)) (vp_nar .boolean ((Int32.toInt8 ((J x1) >>> ((J x2) &&& J 31))).toInt32))) 256 = (0, 11) ∧ hs (wI h q4 (Int32.toNatClampNeg (hF h 256 1)) (vp_nar .boolean ((Int32.toInt8 ((J x1) >>> ((J x2) &&& J 31))).toInt32))) 256 = (0, 11) ∧ Ex X PG (d + 1) 170 3 [some (.ref 256), some (.int (J x1)), some (.int ((J x2) + (J (-8))))] [] (wG (wI h q4 (Int32.toNatClampNeg (hF h 256 1)) (vp_nar .boolean ((Int32.toInt8 ((J x1) >>> ((J x2) &&& J 31))).toInt32))) 256 1 ((hF (wI h q4 (Int32.toNatClampNeg (hF h 256 1)) (vp_nar .boolean ((Int32.toInt8 ((J x1) >>> ((J x2) &&& J 31))).toInt32))) 256 1) + (J 1))) Q))))
  try simp only [aI_wAL, fI_wAL, aL_wA, aL_wF, aI_wA_ne, aI_wF_ne, fI_wA_ne, fI_wF_ne, fI_wF_nk, aL_wAL_ne, J_sameA, J_sameF, aL_same, Nat.add_left_cancel_iff, Nat.add_eq_left, Nat.left_eq_add, not_false_eq_true, Nat.reduceEqDiff, Nat.reduceAdd, J_add, J_sub, J_mul, J_neg, J_and, J_or, J_xor, J_shl, J_shr, J_div, J_i2b, J_i2l, J_l2i, J_lcm, J_max, J_min, J_nab, J_nao, rdA, rdF, rdL, wA_fold, wF_fold, wL_fold, wC_fold]
  obtain ⟨k3, w⟩ := w
  refine ⟨fun c1 => ?_, fun c1 => ?_⟩
  · have t2 : x2 < 0 := ((Jlt k3 (by decide)).mp c1)
    replace w := w.1 t2
    exact w
  · have t2 : ¬ x2 < 0 := (fun e => c1 ((Jlt k3 (by decide)).mpr e))
    replace w := w.2 t2
    refine ⟨(ls256 C_h), _, (lr256_0 C_h), ?_⟩
    refine ⟨(ls256 C_h), ?_⟩
    obtain ⟨k5, w⟩ := w
    refine Or.inl ⟨congrArg Prod.fst (ls257 C_h), ixs (ls257 C_h) k5 (by decide), ?_⟩
    refine ⟨(ls256 C_h), ?_⟩
    refine ⟨(ls256 C_h), ?_⟩
    exact w
theorem m170 {X : Cst} {d : Nat} {v l : Int} {h : AH} {Q : Post} (C : Lay h) (hd : 1 ≤ d) (el : fI h 256 1 = l) (hl : 0 ≤ l ∧ l + 4 ≤ 400)
    (k : ∀ h', SH h h' → (Fr (fun c j => c = 257 ∨ (c = 256 ∧ j = 1)) h h' ∧ fI h' 256 1 = l + 4 ∧ aI h' 257 = put4 (aI h 257) l v) → Q none h') : Ex X PG d 170 0 [some (.ref 256), some (.int (J v)), none] [] h Q := by
  obtain ⟨d, rfl⟩ : ∃ e, d = e + 1 := ⟨d - 1, by omega⟩
  have st : ∀ (s m : Int) (h' : AH), 0 ≤ s ∧ s ≤ 24 → 0 ≤ m ∧ m < 400 → Lay h' → fI h' 256 1 = m → Ex X PG (d + 1) 170 3 [some (.ref 256), some (.int (J v)), some (.int (J (s + -8)))] [] (wF (wA h' 257 m (byv v s)) 256 1 (m + 1)) Q → Ex X PG (d + 1) 170 3 [some (.ref 256), some (.int (J v)), some (.int (J s))] [] h' Q := by
    intro s m h' hs hm C' em w
    refine r170_3 C' ⟨by omega, fun c => absurd c (by omega), fun _ => ?_⟩
    rw [em]
    exact ⟨by omega, w⟩
  have s1 : ∀ (m : Int) (h' : AH) (x : Int), Fr (fun c j => c = 257 ∨ (c = 256 ∧ j = 1)) h h' → -2147483648 ≤ m + 1 ∧ m + 1 < 2147483648 → Fr (fun c j => c = 257 ∨ (c = 256 ∧ j = 1)) h (wF (wA h' 257 m x) 256 1 (m + 1)) ∧ fI (wF (wA h' 257 m x) 256 1 (m + 1)) 256 1 = m + 1 := fun m h' x F g => ⟨(F.wA (Or.inl rfl)).wF (Or.inr ⟨rfl, rfl⟩), fI_wF_eq g⟩
  have a1 : ∀ (m : Int) (h' : AH) (s : Int), aI (wF (wA h' 257 m (byv v s)) 256 1 (m + 1)) 257 = uu_ (aI h' 257) m (byv v s) := fun m h' s => by rw [aI_wF_ne (by decide), aI_wA (byv_rg _ _)]
  refine r170_0 C ?_
  obtain ⟨F1, e1⟩ := s1 l h (byv v 24) Fr.rf (by omega)
  refine st 24 l h (by omega) (by omega) C el ?_
  obtain ⟨F2, e2⟩ := s1 (l + 1) _ (byv v 16) F1 (by omega)
  refine st 16 (l + 1) _ (by omega) (by omega) (F1.C C) e1 ?_
  obtain ⟨F3, e3⟩ := s1 (l + 1 + 1) _ (byv v 8) F2 (by omega)
  refine st 8 (l + 1 + 1) _ (by omega) (by omega) (F2.C C) e2 ?_
  obtain ⟨F4, e4⟩ := s1 (l + 1 + 1 + 1) _ (byv v 0) F3 (by omega)
  refine st 0 (l + 1 + 1 + 1) _ (by omega) (by omega) (F3.C C) e3 ?_
  refine r170_3 (F4.C C) ⟨by decide, fun _ => ?_, fun c => absurd (by decide) c⟩
  refine k _ F4.1 ⟨F4, by rw [e4]; omega, ?_⟩
  rw [a1, a1, a1, a1]
  unfold put4
  rw [show l + 1 + 1 = l + 2 by omega, show l + 2 + 1 = l + 3 by omega]
-- OutwardDoorsModel.feed(IIIII)I at 0
set_option maxRecDepth 20000 in
set_option maxHeartbeats 4000000 in
theorem r169_0 {X : Cst} {d : Nat} {x1 : Int} {x2 : Int} {x3 : Int} {x4 : Int} {x5 : Int} {h : AH} {Q : Post} (C_h : Lay h)
  (w : (-2147483648 ≤ (fI h 256 1) + 20 ∧ (fI h 256 1) + 20 < 2147483648) ∧ (((fI h 256 1) + 20 ≤ 400 → Ex X PG d 170 0 [some (.ref 256), some (.int (J x1)), none] [] h (fun v4 h5 => v4 = none ∧ SH h h5 ∧ Ex X PG d 170 0 [some (.ref 256), some (.int (J x2)), none] [] h5 (fun v6 h7 => v6 = none ∧ SH h5 h7 ∧ Ex X PG d 170 0 [some (.ref 256), some (.int (J x3)), none] [] h7 (fun v8 h9 => v8 = none ∧ SH h7 h9 ∧ Ex X PG d 170 0 [some (.ref 256), some (.int (J x4)), none] [] h9 (fun v10 h11 => v10 = none ∧ SH h9 h11 ∧ Ex X PG d 170 0 [some (.ref 256), some (.int (J x5)), none] [] h11 (fun v12 h13 => v12 = none ∧ SH h11 h13 ∧ Q (some (.int (J (fI h13 256 1)))) h13)))))) ∧ (¬ (fI h 256 1) + 20 ≤ 400 → Q (some (.int (J (-1)))) h))) :
    Ex X PG (d + 1) 169 0 [some (.ref 256), some (.int (J x1)), some (.int (J x2)), some (.int (J x3)), some (.int (J x4)), some (.int (J x5))] [] h Q := by
  refine wpx_ok (cut := []) 24 d 169 0 _ _ _ _ ?_
  show hs h 256 = (0, 11) ∧ ((((hF h 256 1) + (J 20)) ≤ (J 400) → hs h 256 = (0, 11) ∧ Ex X PG d 170 0 [some (.ref 256), some (.int (J x1)), none] [] h (fun v4 h5 => v4 = none ∧ hs h5 256 = (0, 11) ∧ Ex X PG d 170 0 [some (.ref 256), some (.int (J x2)), none] [] h5 (fun v6 h7 => v6 = none ∧ hs h7 256 = (0, 11) ∧ Ex X PG d 170 0 [some (.ref 256), some (.int (J x3)), none] [] h7 (fun v8 h9 => v8 = none ∧ hs h9 256 = (0, 11) ∧ Ex X PG d 170 0 [some (.ref 256), some (.int (J x4)), none] [] h9 (fun v10 h11 => v10 = none ∧ hs h11 256 = (0, 11) ∧ Ex X PG d 170 0 [some (.ref 256), some (.int (J x5)), none] [] h11 (fun v12 h13 => v12 = none ∧ hs h13 256 = (0, 11) ∧ Q (some (.int (hF h13 256 1))) h13)))))) ∧ (¬ (((hF h 256 1) + (J 20)) ≤ (J 400)) → Q (some (.int (J (-1)))) h))
  try simp only [aI_wAL, fI_wAL, aL_wA, aL_wF, aI_wA_ne, aI_wF_ne, fI_wA_ne, fI_wF_ne, fI_wF_nk, aL_wAL_ne, J_sameA, J_sameF, aL_same, Nat.add_left_cancel_iff, Nat.add_eq_left, Nat.left_eq_add, not_false_eq_true, Nat.reduceEqDiff, Nat.reduceAdd, J_add, J_sub, J_mul, J_neg, J_and, J_or, J_xor, J_shl, J_shr, J_div, J_i2b, J_i2l, J_l2i, J_lcm, J_max, J_min, J_nab, J_nao, rdA, rdF, rdL, wA_fold, wF_fold, wL_fold, wC_fold]
  refine ⟨(ls256 C_h), ?_⟩
  obtain ⟨k3, w⟩ := w
  refine ⟨fun c1 => ?_, fun c1 => ?_⟩
  · have t2 : (fI h 256 1) + 20 ≤ 400 := ((Jle k3 (by decide)).mp c1)
    replace w := w.1 t2
    refine ⟨(ls256 C_h), ?_⟩
    refine Ex.mono w (Nat.le_refl _) ?_
    rintro v4 h5 ⟨rfl, s18, w⟩
    refine ⟨rfl, ?_⟩
    have C_h5 := Lay_SH s18 C_h
    try simp only [aI_wAL, fI_wAL, aL_wA, aL_wF, aI_wA_ne, aI_wF_ne, fI_wA_ne, fI_wF_ne, fI_wF_nk, aL_wAL_ne, J_sameA, J_sameF, aL_same, Nat.add_left_cancel_iff, Nat.add_eq_left, Nat.left_eq_add, not_false_eq_true, Nat.reduceEqDiff, Nat.reduceAdd, J_add, J_sub, J_mul, J_neg, J_and, J_or, J_xor, J_shl, J_shr, J_div, J_i2b, J_i2l, J_l2i, J_lcm, J_max, J_min, J_nab, J_nao, rdA, rdF, rdL, wA_fold, wF_fold, wL_fold, wC_fold]
    refine ⟨(ls256 C_h5), ?_⟩
    refine Ex.mono w (Nat.le_refl _) ?_
    rintro v6 h7 ⟨rfl, s17, w⟩
    refine ⟨rfl, ?_⟩
    have C_h7 := Lay_SH s17 C_h5
    try simp only [aI_wAL, fI_wAL, aL_wA, aL_wF, aI_wA_ne, aI_wF_ne, fI_wA_ne, fI_wF_ne, fI_wF_nk, aL_wAL_ne, J_sameA, J_sameF, aL_same, Nat.add_left_cancel_iff, Nat.add_eq_left, Nat.left_eq_add, not_false_eq_true, Nat.reduceEqDiff, Nat.reduceAdd, J_add, J_sub, J_mul, J_neg, J_and, J_or, J_xor, J_shl, J_shr, J_div, J_i2b, J_i2l, J_l2i, J_lcm, J_max, J_min, J_nab, J_nao, rdA, rdF, rdL, wA_fold, wF_fold, wL_fold, wC_fold]
    refine ⟨(ls256 C_h7), ?_⟩
    refine Ex.mono w (Nat.le_refl _) ?_
    rintro v8 h9 ⟨rfl, s16, w⟩
    refine ⟨rfl, ?_⟩
    have C_h9 := Lay_SH s16 C_h7
    try simp only [aI_wAL, fI_wAL, aL_wA, aL_wF, aI_wA_ne, aI_wF_ne, fI_wA_ne, fI_wF_ne, fI_wF_nk, aL_wAL_ne, J_sameA, J_sameF, aL_same, Nat.add_left_cancel_iff, Nat.add_eq_left, Nat.left_eq_add, not_false_eq_true, Nat.reduceEqDiff, Nat.reduceAdd, J_add, J_sub, J_mul, J_neg, J_and, J_or, J_xor, J_shl, J_shr, J_div, J_i2b, J_i2l, J_l2i, J_lcm, J_max, J_min, J_nab, J_nao, rdA, rdF, rdL, wA_fold, wF_fold, wL_fold, wC_fold]
    refine ⟨(ls256 C_h9), ?_⟩
    refine Ex.mono w (Nat.le_refl _) ?_
    rintro v10 h11 ⟨rfl, s15, w⟩
    refine ⟨rfl, ?_⟩
    have C_h11 := Lay_SH s15 C_h9
    try simp only [aI_wAL, fI_wAL, aL_wA, aL_wF, aI_wA_ne, aI_wF_ne, fI_wA_ne, fI_wF_ne, fI_wF_nk, aL_wAL_ne, J_sameA, J_sameF, aL_same, Nat.add_left_cancel_iff, Nat.add_eq_left, Nat.left_eq_add, not_false_eq_true, Nat.reduceEqDiff, Nat.reduceAdd, J_add, J_sub, J_mul, J_neg, J_and, J_or, J_xor, J_shl, J_shr, J_div, J_i2b, J_i2l, J_l2i, J_lcm, J_max, J_min, J_nab, J_nao, rdA, rdF, rdL, wA_fold, wF_fold, wL_fold, wC_fold]
    refine ⟨(ls256 C_h11), ?_⟩
    refine Ex.mono w (Nat.le_refl _) ?_
    rintro v12 h13 ⟨rfl, s14, w⟩
    refine ⟨rfl, ?_⟩
    have C_h13 := Lay_SH s14 C_h11
    try simp only [aI_wAL, fI_wAL, aL_wA, aL_wF, aI_wA_ne, aI_wF_ne, fI_wA_ne, fI_wF_ne, fI_wF_nk, aL_wAL_ne, J_sameA, J_sameF, aL_same, Nat.add_left_cancel_iff, Nat.add_eq_left, Nat.left_eq_add, not_false_eq_true, Nat.reduceEqDiff, Nat.reduceAdd, J_add, J_sub, J_mul, J_neg, J_and, J_or, J_xor, J_shl, J_shr, J_div, J_i2b, J_i2l, J_l2i, J_lcm, J_max, J_min, J_nab, J_nao, rdA, rdF, rdL, wA_fold, wF_fold, wL_fold, wC_fold]
    refine ⟨(ls256 C_h13), ?_⟩
    exact w
  · have t2 : ¬ (fI h 256 1) + 20 ≤ 400 := (fun e => c1 ((Jle k3 (by decide)).mpr e))
    replace w := w.2 t2
    exact w
theorem m169 {X : Cst} {d : Nat} {a b c e f l : Int} {h : AH} {Q : Post} (C : Lay h) (hd : 2 ≤ d) (el : fI h 256 1 = l) (hl : 0 ≤ l ∧ l ≤ 400)
    (k0 : ¬ l + 20 ≤ 400 → Q (some (.int (J (-1)))) h)
    (k : l + 20 ≤ 400 → ∀ h', Fr (fun c j => c = 257 ∨ (c = 256 ∧ j = 1)) h h' → fI h' 256 1 = l + 20 → aI h' 257 = put20 (aI h 257) l a b c e f → Q (some (.int (J (l + 20)))) h') : Ex X PG d 169 0 [some (.ref 256), some (.int (J a)), some (.int (J b)), some (.int (J c)), some (.int (J e)), some (.int (J f))] [] h Q := by
  obtain ⟨d, rfl⟩ : ∃ e, d = e + 1 := ⟨d - 1, by omega⟩
  refine r169_0 C ?_
  rw [el]
  refine ⟨by omega, fun g => ?_, fun g => k0 g⟩
  refine m170 (l := l) C (by omega) el (by omega) (fun h5 s5 p5 => ⟨rfl, s5, ?_⟩)
  refine m170 (l := l + 4) (p5.1.C C) (by omega) p5.2.1 (by omega) (fun h7 s7 p7 => ⟨rfl, s7, ?_⟩)
  have F7 := p5.1.tr p7.1
  refine m170 (l := l + 4 + 4) (F7.C C) (by omega) p7.2.1 (by omega) (fun h9 s9 p9 => ⟨rfl, s9, ?_⟩)
  have F9 := F7.tr p9.1
  refine m170 (l := l + 4 + 4 + 4) (F9.C C) (by omega) p9.2.1 (by omega) (fun h11 s11 p11 => ⟨rfl, s11, ?_⟩)
  have F11 := F9.tr p11.1
  refine m170 (l := l + 4 + 4 + 4 + 4) (F11.C C) (by omega) p11.2.1 (by omega) (fun h13 s13 p13 => ⟨rfl, s13, ?_⟩)
  have F13 := F11.tr p13.1
  have e13 : fI h13 256 1 = l + 20 := by rw [p13.2.1]; omega
  rw [e13]
  refine k g h13 F13 e13 ?_
  rw [p13.2.2, p11.2.2, p9.2.2, p7.2.2, p5.2.2]
  unfold put20
  rw [show l + 4 + 4 = l + 8 by omega, show l + 8 + 4 = l + 12 by omega, show l + 12 + 4 = l + 16 by omega]
-- OutwardDoorsModel.end(I)I at 0
set_option maxRecDepth 20000 in
set_option maxHeartbeats 4000000 in
theorem r171_0 {X : Cst} {d : Nat} {x1 : Int} {h : AH} {Q : Post} (C_h : Lay h)
  (w : (-2147483648 ≤ x1 ∧ x1 < 2147483648) ∧ ((x1 < 0 → Q (some (.int (J (-1)))) h) ∧ (¬ x1 < 0 → ((x1 ≤ fI h 256 1 → Q (some (.int (J x1))) (wF h 256 1 x1)) ∧ (¬ x1 ≤ fI h 256 1 → Q (some (.int (J (-1)))) h))))) :
    Ex X PG (d + 1) 171 0 [some (.ref 256), some (.int (J x1))] [] h Q := by
  refine wpx_ok (cut := []) 11 d 171 0 _ _ _ _ ?_
  show (((J x1) < (J 0) → Q (some (.int (J (-1)))) h) ∧ (¬ ((J x1) < (J 0)) → hs h 256 = (0, 11) ∧ (((J x1) ≤ (hF h 256 1) → hs h 256 = (0, 11) ∧ Q (some (.int (J x1))) (wG h 256 1 (J x1))) ∧ (¬ ((J x1) ≤ (hF h 256 1)) → Q (some (.int (J (-1)))) h))))
  try simp only [aI_wAL, fI_wAL, aL_wA, aL_wF, aI_wA_ne, aI_wF_ne, fI_wA_ne, fI_wF_ne, fI_wF_nk, aL_wAL_ne, J_sameA, J_sameF, aL_same, Nat.add_left_cancel_iff, Nat.add_eq_left, Nat.left_eq_add, not_false_eq_true, Nat.reduceEqDiff, Nat.reduceAdd, J_add, J_sub, J_mul, J_neg, J_and, J_or, J_xor, J_shl, J_shr, J_div, J_i2b, J_i2l, J_l2i, J_lcm, J_max, J_min, J_nab, J_nao, rdA, rdF, rdL, wA_fold, wF_fold, wL_fold, wC_fold]
  obtain ⟨k3, w⟩ := w
  refine ⟨fun c1 => ?_, fun c1 => ?_⟩
  · have t2 : x1 < 0 := ((Jlt k3 (by decide)).mp c1)
    replace w := w.1 t2
    exact w
  · have t2 : ¬ x1 < 0 := (fun e => c1 ((Jlt k3 (by decide)).mpr e))
    replace w := w.2 t2
    refine ⟨(ls256 C_h), ?_⟩
    refine ⟨fun c4 => ?_, fun c4 => ?_⟩
    · have t5 : x1 ≤ fI h 256 1 := ((Jle k3 (rg_toInt _)).mp c4)
      replace w := w.1 t5
      refine ⟨(ls256 C_h), ?_⟩
      exact w
    · have t5 : ¬ x1 ≤ fI h 256 1 := (fun e => c4 ((Jle k3 (rg_toInt _)).mpr e))
      replace w := w.2 t5
      exact w
theorem m171 {X : Cst} {d : Nat} {n : Int} {h : AH} {Q : Post} (C : Lay h) (hd : 1 ≤ d) (g : -2147483648 ≤ n ∧ n < 2147483648) (k0 : ¬ (0 ≤ n ∧ n ≤ fI h 256 1) → Q (some (.int (J (-1)))) h) (k : (0 ≤ n ∧ n ≤ fI h 256 1) → Q (some (.int (J n))) (wF h 256 1 n)) : Ex X PG d 171 0 [some (.ref 256), some (.int (J n))] [] h Q := by
  obtain ⟨d, rfl⟩ : ∃ e, d = e + 1 := ⟨d - 1, by omega⟩
  exact r171_0 C ⟨g, fun c => k0 (by omega), fun c => ⟨fun c2 => k (by omega), fun c2 => k0 (by omega)⟩⟩
